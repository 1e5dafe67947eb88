set_option maxHeartbeats 4000000 in
set_option maxRecDepth 100000 in
theorem km188_X13_skinsIn (l : Launch) (G : KG) (tag : Nat → Nat) (L : List Nat) (Fo : Nat → va_E) (ho : okT G ttC tag L Fo) (p0 : Nat) (p1 : Int32) (x0 : Nat) (m0 : p0 ∈ L) (g0 : tag p0 = 46) (mx0 : x0 ∈ L) (gx0 : tag x0 = 45) (pf0 : fld Fo p0 3 = .ref x0) : TMi l yX13_skinsIn cX13_skinsIn 3 (some .int) { frames := 8, cells := 0, slots := 0, locals := 192 } G ttC tag L Fo [.ref p0, .int p1] (fun r F1 => ((-2147483648) ≤ r.toInt ∧ r.toInt ≤ 2147483647) ∧ ((∀ b j : Nat, (tag b ≠ 46 ∨ j ≠ 0) → (tag b ≠ 46 ∨ j ≠ 1) → (tag b ≠ 46 ∨ j ≠ 2) → (tag b ≠ 46 ∨ j ≠ 22) → (tag b ≠ 46 ∨ j ≠ 23) → fld F1 b j = fld Fo b j) ∧ (∀ b j : Nat, tag b ≠ 37 → tag b ≠ 40 → elm F1 b j = elm Fo b j))) := by
  refine t_bodyi (y := yX13_skinsIn) (cd := cX13_skinsIn) (mL := 3) (rt := (some .int)) (rm := { frames := 8, cells := 0, slots := 0, locals := 192 }) (av := [.ref p0, .int p1]) (by decide) (Nat.le_of_ble_eq_true rfl) ho ?_
  intro p e s m args below meth c ls A Q hQ X hT hl
  have hx := X.1.1
  have hb := X.1.2.1
  have hl : lv_has ls 3 [(0, .ref p0), (1, .int p1)] := hl
  have rp1 := rg_all p1
  obtain ⟨F, hFo⟩ : ∃ F : Nat → va_E, F = Fo := ⟨_, rfl⟩
  rw [← hFo] at hT pf0
  have hfr : (∀ b j : Nat, (tag b ≠ 46 ∨ j ≠ 0) → (tag b ≠ 46 ∨ j ≠ 1) → (tag b ≠ 46 ∨ j ≠ 2) → (tag b ≠ 46 ∨ j ≠ 22) → (tag b ≠ 46 ∨ j ≠ 23) → fld F b j = fld Fo b j) ∧ (∀ b j : Nat, tag b ≠ 37 → tag b ≠ 40 → elm F b j = elm Fo b j) := by
    rw [hFo]
    exact ⟨by intros; rfl, by intros; rfl⟩
  refine lv_aload_n hx hb dX13_skinsIn_0 rfl (lv_at hl 0 rfl) ?_
  refine lv_iconst (v := 0) hx hb dX13_skinsIn_1 (by decide) ?_
  refine t_put (C := RX13) (T := TX13) (N := 37) (v := .int 0) X hT m0 g0 rfl tyX13 tyX13_ok nmX13 rfl 0 (by decide) qw_140 inlX13 rfl (by first | rfl | decide) (by first | rfl | decide) rfl (⟨_, rfl, (show (-2147483648) ≤ (0 : Int32).toInt from (by decide)), (show (0 : Int32).toInt ≤ 2147483647 from (by decide))⟩) dX13_skinsIn_2 (fun F H locs hT v54313 h1v54313 h2v54313 => ?_)
  have pf0 := (h1v54313 _ _ (Or.inr (by decide))).trans pf0
  have hfr : (∀ b j : Nat, (tag b ≠ 46 ∨ j ≠ 0) → (tag b ≠ 46 ∨ j ≠ 1) → (tag b ≠ 46 ∨ j ≠ 2) → (tag b ≠ 46 ∨ j ≠ 22) → (tag b ≠ 46 ∨ j ≠ 23) → fld F b j = fld Fo b j) ∧ (∀ b j : Nat, tag b ≠ 37 → tag b ≠ 40 → elm F b j = elm Fo b j) := ⟨fun b j n46_0 n46_1 n46_2 n46_22 n46_23 => (h1v54313 b j (fr_ne g0 n46_0)).trans (hfr.1 b j n46_0 n46_1 n46_2 n46_22 n46_23), fun b j a37 a40 => (h2v54313 b j).trans (hfr.2 b j a37 a40)⟩
  refine lv_aload_n hx hb dX13_skinsIn_5 rfl (lv_at hl 0 rfl) ?_
  refine lv_iconst (v := 1) hx hb dX13_skinsIn_6 (by decide) ?_
  refine lv_iload_n hx hb dX13_skinsIn_7 rfl (lv_at hl 1 rfl) ?_
  refine lv_bipush (v := 60) hx hb dX13_skinsIn_8 (by decide) ?_
  refine t_cVi (n := 3) (C := RX13) (T := TX13) (N := 37) (As := [.int 1, .int p1, .int 60]) (rest := []) X hT (km175_X13_refusesIn l G tag L F hT.2.2.2 p0 1 p1 60 x0 m0 g0 (by decide) mx0 gx0 pf0) m0 g0 rfl rfl qw_1144 qw_1145 qw_1146 qw_5 qw_1147 ⟨rfl, by decide +kernel, by decide +kernel, by decide +kernel⟩ ⟨Nat.le_of_ble_eq_true rfl, Nat.le_of_ble_eq_true rfl⟩ hl rfl rfl (Nat.le_of_ble_eq_true rfl) dX13_skinsIn_10 ⟨Nat.le_of_ble_eq_true rfl, Nat.le_of_ble_eq_true rfl⟩ (fun z54314 F9 H locs hT hz54314 => ?_)
  obtain ⟨fz54314, hz54314, xz54314_0⟩ := hz54314
  rw [fz54314] at hT
  have k54315 : (1 : Int32).toInt = 1 := by decide
  have k54316 : (60 : Int32).toInt = 60 := by decide
  refine lv_istore_n (lv' := [(2, .int z54314), (0, .ref p0), (1, .int p1)]) hx hb dX13_skinsIn_13 rfl hl (by decide) rfl (fun ls hl => ?_)
  refine lv_iload_n hx hb dX13_skinsIn_14 rfl (lv_at hl 0 rfl) ?_
  refine lv_if_le (tgt := 24) hx hb dX13_skinsIn_15 (by decide) (fun c54317 => ?_) (fun c54317 => ?_)
  · have w54318 := cv_le (rfl : z54314.toInt = z54314.toInt) (by decide : (0 : Int32).toInt = 0) c54317
    have w54319 := xz54314_0 (by omega)
    refine lv_aload_n hx hb dX13_skinsIn_24 rfl (lv_at hl 1 rfl) ?_
    refine lv_iload_n hx hb dX13_skinsIn_25 rfl (lv_at hl 2 rfl) ?_
    refine t_cVv (n := 1) (C := RX13) (T := TX13) (N := 37) (As := [.int p1]) (rest := []) X hT (km182_X13_inYears l G tag L F hT.2.2.2 p0 p1 x0 m0 g0 (by omega) mx0 gx0 pf0) m0 g0 rfl rfl qw_1148 qw_1149 qw_1150 qw_5 qw_1151 ⟨rfl, by decide +kernel, by decide +kernel, by decide +kernel⟩ ⟨Nat.le_of_ble_eq_true rfl, Nat.le_of_ble_eq_true rfl⟩ hl rfl rfl (Nat.le_of_ble_eq_true rfl) dX13_skinsIn_26 ⟨Nat.le_of_ble_eq_true rfl, Nat.le_of_ble_eq_true rfl⟩ (fun F H locs hT hz54320 => ?_)
    have yz54320 := hz54320
    have pf0 := (yz54320.1 _ 3 (Or.inr (by decide)) (Or.inr (by decide))).trans pf0
    have v54313 := (yz54320.1 _ 0 (Or.inr (by decide)) (Or.inr (by decide))).trans v54313
    have hfr : (∀ b j : Nat, (tag b ≠ 46 ∨ j ≠ 0) → (tag b ≠ 46 ∨ j ≠ 1) → (tag b ≠ 46 ∨ j ≠ 2) → (tag b ≠ 46 ∨ j ≠ 22) → (tag b ≠ 46 ∨ j ≠ 23) → fld F b j = fld Fo b j) ∧ (∀ b j : Nat, tag b ≠ 37 → tag b ≠ 40 → elm F b j = elm Fo b j) := ⟨fun b j n46_0 n46_1 n46_2 n46_22 n46_23 => (yz54320.1 b j n46_22 n46_23).trans (hfr.1 b j n46_0 n46_1 n46_2 n46_22 n46_23), fun b j a37 a40 => (yz54320.2 b j a37 a40).trans (hfr.2 b j a37 a40)⟩
    refine lv_aload_n hx hb dX13_skinsIn_29 rfl (lv_at hl 1 rfl) ?_
    refine lv_aload_n hx hb dX13_skinsIn_30 rfl (lv_at hl 1 rfl) ?_
    refine t_get (C := RX13) (T := TX13) (N := 37) X hT m0 g0 rfl rfl 17 (by decide) qw_113 inlX13 rfl dX13_skinsIn_31 (fun v54321 hv54321 ov54321 => ?_)
    obtain ⟨b54322, rfl, mb54322, gb54322⟩ := okV_r ov54321
    have gb54322 : tag b54322 = 37 := tg_of gb54322
    refine t_cSi (n := 1) (As := [.ref b54322]) (rest := [.ref p0]) X hT (km187_X13_allSkins l G tag L F hT.2.2.2 b54322 mb54322 gb54322) qw_1190 qw_1191 qw_5 qw_1192 ⟨by decide +kernel, by decide +kernel, by decide +kernel⟩ ⟨Nat.le_of_ble_eq_true rfl, Nat.le_of_ble_eq_true rfl⟩ hl rfl rfl (Nat.le_of_ble_eq_true rfl) dX13_skinsIn_34 ⟨Nat.le_of_ble_eq_true rfl, Nat.le_of_ble_eq_true rfl⟩ (fun z54323 F9 H locs hT hz54323 => ?_)
    obtain ⟨fz54323, hz54323⟩ := hz54323
    rw [fz54323] at hT
    refine t_cVi (n := 1) (C := RX13) (T := TX13) (N := 37) (As := [.int z54323]) (rest := []) X hT (km93_X13_good l G tag L F hT.2.2.2 p0 z54323 m0 g0) m0 g0 rfl rfl qw_687 qw_688 qw_689 qw_5 qw_690 ⟨rfl, by decide +kernel, by decide +kernel, by decide +kernel⟩ ⟨Nat.le_of_ble_eq_true rfl, Nat.le_of_ble_eq_true rfl⟩ hl rfl rfl (Nat.le_of_ble_eq_true rfl) dX13_skinsIn_37 ⟨Nat.le_of_ble_eq_true rfl, Nat.le_of_ble_eq_true rfl⟩ (fun z54324 F H locs hT hz54324 => ?_)
    obtain ⟨hz54324, yz54324⟩ := hz54324
    have pf0 := (yz54324.1 _ 3 (Or.inr (by decide)) (Or.inr (by decide))).trans pf0
    have v54313 := (yz54324.1 _ 0 (Or.inr (by decide)) (Or.inr (by decide))).trans v54313
    have hv54321 := (yz54324.1 _ 17 (Or.inr (by decide)) (Or.inr (by decide))).trans hv54321
    have hfr : (∀ b j : Nat, (tag b ≠ 46 ∨ j ≠ 0) → (tag b ≠ 46 ∨ j ≠ 1) → (tag b ≠ 46 ∨ j ≠ 2) → (tag b ≠ 46 ∨ j ≠ 22) → (tag b ≠ 46 ∨ j ≠ 23) → fld F b j = fld Fo b j) ∧ (∀ b j : Nat, tag b ≠ 37 → tag b ≠ 40 → elm F b j = elm Fo b j) := ⟨fun b j n46_0 n46_1 n46_2 n46_22 n46_23 => (yz54324.1 b j n46_1 n46_2).trans (hfr.1 b j n46_0 n46_1 n46_2 n46_22 n46_23), fun b j a37 a40 => (yz54324.2 b j ).trans (hfr.2 b j a37 a40)⟩
    exact t_iret hQ X hT (⟨rg_all _, hfr⟩) (Nat.le_of_ble_eq_true rfl) (Nat.le_of_ble_eq_true rfl) dX13_skinsIn_40
  · have w54325 := cv_nle (rfl : z54314.toInt = z54314.toInt) (by decide : (0 : Int32).toInt = 0) c54317
    refine lv_aload_n hx hb dX13_skinsIn_18 rfl (lv_at hl 1 rfl) ?_
    refine lv_iload_n hx hb dX13_skinsIn_19 rfl (lv_at hl 0 rfl) ?_
    refine t_cVi (n := 1) (C := RX13) (T := TX13) (N := 37) (As := [.int z54314]) (rest := []) X hT (km88_X13_refused l G tag L F hT.2.2.2 p0 z54314 m0 g0) m0 g0 rfl rfl qw_484 qw_485 qw_486 qw_5 qw_487 ⟨rfl, by decide +kernel, by decide +kernel, by decide +kernel⟩ ⟨Nat.le_of_ble_eq_true rfl, Nat.le_of_ble_eq_true rfl⟩ hl rfl rfl (Nat.le_of_ble_eq_true rfl) dX13_skinsIn_20 ⟨Nat.le_of_ble_eq_true rfl, Nat.le_of_ble_eq_true rfl⟩ (fun z54326 F H locs hT hz54326 => ?_)
    obtain ⟨hz54326, yz54326⟩ := hz54326
    have pf0 := (yz54326.1 _ 3 (Or.inr (by decide)) (Or.inr (by decide))).trans pf0
    have v54313 := (yz54326.1 _ 0 (Or.inr (by decide)) (Or.inr (by decide))).trans v54313
    have hfr : (∀ b j : Nat, (tag b ≠ 46 ∨ j ≠ 0) → (tag b ≠ 46 ∨ j ≠ 1) → (tag b ≠ 46 ∨ j ≠ 2) → (tag b ≠ 46 ∨ j ≠ 22) → (tag b ≠ 46 ∨ j ≠ 23) → fld F b j = fld Fo b j) ∧ (∀ b j : Nat, tag b ≠ 37 → tag b ≠ 40 → elm F b j = elm Fo b j) := ⟨fun b j n46_0 n46_1 n46_2 n46_22 n46_23 => (yz54326.1 b j n46_1 n46_2).trans (hfr.1 b j n46_0 n46_1 n46_2 n46_22 n46_23), fun b j a37 a40 => (yz54326.2 b j ).trans (hfr.2 b j a37 a40)⟩
    exact t_iret hQ X hT (⟨rg_all _, hfr⟩) (Nat.le_of_ble_eq_true rfl) (Nat.le_of_ble_eq_true rfl) dX13_skinsIn_23
set_option maxHeartbeats 4000000 in
set_option maxRecDepth 100000 in
theorem km189_X13_refusesIn (l : Launch) (G : KG) (tag : Nat → Nat) (L : List Nat) (F : Nat → va_E) (ho : okT G ttC tag L F) (p0 : Nat) (p1 : Int32) (p2 : Int32) (p3 : Int32) (m0 : p0 ∈ L) (g0 : tag p0 = 46) (h1 : 1 ≤ p1.toInt ∧ p1.toInt ≤ 1) (pf0 : fld F p0 3 = .null) : TMi l yX13_refusesIn cX13_refusesIn 4 (some .int) { frames := 0, cells := 0, slots := 0, locals := 0 } G ttC tag L F [.ref p0, .int p1, .int p2, .int p3] (fun r F1 => F1 = F ∧ (1 ≤ r.toInt ∧ r.toInt ≤ 1)) := by
  refine t_bodyi (y := yX13_refusesIn) (cd := cX13_refusesIn) (mL := 4) (rt := (some .int)) (rm := { frames := 0, cells := 0, slots := 0, locals := 0 }) (av := [.ref p0, .int p1, .int p2, .int p3]) (by decide) (Nat.le_of_ble_eq_true rfl) ho ?_
  intro p e s m args below meth c ls A Q hQ X hT hl
  have hx := X.1.1
  have hb := X.1.2.1
  have hl : lv_has ls 4 [(0, .ref p0), (1, .int p1), (2, .int p2), (3, .int p3)] := hl
  have rp2 := rg_all p2
  have rp3 := rg_all p3
  refine lv_aload_n hx hb dX13_refusesIn_0 rfl (lv_at hl 0 rfl) ?_
  refine t_get (C := RX13) (T := TX13) (N := 37) X hT m0 g0 rfl rfl 3 (by decide) qw_481 inlX13 rfl dX13_refusesIn_1 (fun v54339 hv54339 ov54339 => ?_)
  obtain rfl : v54339 = .null := hv54339.symm.trans pf0
  refine lv_ifnullN (tgt := 11) hx hb dX13_refusesIn_4 (by decide) ?_
  refine lv_iconst (v := 1) hx hb dX13_refusesIn_11 (by decide) ?_
  refine lv_goto (tgt := 29) hx hb dX13_refusesIn_12 (by decide) ?_
  have k54340 : (1 : Int32).toInt = 1 := by decide
  exact t_iret hQ X hT (⟨rfl, (by decide)⟩) (Nat.le_of_ble_eq_true rfl) (Nat.le_of_ble_eq_true rfl) dX13_refusesIn_29
set_option maxHeartbeats 4000000 in
set_option maxRecDepth 100000 in
theorem km190_X13_skinsIn (l : Launch) (G : KG) (tag : Nat → Nat) (L : List Nat) (Fo : Nat → va_E) (ho : okT G ttC tag L Fo) (p0 : Nat) (p1 : Int32) (m0 : p0 ∈ L) (g0 : tag p0 = 46) (pf0 : fld Fo p0 3 = .null) : TMi l yX13_skinsIn cX13_skinsIn 3 (some .int) { frames := 8, cells := 0, slots := 0, locals := 192 } G ttC tag L Fo [.ref p0, .int p1] (fun r F1 => ((-2147483648) ≤ r.toInt ∧ r.toInt ≤ 2147483647) ∧ ((∀ b j : Nat, (tag b ≠ 46 ∨ j ≠ 0) → (tag b ≠ 46 ∨ j ≠ 1) → (tag b ≠ 46 ∨ j ≠ 2) → (tag b ≠ 46 ∨ j ≠ 22) → (tag b ≠ 46 ∨ j ≠ 23) → fld F1 b j = fld Fo b j) ∧ (∀ b j : Nat, tag b ≠ 37 → tag b ≠ 40 → elm F1 b j = elm Fo b j))) := by
  refine t_bodyi (y := yX13_skinsIn) (cd := cX13_skinsIn) (mL := 3) (rt := (some .int)) (rm := { frames := 8, cells := 0, slots := 0, locals := 192 }) (av := [.ref p0, .int p1]) (by decide) (Nat.le_of_ble_eq_true rfl) ho ?_
  intro p e s m args below meth c ls A Q hQ X hT hl
  have hx := X.1.1
  have hb := X.1.2.1
  have hl : lv_has ls 3 [(0, .ref p0), (1, .int p1)] := hl
  have rp1 := rg_all p1
  obtain ⟨F, hFo⟩ : ∃ F : Nat → va_E, F = Fo := ⟨_, rfl⟩
  rw [← hFo] at hT pf0
  have hfr : (∀ b j : Nat, (tag b ≠ 46 ∨ j ≠ 0) → (tag b ≠ 46 ∨ j ≠ 1) → (tag b ≠ 46 ∨ j ≠ 2) → (tag b ≠ 46 ∨ j ≠ 22) → (tag b ≠ 46 ∨ j ≠ 23) → fld F b j = fld Fo b j) ∧ (∀ b j : Nat, tag b ≠ 37 → tag b ≠ 40 → elm F b j = elm Fo b j) := by
    rw [hFo]
    exact ⟨by intros; rfl, by intros; rfl⟩
  refine lv_aload_n hx hb dX13_skinsIn_0 rfl (lv_at hl 0 rfl) ?_
  refine lv_iconst (v := 0) hx hb dX13_skinsIn_1 (by decide) ?_
  refine t_put (C := RX13) (T := TX13) (N := 37) (v := .int 0) X hT m0 g0 rfl tyX13 tyX13_ok nmX13 rfl 0 (by decide) qw_140 inlX13 rfl (by first | rfl | decide) (by first | rfl | decide) rfl (⟨_, rfl, (show (-2147483648) ≤ (0 : Int32).toInt from (by decide)), (show (0 : Int32).toInt ≤ 2147483647 from (by decide))⟩) dX13_skinsIn_2 (fun F H locs hT v54406 h1v54406 h2v54406 => ?_)
  have pf0 := (h1v54406 _ _ (Or.inr (by decide))).trans pf0
  have hfr : (∀ b j : Nat, (tag b ≠ 46 ∨ j ≠ 0) → (tag b ≠ 46 ∨ j ≠ 1) → (tag b ≠ 46 ∨ j ≠ 2) → (tag b ≠ 46 ∨ j ≠ 22) → (tag b ≠ 46 ∨ j ≠ 23) → fld F b j = fld Fo b j) ∧ (∀ b j : Nat, tag b ≠ 37 → tag b ≠ 40 → elm F b j = elm Fo b j) := ⟨fun b j n46_0 n46_1 n46_2 n46_22 n46_23 => (h1v54406 b j (fr_ne g0 n46_0)).trans (hfr.1 b j n46_0 n46_1 n46_2 n46_22 n46_23), fun b j a37 a40 => (h2v54406 b j).trans (hfr.2 b j a37 a40)⟩
  refine lv_aload_n hx hb dX13_skinsIn_5 rfl (lv_at hl 0 rfl) ?_
  refine lv_iconst (v := 1) hx hb dX13_skinsIn_6 (by decide) ?_
  refine lv_iload_n hx hb dX13_skinsIn_7 rfl (lv_at hl 1 rfl) ?_
  refine lv_bipush (v := 60) hx hb dX13_skinsIn_8 (by decide) ?_
  refine t_cVi (n := 3) (C := RX13) (T := TX13) (N := 37) (As := [.int 1, .int p1, .int 60]) (rest := []) X hT (km189_X13_refusesIn l G tag L F hT.2.2.2 p0 1 p1 60 m0 g0 (by decide) pf0) m0 g0 rfl rfl qw_1144 qw_1145 qw_1146 qw_5 qw_1147 ⟨rfl, by decide +kernel, by decide +kernel, by decide +kernel⟩ ⟨Nat.le_of_ble_eq_true rfl, Nat.le_of_ble_eq_true rfl⟩ hl rfl rfl (Nat.le_of_ble_eq_true rfl) dX13_skinsIn_10 ⟨Nat.le_of_ble_eq_true rfl, Nat.le_of_ble_eq_true rfl⟩ (fun z54407 F9 H locs hT hz54407 => ?_)
  obtain ⟨fz54407, hz54407⟩ := hz54407
  rw [fz54407] at hT
  refine lv_istore_n (lv' := [(2, .int z54407), (0, .ref p0), (1, .int p1)]) hx hb dX13_skinsIn_13 rfl hl (by decide) rfl (fun ls hl => ?_)
  refine lv_iload_n hx hb dX13_skinsIn_14 rfl (lv_at hl 0 rfl) ?_
  refine lv_if_le (tgt := 24) hx hb dX13_skinsIn_15 (by decide) (fun c54408 => ?_) (fun c54408 => ?_)
  · have w54409 := cv_le (rfl : z54407.toInt = z54407.toInt) (by decide : (0 : Int32).toInt = 0) c54408
    exfalso
    omega
  · have w54410 := cv_nle (rfl : z54407.toInt = z54407.toInt) (by decide : (0 : Int32).toInt = 0) c54408
    refine lv_aload_n hx hb dX13_skinsIn_18 rfl (lv_at hl 1 rfl) ?_
    refine lv_iload_n hx hb dX13_skinsIn_19 rfl (lv_at hl 0 rfl) ?_
    refine t_cVi (n := 1) (C := RX13) (T := TX13) (N := 37) (As := [.int z54407]) (rest := []) X hT (km88_X13_refused l G tag L F hT.2.2.2 p0 z54407 m0 g0) m0 g0 rfl rfl qw_484 qw_485 qw_486 qw_5 qw_487 ⟨rfl, by decide +kernel, by decide +kernel, by decide +kernel⟩ ⟨Nat.le_of_ble_eq_true rfl, Nat.le_of_ble_eq_true rfl⟩ hl rfl rfl (Nat.le_of_ble_eq_true rfl) dX13_skinsIn_20 ⟨Nat.le_of_ble_eq_true rfl, Nat.le_of_ble_eq_true rfl⟩ (fun z54411 F H locs hT hz54411 => ?_)
    obtain ⟨hz54411, yz54411⟩ := hz54411
    have pf0 := (yz54411.1 _ 3 (Or.inr (by decide)) (Or.inr (by decide))).trans pf0
    have v54406 := (yz54411.1 _ 0 (Or.inr (by decide)) (Or.inr (by decide))).trans v54406
    have hfr : (∀ b j : Nat, (tag b ≠ 46 ∨ j ≠ 0) → (tag b ≠ 46 ∨ j ≠ 1) → (tag b ≠ 46 ∨ j ≠ 2) → (tag b ≠ 46 ∨ j ≠ 22) → (tag b ≠ 46 ∨ j ≠ 23) → fld F b j = fld Fo b j) ∧ (∀ b j : Nat, tag b ≠ 37 → tag b ≠ 40 → elm F b j = elm Fo b j) := ⟨fun b j n46_0 n46_1 n46_2 n46_22 n46_23 => (yz54411.1 b j n46_1 n46_2).trans (hfr.1 b j n46_0 n46_1 n46_2 n46_22 n46_23), fun b j a37 a40 => (yz54411.2 b j ).trans (hfr.2 b j a37 a40)⟩
    exact t_iret hQ X hT (⟨rg_all _, hfr⟩) (Nat.le_of_ble_eq_true rfl) (Nat.le_of_ble_eq_true rfl) dX13_skinsIn_23
theorem kp_X13_skinsIn (l : Launch) (G : KG) (tag : Nat → Nat) (L : List Nat) (Fo : Nat → va_E) (ho : okT G ttC tag L Fo) (p0 : Nat) (p1 : Int32) (m0 : p0 ∈ L) (g0 : tag p0 = 46) : TMi l yX13_skinsIn cX13_skinsIn 3 (some .int) { frames := 8, cells := 0, slots := 0, locals := 192 } G ttC tag L Fo [.ref p0, .int p1] (fun r F1 => ((-2147483648) ≤ r.toInt ∧ r.toInt ≤ 2147483647) ∧ ((∀ b j : Nat, (tag b ≠ 46 ∨ j ≠ 0) → (tag b ≠ 46 ∨ j ≠ 1) → (tag b ≠ 46 ∨ j ≠ 2) → (tag b ≠ 46 ∨ j ≠ 22) → (tag b ≠ 46 ∨ j ≠ 23) → fld F1 b j = fld Fo b j) ∧ (∀ b j : Nat, tag b ≠ 37 → tag b ≠ 40 → elm F1 b j = elm Fo b j))) := by
  rcases t_fldn ho m0 g0 rfl 3 rfl with h9 | ⟨b9, h9, m9, t9⟩
  · exact km190_X13_skinsIn l G tag L Fo ho p0 p1  m0 g0 h9 
  · exact km188_X13_skinsIn l G tag L Fo ho p0 p1 b9  m0 g0 m9 (tg_of t9) h9 
set_option maxHeartbeats 4000000 in
set_option maxRecDepth 100000 in
theorem km192_X13_doMeet (l : Launch) (G : KG) (tag : Nat → Nat) (L : List Nat) (F : Nat → va_E) (ho : okT G ttC tag L F) (p0 : Nat) (p1 : Nat) (p2 : Int32) (p3 : Int32) (x0 : Nat) (m0 : p0 ∈ L) (g0 : tag p0 = 46) (m1 : p1 ∈ L) (g1 : tag p1 = 37) (h2 : 0 ≤ p2.toInt ∧ p2.toInt ≤ 3) (h3 : 0 ≤ p3.toInt ∧ p3.toInt ≤ 3) (mx0 : x0 ∈ L) (gx0 : tag x0 = 45) (pf0 : fld F p0 3 = .ref x0) : TMi l yX13_doMeet cX13_doMeet 8 (some .boolean) { frames := 2, cells := 0, slots := 0, locals := 46 } G ttC tag L F [.ref p0, .ref p1, .int p2, .int p3] (fun r F1 => F1 = F ∧ (0 ≤ r.toInt ∧ r.toInt ≤ 1)) := by
  refine t_bodyi (y := yX13_doMeet) (cd := cX13_doMeet) (mL := 8) (rt := (some .boolean)) (rm := { frames := 2, cells := 0, slots := 0, locals := 46 }) (av := [.ref p0, .ref p1, .int p2, .int p3]) (by decide) (Nat.le_of_ble_eq_true rfl) ho ?_
  intro p e s m args below meth c ls A Q hQ X hT hl
  have hx := X.1.1
  have hb := X.1.2.1
  have hl : lv_has ls 8 [(0, .ref p0), (1, .ref p1), (2, .int p2), (3, .int p3)] := hl
  have K3 : ∀ (n : Nat) (z56041 : Int32) (H : Heap) (locs : List Loc) (ls : Array Slot), (144 - z56041.toInt < (n : Int)) → (0 ≤ z56041.toInt ∧ z56041.toInt ≤ 144) → TH G ttC A s tag L F H locs → lv_has ls 8 [(0, .ref p0), (1, .ref p1), (2, .int p2), (3, .int p3), (4, .int z56041)] → W p l e { frames := 2, cells := 0, slots := 0, locals := 46 } s m args below meth c H locs 0 0 Q (F0 m 3 ls []) := by
    intro n
    induction n with
    | zero =>
      intro z56041 H locs ls hn rz56041 hT hl
      exfalso
      omega
    | succ n ih3 =>
      intro z56041 H locs ls hn rz56041 hT hl
      have K133 : ∀ (z56043 : Int32) (z56044 : Int32) (z56045 : Int32) (H : Heap) (locs : List Loc) (ls : Array Slot), (0 ≤ z56043.toInt ∧ z56043.toInt ≤ 11) → (0 ≤ z56044.toInt ∧ z56044.toInt ≤ 143) → (1 ≤ z56045.toInt ∧ z56045.toInt ≤ 12) → (0 ≤ z56041.toInt ∧ z56041.toInt ≤ 143) → TH G ttC A s tag L F H locs → (fld F x0 0 = .int z56045) → lv_has ls 8 [(0, .ref p0), (1, .ref p1), (2, .int p2), (3, .int p3), (4, .int z56041), (5, .int z56043), (6, .int z56044)] → W p l e { frames := 2, cells := 0, slots := 0, locals := 46 } s m args below meth c H locs 0 0 Q (F0 m 133 ls []) := by
        intro z56043 z56044 z56045 H locs ls rz56043 rz56044 rz56045 r9s56042 hT qz56045 hl
        obtain ⟨z56046, ez56046⟩ : ∃ y : Int32, y = z56041 + 1 := ⟨_, rfl⟩
        have hz56046 : z56046.toInt = z56041.toInt + 1 := ar_add ez56046 rfl (by decide : (1 : Int32).toInt = 1) (by omega) (by omega)
        refine lv_iinc (v := z56046) (lv' := [(4, .int z56046), (0, .ref p0), (1, .ref p1), (2, .int p2), (3, .int p3), (5, .int z56043), (6, .int z56044)]) hx hb dX13_doMeet_133 hl (k := 4) rfl (by rw [ez56046]; rfl) (by decide) rfl (fun ls hl => ?_)
        refine lv_goto (tgt := 3) hx hb dX13_doMeet_136 (by decide) ?_
        exact ih3 z56046 _ _ _ (by omega) (by omega) hT  (lv_sub hl [1, 2, 3, 4, 0] rfl)
      have K87 : ∀ (n : Nat) (z56048 : Int32) (z56049 : Int32) (z56050 : Int32) (z56051 : Int32) (H : Heap) (locs : List Loc) (ls : Array Slot), (4 - z56050.toInt < (n : Int)) → (0 ≤ z56048.toInt ∧ z56048.toInt ≤ 11) → (0 ≤ z56049.toInt ∧ z56049.toInt ≤ 143) → (0 ≤ z56050.toInt ∧ z56050.toInt ≤ 4) → (1 ≤ z56051.toInt ∧ z56051.toInt ≤ 12) → (0 ≤ z56041.toInt ∧ z56041.toInt ≤ 143) → TH G ttC A s tag L F H locs → (fld F x0 0 = .int z56051) → lv_has ls 8 [(0, .ref p0), (1, .ref p1), (2, .int p2), (3, .int p3), (4, .int z56041), (5, .int z56048), (6, .int z56049), (7, .int z56050)] → W p l e { frames := 2, cells := 0, slots := 0, locals := 46 } s m args below meth c H locs 0 0 Q (F0 m 87 ls []) := by
        intro n
        induction n with
        | zero =>
          intro z56048 z56049 z56050 z56051 H locs ls hn rz56048 rz56049 rz56050 rz56051 r9s56047 hT qz56051 hl
          exfalso
          omega
        | succ n ih87 =>
          intro z56048 z56049 z56050 z56051 H locs ls hn rz56048 rz56049 rz56050 rz56051 r9s56047 hT qz56051 hl
          refine lv_iload hx hb dX13_doMeet_87 (lv_at hl 7 rfl) ?_
          refine lv_iconst (v := 4) hx hb dX13_doMeet_89 (by decide) ?_
          refine lv_icmp_ge (tgt := 133) hx hb dX13_doMeet_90 (by decide) (fun c56052 => ?_) (fun c56052 => ?_)
          · have w56053 := cv_le (by decide : (4 : Int32).toInt = 4) (rfl : z56050.toInt = z56050.toInt) c56052
            exact K133 z56048 z56049 z56051 _ _ _ (by omega) (by omega) (by omega) (by omega) hT qz56051 (lv_sub hl [0, 1, 2, 3, 4, 5, 6] rfl)
          · have w56054 := cv_nle (by decide : (4 : Int32).toInt = 4) (rfl : z56050.toInt = z56050.toInt) c56052
            refine lv_aload_n hx hb dX13_doMeet_93 rfl (lv_at hl 0 rfl) ?_
            refine t_get (C := RX13) (T := TX13) (N := 37) X hT m0 g0 rfl rfl 3 (by decide) qw_481 inlX13 rfl dX13_doMeet_94 (fun v56055 hv56055 ov56055 => ?_)
            obtain rfl : v56055 = .ref x0 := hv56055.symm.trans pf0
            refine lv_iload_n hx hb dX13_doMeet_97 rfl (lv_at hl 3 rfl) ?_
            refine lv_iload hx hb dX13_doMeet_98 (lv_at hl 5 rfl) ?_
            refine lv_iload hx hb dX13_doMeet_100 (lv_at hl 7 rfl) ?_
            refine t_cSi (n := 1) (As := [.int z56050]) (rest := [.int z56048, .int p3, .ref x0]) X hT (km109_X13_outX l G tag L F hT.2.2.2 z56050 ) qw_810 qw_811 qw_5 qw_812 ⟨by decide +kernel, by decide +kernel, by decide +kernel⟩ ⟨Nat.le_of_ble_eq_true rfl, Nat.le_of_ble_eq_true rfl⟩ hl rfl rfl (Nat.le_of_ble_eq_true rfl) dX13_doMeet_102 ⟨Nat.le_of_ble_eq_true rfl, Nat.le_of_ble_eq_true rfl⟩ (fun z56056 F9 H locs hT hz56056 => ?_)
            obtain ⟨fz56056, hz56056⟩ := hz56056
            rw [fz56056] at hT
            refine lv_iadd hx hb dX13_doMeet_105 ?_
            refine lv_topi (fun z56057 ez56057 => ?_)
            have hz56057 : z56057.toInt = z56048.toInt + z56056.toInt := ar_add ez56057 (rfl : z56048.toInt = z56048.toInt) (rfl : z56056.toInt = z56056.toInt) (by omega) (by omega)
            have rz56057 : (-1) ≤ z56057.toInt ∧ z56057.toInt ≤ 12 := by omega
            refine lv_iload hx hb dX13_doMeet_106 (lv_at hl 6 rfl) ?_
            refine lv_iload hx hb dX13_doMeet_108 (lv_at hl 7 rfl) ?_
            refine t_cSi (n := 1) (As := [.int z56050]) (rest := [.int z56049, .int z56057, .int p3, .ref x0]) X hT (km111_X13_outY l G tag L F hT.2.2.2 z56050 ) qw_816 qw_817 qw_5 qw_818 ⟨by decide +kernel, by decide +kernel, by decide +kernel⟩ ⟨Nat.le_of_ble_eq_true rfl, Nat.le_of_ble_eq_true rfl⟩ hl rfl rfl (Nat.le_of_ble_eq_true rfl) dX13_doMeet_110 ⟨Nat.le_of_ble_eq_true rfl, Nat.le_of_ble_eq_true rfl⟩ (fun z56058 F9 H locs hT hz56058 => ?_)
            obtain ⟨fz56058, hz56058⟩ := hz56058
            rw [fz56058] at hT
            refine lv_iadd hx hb dX13_doMeet_113 ?_
            refine lv_topi (fun z56059 ez56059 => ?_)
            have hz56059 : z56059.toInt = z56049.toInt + z56058.toInt := ar_add ez56059 (rfl : z56049.toInt = z56049.toInt) (rfl : z56058.toInt = z56058.toInt) (by omega) (by omega)
            have rz56059 : (-1) ≤ z56059.toInt ∧ z56059.toInt ≤ 144 := by omega
            refine t_cVi (n := 3) (C := RX12) (T := TX12) (N := 31) (As := [.int p3, .int z56057, .int z56059]) (rest := []) X hT (km91_X12_far l G tag L F hT.2.2.2 x0 p3 z56057 z56059 mx0 gx0 (by omega)) mx0 gx0 rfl rfl qw_619 qw_620 qw_621 qw_476 qw_622 ⟨rfl, by decide +kernel, by decide +kernel, by decide +kernel⟩ ⟨Nat.le_of_ble_eq_true rfl, Nat.le_of_ble_eq_true rfl⟩ hl rfl rfl (Nat.le_of_ble_eq_true rfl) dX13_doMeet_114 ⟨Nat.le_of_ble_eq_true rfl, Nat.le_of_ble_eq_true rfl⟩ (fun z56060 F9 H locs hT hz56060 => ?_)
            obtain ⟨fz56060, hz56060⟩ := hz56060
            rw [fz56060] at hT
            refine lv_aload_n hx hb dX13_doMeet_117 rfl (lv_at hl 1 rfl) ?_
            refine lv_iconst (v := 0) hx hb dX13_doMeet_118 (by decide) ?_
            refine lv_iload_n hx hb dX13_doMeet_119 rfl (lv_at hl 3 rfl) ?_
            refine lv_iadd hx hb dX13_doMeet_120 ?_
            refine lv_topi (fun z56061 ez56061 => ?_)
            obtain rfl : p3 = z56061 := (ar_zadd ez56061).symm
            refine t_ild X hT m1 g1 rfl (by omega) dX13_doMeet_121 (fun z56062 vz56062 rz56062 => ?_)
            have rz56062 := row_ml (by omega) rz56062
            refine lv_icmp_gt (tgt := 127) hx hb dX13_doMeet_122 (by decide) (fun c56063 => ?_) (fun c56063 => ?_)
            · have w56064 := cv_lt (rfl : z56062.toInt = z56062.toInt) (rfl : z56060.toInt = z56060.toInt) c56063
              obtain ⟨z56065, ez56065⟩ : ∃ y : Int32, y = z56050 + 1 := ⟨_, rfl⟩
              have hz56065 : z56065.toInt = z56050.toInt + 1 := ar_add ez56065 rfl (by decide : (1 : Int32).toInt = 1) (by omega) (by omega)
              refine lv_iinc (v := z56065) (lv' := [(7, .int z56065), (0, .ref p0), (1, .ref p1), (2, .int p2), (3, .int p3), (4, .int z56041), (5, .int z56048), (6, .int z56049)]) hx hb dX13_doMeet_127 hl (k := 7) rfl (by rw [ez56065]; rfl) (by decide) rfl (fun ls hl => ?_)
              refine lv_goto (tgt := 87) hx hb dX13_doMeet_130 (by decide) ?_
              exact ih87 z56048 z56049 z56065 z56051 _ _ _ (by omega) (by omega) (by omega) (by omega) (by omega) (by omega) hT qz56051 (lv_sub hl [1, 2, 3, 4, 5, 6, 7, 0] rfl)
            · have w56066 := cv_nlt (rfl : z56062.toInt = z56062.toInt) (rfl : z56060.toInt = z56060.toInt) c56063
              refine lv_iconst (v := 1) hx hb dX13_doMeet_125 (by decide) ?_
              have k56067 : (1 : Int32).toInt = 1 := by decide
              exact t_zret hQ X hT (by decide) (⟨rfl, (by decide)⟩) (Nat.le_of_ble_eq_true rfl) (Nat.le_of_ble_eq_true rfl) dX13_doMeet_126
      refine lv_iload hx hb dX13_doMeet_3 (lv_at hl 4 rfl) ?_
      refine lv_aload_n hx hb dX13_doMeet_5 rfl (lv_at hl 0 rfl) ?_
      refine t_get (C := RX13) (T := TX13) (N := 37) X hT m0 g0 rfl rfl 3 (by decide) qw_481 inlX13 rfl dX13_doMeet_6 (fun v56068 hv56068 ov56068 => ?_)
      obtain rfl : v56068 = .ref x0 := hv56068.symm.trans pf0
      refine t_cVi (n := 0) (C := RX12) (T := TX12) (N := 31) (As := []) (rest := [.int z56041]) X hT (km98_X12_cells l G tag L F hT.2.2.2 x0 mx0 gx0) mx0 gx0 rfl rfl qw_744 qw_745 qw_746 qw_476 qw_747 ⟨rfl, by decide +kernel, by decide +kernel, by decide +kernel⟩ ⟨Nat.le_of_ble_eq_true rfl, Nat.le_of_ble_eq_true rfl⟩ hl rfl rfl (Nat.le_of_ble_eq_true rfl) dX13_doMeet_9 ⟨Nat.le_of_ble_eq_true rfl, Nat.le_of_ble_eq_true rfl⟩ (fun z56069 F9 H locs hT hz56069 => ?_)
      obtain ⟨fz56069, hz56069⟩ := hz56069
      rw [fz56069] at hT
      refine lv_icmp_ge (tgt := 139) hx hb dX13_doMeet_12 (by decide) (fun c56070 => ?_) (fun c56070 => ?_)
      · have w56071 := cv_le (rfl : z56069.toInt = z56069.toInt) (rfl : z56041.toInt = z56041.toInt) c56070
        refine lv_iconst (v := 0) hx hb dX13_doMeet_139 (by decide) ?_
        have k56072 : (0 : Int32).toInt = 0 := by decide
        exact t_zret hQ X hT (by decide) (⟨rfl, (by decide)⟩) (Nat.le_of_ble_eq_true rfl) (Nat.le_of_ble_eq_true rfl) dX13_doMeet_140
      · have w56073 := cv_nle (rfl : z56069.toInt = z56069.toInt) (rfl : z56041.toInt = z56041.toInt) c56070
        refine lv_iload hx hb dX13_doMeet_15 (lv_at hl 4 rfl) ?_
        refine lv_aload_n hx hb dX13_doMeet_17 rfl (lv_at hl 0 rfl) ?_
        refine t_get (C := RX13) (T := TX13) (N := 37) X hT m0 g0 rfl rfl 3 (by decide) qw_481 inlX13 rfl dX13_doMeet_18 (fun v56074 hv56074 ov56074 => ?_)
        obtain rfl : v56074 = .ref x0 := hv56074.symm.trans pf0
        refine t_getN (C := RX12) (T := TX12) (N := 31) X hT mx0 gx0 rfl rfl 0 (by decide) (List.mem_of_getElem? (i := 4) rfl) inlX12 rfl dX13_doMeet_21 (fun v56075 hv56075 ov56075 => ?_)
        obtain ⟨z56076, rfl, rz56076⟩ := okV_i ov56075
        refine lv_irem hx hb dX13_doMeet_24 (ne0_of (by omega)) ?_
        refine lv_topi (fun z56077 ez56077 => ?_)
        have hz56077 := ar_remv ez56077 (by omega) (by omega)
        have rz56077 : 0 ≤ z56077.toInt ∧ z56077.toInt ≤ 11 := by omega
        refine lv_istore (lv' := [(5, .int z56077), (0, .ref p0), (1, .ref p1), (2, .int p2), (3, .int p3), (4, .int z56041)]) hx hb dX13_doMeet_25 hl (by decide) rfl (fun ls hl => ?_)
        refine lv_iload hx hb dX13_doMeet_27 (lv_at hl 5 rfl) ?_
        refine lv_aload_n hx hb dX13_doMeet_29 rfl (lv_at hl 1 rfl) ?_
        refine t_get (C := RX13) (T := TX13) (N := 37) X hT m0 g0 rfl rfl 3 (by decide) qw_481 inlX13 rfl dX13_doMeet_30 (fun v56078 hv56078 ov56078 => ?_)
        obtain rfl : v56078 = .ref x0 := hv56078.symm.trans pf0
        refine t_getN (C := RX12) (T := TX12) (N := 31) X hT mx0 gx0 rfl rfl 0 (by decide) (List.mem_of_getElem? (i := 4) rfl) inlX12 rfl dX13_doMeet_33 (fun v56079 hv56079 ov56079 => ?_)
        obtain rfl : v56079 = .int z56076 := hv56079.symm.trans hv56075
        refine lv_idiv hx hb dX13_doMeet_36 (ne0_of (by omega)) ?_
        refine lv_topi (fun z56080 ez56080 => ?_)
        have rz56080 : 0 ≤ z56080.toInt ∧ z56080.toInt ≤ 143 := ar_divv ez56080 (A := 143) (by omega) (by omega)
        refine lv_istore (lv' := [(6, .int z56080), (5, .int z56077), (0, .ref p0), (1, .ref p1), (2, .int p2), (3, .int p3), (4, .int z56041)]) hx hb dX13_doMeet_37 hl (by decide) rfl (fun ls hl => ?_)
        refine lv_aload_n hx hb dX13_doMeet_39 rfl (lv_at hl 2 rfl) ?_
        refine t_get (C := RX13) (T := TX13) (N := 37) X hT m0 g0 rfl rfl 3 (by decide) qw_481 inlX13 rfl dX13_doMeet_40 (fun v56081 hv56081 ov56081 => ?_)
        obtain rfl : v56081 = .ref x0 := hv56081.symm.trans pf0
        refine lv_iload_n hx hb dX13_doMeet_43 rfl (lv_at hl 4 rfl) ?_
        refine lv_iload hx hb dX13_doMeet_44 (lv_at hl 1 rfl) ?_
        refine lv_iload hx hb dX13_doMeet_46 (lv_at hl 0 rfl) ?_
        refine t_cVi (n := 3) (C := RX12) (T := TX12) (N := 31) (As := [.int p2, .int z56077, .int z56080]) (rest := []) X hT (km91_X12_far l G tag L F hT.2.2.2 x0 p2 z56077 z56080 mx0 gx0 (by omega)) mx0 gx0 rfl rfl qw_619 qw_620 qw_621 qw_476 qw_622 ⟨rfl, by decide +kernel, by decide +kernel, by decide +kernel⟩ ⟨Nat.le_of_ble_eq_true rfl, Nat.le_of_ble_eq_true rfl⟩ hl rfl rfl (Nat.le_of_ble_eq_true rfl) dX13_doMeet_48 ⟨Nat.le_of_ble_eq_true rfl, Nat.le_of_ble_eq_true rfl⟩ (fun z56082 F9 H locs hT hz56082 => ?_)
        obtain ⟨fz56082, hz56082⟩ := hz56082
        rw [fz56082] at hT
        refine lv_aload_n hx hb dX13_doMeet_51 rfl (lv_at hl 3 rfl) ?_
        refine lv_iconst (v := 0) hx hb dX13_doMeet_52 (by decide) ?_
        refine lv_iload_n hx hb dX13_doMeet_53 rfl (lv_at hl 4 rfl) ?_
        refine lv_iadd hx hb dX13_doMeet_54 ?_
        refine lv_topi (fun z56083 ez56083 => ?_)
        obtain rfl : p2 = z56083 := (ar_zadd ez56083).symm
        refine t_ild X hT m1 g1 rfl (by omega) dX13_doMeet_55 (fun z56084 vz56084 rz56084 => ?_)
        have rz56084 := row_ml (by omega) rz56084
        refine lv_icmp_le (tgt := 62) hx hb dX13_doMeet_56 (by decide) (fun c56085 => ?_) (fun c56085 => ?_)
        · have w56086 := cv_le (rfl : z56082.toInt = z56082.toInt) (rfl : z56084.toInt = z56084.toInt) c56085
          refine lv_aload_n hx hb dX13_doMeet_62 rfl (lv_at hl 2 rfl) ?_
          refine t_get (C := RX13) (T := TX13) (N := 37) X hT m0 g0 rfl rfl 3 (by decide) qw_481 inlX13 rfl dX13_doMeet_63 (fun v56087 hv56087 ov56087 => ?_)
          obtain rfl : v56087 = .ref x0 := hv56087.symm.trans pf0
          refine lv_iload_n hx hb dX13_doMeet_66 rfl (lv_at hl 5 rfl) ?_
          refine lv_iload hx hb dX13_doMeet_67 (lv_at hl 1 rfl) ?_
          refine lv_iload hx hb dX13_doMeet_69 (lv_at hl 0 rfl) ?_
          refine t_cVi (n := 3) (C := RX12) (T := TX12) (N := 31) (As := [.int p3, .int z56077, .int z56080]) (rest := []) X hT (km91_X12_far l G tag L F hT.2.2.2 x0 p3 z56077 z56080 mx0 gx0 (by omega)) mx0 gx0 rfl rfl qw_619 qw_620 qw_621 qw_476 qw_622 ⟨rfl, by decide +kernel, by decide +kernel, by decide +kernel⟩ ⟨Nat.le_of_ble_eq_true rfl, Nat.le_of_ble_eq_true rfl⟩ hl rfl rfl (Nat.le_of_ble_eq_true rfl) dX13_doMeet_71 ⟨Nat.le_of_ble_eq_true rfl, Nat.le_of_ble_eq_true rfl⟩ (fun z56088 F9 H locs hT hz56088 => ?_)
          obtain ⟨fz56088, hz56088⟩ := hz56088
          rw [fz56088] at hT
          refine lv_aload_n hx hb dX13_doMeet_74 rfl (lv_at hl 3 rfl) ?_
          refine lv_iconst (v := 0) hx hb dX13_doMeet_75 (by decide) ?_
          refine lv_iload_n hx hb dX13_doMeet_76 rfl (lv_at hl 5 rfl) ?_
          refine lv_iadd hx hb dX13_doMeet_77 ?_
          refine lv_topi (fun z56089 ez56089 => ?_)
          obtain rfl : p3 = z56089 := (ar_zadd ez56089).symm
          refine t_ild X hT m1 g1 rfl (by omega) dX13_doMeet_78 (fun z56090 vz56090 rz56090 => ?_)
          have rz56090 := row_ml (by omega) rz56090
          refine lv_icmp_gt (tgt := 84) hx hb dX13_doMeet_79 (by decide) (fun c56091 => ?_) (fun c56091 => ?_)
          · have w56092 := cv_lt (rfl : z56090.toInt = z56090.toInt) (rfl : z56088.toInt = z56088.toInt) c56091
            refine lv_iconst (v := 0) hx hb dX13_doMeet_84 (by decide) ?_
            refine lv_istore (lv' := [(7, .int 0), (6, .int z56080), (5, .int z56077), (0, .ref p0), (1, .ref p1), (2, .int p2), (3, .int p3), (4, .int z56041)]) hx hb dX13_doMeet_85 hl (by decide) rfl (fun ls hl => ?_)
            have k56093 : (0 : Int32).toInt = 0 := by decide
            exact K87 5 z56077 z56080 0 z56076 _ _ _ (by omega) (by omega) (by omega) (by decide) (by omega) (by omega) hT hv56075 (lv_sub hl [3, 4, 5, 6, 7, 2, 1, 0] rfl)
          · have w56094 := cv_nlt (rfl : z56090.toInt = z56090.toInt) (rfl : z56088.toInt = z56088.toInt) c56091
            refine lv_iconst (v := 1) hx hb dX13_doMeet_82 (by decide) ?_
            have k56095 : (1 : Int32).toInt = 1 := by decide
            exact t_zret hQ X hT (by decide) (⟨rfl, (by decide)⟩) (Nat.le_of_ble_eq_true rfl) (Nat.le_of_ble_eq_true rfl) dX13_doMeet_83
        · have w56096 := cv_nle (rfl : z56082.toInt = z56082.toInt) (rfl : z56084.toInt = z56084.toInt) c56085
          refine lv_goto (tgt := 133) hx hb dX13_doMeet_59 (by decide) ?_
          exact K133 z56077 z56080 z56076 _ _ _ (by omega) (by omega) (by omega) (by omega) hT hv56075 (lv_sub hl [2, 3, 4, 5, 6, 1, 0] rfl)
  refine lv_iconst (v := 0) hx hb dX13_doMeet_0 (by decide) ?_
  refine lv_istore (lv' := [(4, .int 0), (0, .ref p0), (1, .ref p1), (2, .int p2), (3, .int p3)]) hx hb dX13_doMeet_1 hl (by decide) rfl (fun ls hl => ?_)
  have k56097 : (0 : Int32).toInt = 0 := by decide
  exact K3 145 0 _ _ _ (by omega) (by decide) hT  (lv_sub hl [1, 2, 3, 4, 0] rfl)
set_option maxHeartbeats 4000000 in
set_option maxRecDepth 100000 in
theorem km193_X13_meet (l : Launch) (G : KG) (tag : Nat → Nat) (L : List Nat) (Fo : Nat → va_E) (ho : okT G ttC tag L Fo) (p0 : Nat) (p1 : Int32) (p2 : Int32) (p3 : Int32) (x0 : Nat) (m0 : p0 ∈ L) (g0 : tag p0 = 46) (mx0 : x0 ∈ L) (gx0 : tag x0 = 45) (pf0 : fld Fo p0 3 = .ref x0) : TMi l yX13_meet cX13_meet 6 (some .int) { frames := 8, cells := 0, slots := 0, locals := 192 } G ttC tag L Fo [.ref p0, .int p1, .int p2, .int p3] (fun r F1 => ((-2147483648) ≤ r.toInt ∧ r.toInt ≤ 2147483647) ∧ ((∀ b j : Nat, (tag b ≠ 46 ∨ j ≠ 0) → (tag b ≠ 46 ∨ j ≠ 1) → (tag b ≠ 46 ∨ j ≠ 2) → (tag b ≠ 46 ∨ j ≠ 22) → (tag b ≠ 46 ∨ j ≠ 23) → fld F1 b j = fld Fo b j) ∧ (∀ b j : Nat, tag b ≠ 37 → tag b ≠ 40 → elm F1 b j = elm Fo b j))) := by
  refine t_bodyi (y := yX13_meet) (cd := cX13_meet) (mL := 6) (rt := (some .int)) (rm := { frames := 8, cells := 0, slots := 0, locals := 192 }) (av := [.ref p0, .int p1, .int p2, .int p3]) (by decide) (Nat.le_of_ble_eq_true rfl) ho ?_
  intro p e s m args below meth c ls A Q hQ X hT hl
  have hx := X.1.1
  have hb := X.1.2.1
  have hl : lv_has ls 6 [(0, .ref p0), (1, .int p1), (2, .int p2), (3, .int p3)] := hl
  have rp1 := rg_all p1
  have rp2 := rg_all p2
  have rp3 := rg_all p3
  obtain ⟨F, hFo⟩ : ∃ F : Nat → va_E, F = Fo := ⟨_, rfl⟩
  rw [← hFo] at hT pf0
  have hfr : (∀ b j : Nat, (tag b ≠ 46 ∨ j ≠ 0) → (tag b ≠ 46 ∨ j ≠ 1) → (tag b ≠ 46 ∨ j ≠ 2) → (tag b ≠ 46 ∨ j ≠ 22) → (tag b ≠ 46 ∨ j ≠ 23) → fld F b j = fld Fo b j) ∧ (∀ b j : Nat, tag b ≠ 37 → tag b ≠ 40 → elm F b j = elm Fo b j) := by
    rw [hFo]
    exact ⟨by intros; rfl, by intros; rfl⟩
  have K60 : ∀ (n : Nat) (z56997 : Int32) (z56998 : Int32) (z56999 : Int32) (F : Nat → va_E) (H : Heap) (locs : List Loc) (ls : Array Slot), (61 - z56998.toInt < (n : Int)) → (0 ≤ z56997.toInt ∧ z56997.toInt ≤ 0) → (0 ≤ z56998.toInt ∧ z56998.toInt ≤ 61) → (0 ≤ z56999.toInt ∧ z56999.toInt ≤ 0) → (0 ≤ p1.toInt ∧ p1.toInt ≤ 3) → (0 ≤ p2.toInt ∧ p2.toInt ≤ 3) → (0 ≤ p3.toInt ∧ p3.toInt ≤ 60) → TH G ttC A s tag L F H locs → ((∀ b j : Nat, (tag b ≠ 46 ∨ j ≠ 0) → (tag b ≠ 46 ∨ j ≠ 1) → (tag b ≠ 46 ∨ j ≠ 2) → (tag b ≠ 46 ∨ j ≠ 22) → (tag b ≠ 46 ∨ j ≠ 23) → fld F b j = fld Fo b j) ∧ (∀ b j : Nat, tag b ≠ 37 → tag b ≠ 40 → elm F b j = elm Fo b j)) → (fld F p0 3 = .ref x0) → (fld F p0 0 = .int z56999) → lv_has ls 6 [(0, .ref p0), (1, .int p1), (2, .int p2), (3, .int p3), (4, .int z56997), (5, .int z56998)] → W p l e { frames := 8, cells := 0, slots := 0, locals := 192 } s m args below meth c H locs 0 0 Q (F0 m 60 ls []) := by
    intro n
    induction n with
    | zero =>
      intro z56997 z56998 z56999 F H locs ls hn rz56997 rz56998 rz56999 r9s56994 r9s56995 r9s56996 hT hfr pf0 qz56999 hl
      exfalso
      omega
    | succ n ih60 =>
      intro z56997 z56998 z56999 F H locs ls hn rz56997 rz56998 rz56999 r9s56994 r9s56995 r9s56996 hT hfr pf0 qz56999 hl
      refine lv_iload hx hb dX13_meet_60 (lv_at hl 5 rfl) ?_
      refine lv_iload_n hx hb dX13_meet_62 rfl (lv_at hl 3 rfl) ?_
      refine lv_icmp_gt (tgt := 100) hx hb dX13_meet_63 (by decide) (fun c57000 => ?_) (fun c57000 => ?_)
      · have w57001 := cv_lt (rfl : p3.toInt = p3.toInt) (rfl : z56998.toInt = z56998.toInt) c57000
        refine lv_aload_n hx hb dX13_meet_100 rfl (lv_at hl 0 rfl) ?_
        refine lv_bipush (v := (-2)) hx hb dX13_meet_101 (by decide) ?_
        refine t_cVi (n := 1) (C := RX13) (T := TX13) (N := 37) (As := [.int (-2)]) (rest := []) X hT (km93_X13_good l G tag L F hT.2.2.2 p0 (-2) m0 g0) m0 g0 rfl rfl qw_687 qw_688 qw_689 qw_5 qw_690 ⟨rfl, by decide +kernel, by decide +kernel, by decide +kernel⟩ ⟨Nat.le_of_ble_eq_true rfl, Nat.le_of_ble_eq_true rfl⟩ hl rfl rfl (Nat.le_of_ble_eq_true rfl) dX13_meet_103 ⟨Nat.le_of_ble_eq_true rfl, Nat.le_of_ble_eq_true rfl⟩ (fun z57002 F H locs hT hz57002 => ?_)
        obtain ⟨hz57002, yz57002⟩ := hz57002
        have qz56999 := (yz57002.1 _ 0 (Or.inr (by decide)) (Or.inr (by decide))).trans qz56999
        have pf0 := (yz57002.1 _ 3 (Or.inr (by decide)) (Or.inr (by decide))).trans pf0
        have hfr : (∀ b j : Nat, (tag b ≠ 46 ∨ j ≠ 0) → (tag b ≠ 46 ∨ j ≠ 1) → (tag b ≠ 46 ∨ j ≠ 2) → (tag b ≠ 46 ∨ j ≠ 22) → (tag b ≠ 46 ∨ j ≠ 23) → fld F b j = fld Fo b j) ∧ (∀ b j : Nat, tag b ≠ 37 → tag b ≠ 40 → elm F b j = elm Fo b j) := ⟨fun b j n46_0 n46_1 n46_2 n46_22 n46_23 => (yz57002.1 b j n46_1 n46_2).trans (hfr.1 b j n46_0 n46_1 n46_2 n46_22 n46_23), fun b j a37 a40 => (yz57002.2 b j ).trans (hfr.2 b j a37 a40)⟩
        exact t_iret hQ X hT (⟨rg_all _, hfr⟩) (Nat.le_of_ble_eq_true rfl) (Nat.le_of_ble_eq_true rfl) dX13_meet_106
      · have w57003 := cv_nlt (rfl : p3.toInt = p3.toInt) (rfl : z56998.toInt = z56998.toInt) c57000
        refine lv_aload_n hx hb dX13_meet_66 rfl (lv_at hl 0 rfl) ?_
        refine lv_aload_n hx hb dX13_meet_67 rfl (lv_at hl 0 rfl) ?_
        refine t_get (C := RX13) (T := TX13) (N := 37) X hT m0 g0 rfl rfl 17 (by decide) qw_113 inlX13 rfl dX13_meet_68 (fun v57004 hv57004 ov57004 => ?_)
        obtain ⟨b57005, rfl, mb57005, gb57005⟩ := okV_r ov57004
        have gb57005 : tag b57005 = 37 := tg_of gb57005
        refine lv_iload_n hx hb dX13_meet_71 rfl (lv_at hl 1 rfl) ?_
        refine lv_iload_n hx hb dX13_meet_72 rfl (lv_at hl 2 rfl) ?_
        refine t_cVi (n := 3) (C := RX13) (T := TX13) (N := 37) (As := [.ref b57005, .int p1, .int p2]) (rest := []) X hT (km192_X13_doMeet l G tag L F hT.2.2.2 p0 b57005 p1 p2 x0 m0 g0 mb57005 gb57005 (by omega) (by omega) mx0 gx0 pf0) m0 g0 rfl rfl qw_1209 qw_1210 qw_1211 qw_5 qw_1212 ⟨rfl, by decide +kernel, by decide +kernel, by decide +kernel⟩ ⟨Nat.le_of_ble_eq_true rfl, Nat.le_of_ble_eq_true rfl⟩ hl rfl rfl (Nat.le_of_ble_eq_true rfl) dX13_meet_73 ⟨Nat.le_of_ble_eq_true rfl, Nat.le_of_ble_eq_true rfl⟩ (fun z57006 F9 H locs hT hz57006 => ?_)
        obtain ⟨fz57006, hz57006⟩ := hz57006
        rw [fz57006] at hT
        refine lv_if_eq (tgt := 86) hx hb dX13_meet_76 (by decide) (fun c57007 => ?_) (fun c57007 => ?_)
        · have w57008 := cv_eq (rfl : z57006.toInt = z57006.toInt) (by decide : (0 : Int32).toInt = 0) c57007
          refine lv_aload_n hx hb dX13_meet_86 rfl (lv_at hl 0 rfl) ?_
          refine lv_aload_n hx hb dX13_meet_87 rfl (lv_at hl 0 rfl) ?_
          refine t_get (C := RX13) (T := TX13) (N := 37) X hT m0 g0 rfl rfl 17 (by decide) qw_113 inlX13 rfl dX13_meet_88 (fun v57009 hv57009 ov57009 => ?_)
          obtain rfl : v57009 = .ref b57005 := hv57009.symm.trans hv57004
          refine t_cVv (n := 1) (C := RX13) (T := TX13) (N := 37) (As := [.ref b57005]) (rest := []) X hT (km181_X13_goesBy l G tag L F hT.2.2.2 p0 b57005 x0 m0 g0 mb57005 gb57005 mx0 gx0 pf0) m0 g0 rfl rfl qw_1160 qw_1161 qw_1162 qw_5 qw_1163 ⟨rfl, by decide +kernel, by decide +kernel, by decide +kernel⟩ ⟨Nat.le_of_ble_eq_true rfl, Nat.le_of_ble_eq_true rfl⟩ hl rfl rfl (Nat.le_of_ble_eq_true rfl) dX13_meet_91 ⟨Nat.le_of_ble_eq_true rfl, Nat.le_of_ble_eq_true rfl⟩ (fun F H locs hT hz57010 => ?_)
          have yz57010 := hz57010
          have qz56999 := (yz57010.1 _ 0 (Or.inr (by decide)) (Or.inr (by decide))).trans qz56999
          have pf0 := (yz57010.1 _ 3 (Or.inr (by decide)) (Or.inr (by decide))).trans pf0
          have hv57004 := (yz57010.1 _ 17 (Or.inr (by decide)) (Or.inr (by decide))).trans hv57004
          have hfr : (∀ b j : Nat, (tag b ≠ 46 ∨ j ≠ 0) → (tag b ≠ 46 ∨ j ≠ 1) → (tag b ≠ 46 ∨ j ≠ 2) → (tag b ≠ 46 ∨ j ≠ 22) → (tag b ≠ 46 ∨ j ≠ 23) → fld F b j = fld Fo b j) ∧ (∀ b j : Nat, tag b ≠ 37 → tag b ≠ 40 → elm F b j = elm Fo b j) := ⟨fun b j n46_0 n46_1 n46_2 n46_22 n46_23 => (yz57010.1 b j n46_22 n46_23).trans (hfr.1 b j n46_0 n46_1 n46_2 n46_22 n46_23), fun b j a37 a40 => (yz57010.2 b j a37).trans (hfr.2 b j a37 a40)⟩
          obtain ⟨z57011, ez57011⟩ : ∃ y : Int32, y = z56998 + 1 := ⟨_, rfl⟩
          have hz57011 : z57011.toInt = z56998.toInt + 1 := ar_add ez57011 rfl (by decide : (1 : Int32).toInt = 1) (by omega) (by omega)
          refine lv_iinc (v := z57011) (lv' := [(5, .int z57011), (0, .ref p0), (1, .int p1), (2, .int p2), (3, .int p3), (4, .int z56997)]) hx hb dX13_meet_94 hl (k := 5) rfl (by rw [ez57011]; rfl) (by decide) rfl (fun ls hl => ?_)
          refine lv_goto (tgt := 60) hx hb dX13_meet_97 (by decide) ?_
          exact ih60 z56997 z57011 z56999 _ _ _ _ (by omega) (by omega) (by omega) (by omega) (by omega) (by omega) (by omega) hT hfr pf0 qz56999 (lv_sub hl [1, 2, 3, 4, 5, 0] rfl)
        · have w57012 := cv_ne (rfl : z57006.toInt = z57006.toInt) (by decide : (0 : Int32).toInt = 0) c57007
          refine lv_aload_n hx hb dX13_meet_79 rfl (lv_at hl 0 rfl) ?_
          refine lv_iload hx hb dX13_meet_80 (lv_at hl 5 rfl) ?_
          refine t_cVi (n := 1) (C := RX13) (T := TX13) (N := 37) (As := [.int z56998]) (rest := []) X hT (km93_X13_good l G tag L F hT.2.2.2 p0 z56998 m0 g0) m0 g0 rfl rfl qw_687 qw_688 qw_689 qw_5 qw_690 ⟨rfl, by decide +kernel, by decide +kernel, by decide +kernel⟩ ⟨Nat.le_of_ble_eq_true rfl, Nat.le_of_ble_eq_true rfl⟩ hl rfl rfl (Nat.le_of_ble_eq_true rfl) dX13_meet_82 ⟨Nat.le_of_ble_eq_true rfl, Nat.le_of_ble_eq_true rfl⟩ (fun z57013 F H locs hT hz57013 => ?_)
          obtain ⟨hz57013, yz57013⟩ := hz57013
          have qz56999 := (yz57013.1 _ 0 (Or.inr (by decide)) (Or.inr (by decide))).trans qz56999
          have pf0 := (yz57013.1 _ 3 (Or.inr (by decide)) (Or.inr (by decide))).trans pf0
          have hv57004 := (yz57013.1 _ 17 (Or.inr (by decide)) (Or.inr (by decide))).trans hv57004
          have hfr : (∀ b j : Nat, (tag b ≠ 46 ∨ j ≠ 0) → (tag b ≠ 46 ∨ j ≠ 1) → (tag b ≠ 46 ∨ j ≠ 2) → (tag b ≠ 46 ∨ j ≠ 22) → (tag b ≠ 46 ∨ j ≠ 23) → fld F b j = fld Fo b j) ∧ (∀ b j : Nat, tag b ≠ 37 → tag b ≠ 40 → elm F b j = elm Fo b j) := ⟨fun b j n46_0 n46_1 n46_2 n46_22 n46_23 => (yz57013.1 b j n46_1 n46_2).trans (hfr.1 b j n46_0 n46_1 n46_2 n46_22 n46_23), fun b j a37 a40 => (yz57013.2 b j ).trans (hfr.2 b j a37 a40)⟩
          exact t_iret hQ X hT (⟨rg_all _, hfr⟩) (Nat.le_of_ble_eq_true rfl) (Nat.le_of_ble_eq_true rfl) dX13_meet_85
  refine lv_aload_n hx hb dX13_meet_0 rfl (lv_at hl 0 rfl) ?_
  refine lv_iconst (v := 0) hx hb dX13_meet_1 (by decide) ?_
  refine t_put (C := RX13) (T := TX13) (N := 37) (v := .int 0) X hT m0 g0 rfl tyX13 tyX13_ok nmX13 rfl 0 (by decide) qw_140 inlX13 rfl (by first | rfl | decide) (by first | rfl | decide) rfl (⟨_, rfl, (show (-2147483648) ≤ (0 : Int32).toInt from (by decide)), (show (0 : Int32).toInt ≤ 2147483647 from (by decide))⟩) dX13_meet_2 (fun F H locs hT v57014 h1v57014 h2v57014 => ?_)
  have pf0 := (h1v57014 _ _ (Or.inr (by decide))).trans pf0
  have hfr : (∀ b j : Nat, (tag b ≠ 46 ∨ j ≠ 0) → (tag b ≠ 46 ∨ j ≠ 1) → (tag b ≠ 46 ∨ j ≠ 2) → (tag b ≠ 46 ∨ j ≠ 22) → (tag b ≠ 46 ∨ j ≠ 23) → fld F b j = fld Fo b j) ∧ (∀ b j : Nat, tag b ≠ 37 → tag b ≠ 40 → elm F b j = elm Fo b j) := ⟨fun b j n46_0 n46_1 n46_2 n46_22 n46_23 => (h1v57014 b j (fr_ne g0 n46_0)).trans (hfr.1 b j n46_0 n46_1 n46_2 n46_22 n46_23), fun b j a37 a40 => (h2v57014 b j).trans (hfr.2 b j a37 a40)⟩
  refine lv_aload_n hx hb dX13_meet_5 rfl (lv_at hl 0 rfl) ?_
  refine lv_aload_n hx hb dX13_meet_6 rfl (lv_at hl 0 rfl) ?_
  refine lv_iload_n hx hb dX13_meet_7 rfl (lv_at hl 1 rfl) ?_
  refine t_cVi (n := 1) (C := RX13) (T := TX13) (N := 37) (As := [.int p1]) (rest := [.ref p0]) X hT (km107_X13_isHouse l G tag L F hT.2.2.2 p0 p1 x0 m0 g0 mx0 gx0 pf0) m0 g0 rfl rfl qw_796 qw_797 qw_798 qw_5 qw_799 ⟨rfl, by decide +kernel, by decide +kernel, by decide +kernel⟩ ⟨Nat.le_of_ble_eq_true rfl, Nat.le_of_ble_eq_true rfl⟩ hl rfl rfl (Nat.le_of_ble_eq_true rfl) dX13_meet_8 ⟨Nat.le_of_ble_eq_true rfl, Nat.le_of_ble_eq_true rfl⟩ (fun z57015 F9 H locs hT hz57015 => ?_)
  obtain ⟨fz57015, hz57015⟩ := hz57015
  rw [fz57015] at hT
  obtain ⟨hz57015, iz57015⟩ := hz57015
  refine lv_if_eq (tgt := 31) hx hb dX13_meet_11 (by decide) (fun c57016 => ?_) (fun c57016 => ?_)
  · have w57017 := cv_eq (rfl : z57015.toInt = z57015.toInt) (by decide : (0 : Int32).toInt = 0) c57016
    refine lv_iconst (v := 0) hx hb dX13_meet_31 (by decide) ?_
    refine lv_iload_n hx hb dX13_meet_32 rfl (lv_at hl 3 rfl) ?_
    refine lv_bipush (v := 60) hx hb dX13_meet_33 (by decide) ?_
    refine t_cVi (n := 3) (C := RX13) (T := TX13) (N := 37) (As := [.int 0, .int p3, .int 60]) (rest := []) X hT (km174_X13_refusesIn l G tag L F hT.2.2.2 p0 0 p3 60 x0 m0 g0 (by decide) mx0 gx0 pf0) m0 g0 rfl rfl qw_1144 qw_1145 qw_1146 qw_5 qw_1147 ⟨rfl, by decide +kernel, by decide +kernel, by decide +kernel⟩ ⟨Nat.le_of_ble_eq_true rfl, Nat.le_of_ble_eq_true rfl⟩ hl rfl rfl (Nat.le_of_ble_eq_true rfl) dX13_meet_35 ⟨Nat.le_of_ble_eq_true rfl, Nat.le_of_ble_eq_true rfl⟩ (fun z57018 F9 H locs hT hz57018 => ?_)
    obtain ⟨fz57018, hz57018, xz57018_0⟩ := hz57018
    rw [fz57018] at hT
    have k57019 : (0 : Int32).toInt = 0 := by decide
    have k57020 : (60 : Int32).toInt = 60 := by decide
    refine lv_istore (lv' := [(4, .int z57018), (0, .ref p0), (1, .int p1), (2, .int p2), (3, .int p3)]) hx hb dX13_meet_38 hl (by decide) rfl (fun ls hl => ?_)
    refine lv_iload hx hb dX13_meet_40 (lv_at hl 0 rfl) ?_
    refine lv_if_le (tgt := 52) hx hb dX13_meet_42 (by decide) (fun c57021 => ?_) (fun c57021 => ?_)
    · have w57022 := cv_le (rfl : z57018.toInt = z57018.toInt) (by decide : (0 : Int32).toInt = 0) c57021
      exfalso
      omega
    · have w57023 := cv_nle (rfl : z57018.toInt = z57018.toInt) (by decide : (0 : Int32).toInt = 0) c57021
      refine lv_aload_n hx hb dX13_meet_45 rfl (lv_at hl 1 rfl) ?_
      refine lv_iload hx hb dX13_meet_46 (lv_at hl 0 rfl) ?_
      refine t_cVi (n := 1) (C := RX13) (T := TX13) (N := 37) (As := [.int z57018]) (rest := []) X hT (km88_X13_refused l G tag L F hT.2.2.2 p0 z57018 m0 g0) m0 g0 rfl rfl qw_484 qw_485 qw_486 qw_5 qw_487 ⟨rfl, by decide +kernel, by decide +kernel, by decide +kernel⟩ ⟨Nat.le_of_ble_eq_true rfl, Nat.le_of_ble_eq_true rfl⟩ hl rfl rfl (Nat.le_of_ble_eq_true rfl) dX13_meet_48 ⟨Nat.le_of_ble_eq_true rfl, Nat.le_of_ble_eq_true rfl⟩ (fun z57024 F H locs hT hz57024 => ?_)
      obtain ⟨hz57024, yz57024⟩ := hz57024
      have pf0 := (yz57024.1 _ 3 (Or.inr (by decide)) (Or.inr (by decide))).trans pf0
      have v57014 := (yz57024.1 _ 0 (Or.inr (by decide)) (Or.inr (by decide))).trans v57014
      have hfr : (∀ b j : Nat, (tag b ≠ 46 ∨ j ≠ 0) → (tag b ≠ 46 ∨ j ≠ 1) → (tag b ≠ 46 ∨ j ≠ 2) → (tag b ≠ 46 ∨ j ≠ 22) → (tag b ≠ 46 ∨ j ≠ 23) → fld F b j = fld Fo b j) ∧ (∀ b j : Nat, tag b ≠ 37 → tag b ≠ 40 → elm F b j = elm Fo b j) := ⟨fun b j n46_0 n46_1 n46_2 n46_22 n46_23 => (yz57024.1 b j n46_1 n46_2).trans (hfr.1 b j n46_0 n46_1 n46_2 n46_22 n46_23), fun b j a37 a40 => (yz57024.2 b j ).trans (hfr.2 b j a37 a40)⟩
      exact t_iret hQ X hT (⟨rg_all _, hfr⟩) (Nat.le_of_ble_eq_true rfl) (Nat.le_of_ble_eq_true rfl) dX13_meet_51
  · have w57025 := cv_ne (rfl : z57015.toInt = z57015.toInt) (by decide : (0 : Int32).toInt = 0) c57016
    have w57026 := (fun h => (iz57015 h)) (by omega)
    refine lv_aload_n hx hb dX13_meet_14 rfl (lv_at hl 0 rfl) ?_
    refine lv_iload_n hx hb dX13_meet_15 rfl (lv_at hl 2 rfl) ?_
    refine t_cVi (n := 1) (C := RX13) (T := TX13) (N := 37) (As := [.int p2]) (rest := [.ref p0]) X hT (km107_X13_isHouse l G tag L F hT.2.2.2 p0 p2 x0 m0 g0 mx0 gx0 pf0) m0 g0 rfl rfl qw_796 qw_797 qw_798 qw_5 qw_799 ⟨rfl, by decide +kernel, by decide +kernel, by decide +kernel⟩ ⟨Nat.le_of_ble_eq_true rfl, Nat.le_of_ble_eq_true rfl⟩ hl rfl rfl (Nat.le_of_ble_eq_true rfl) dX13_meet_16 ⟨Nat.le_of_ble_eq_true rfl, Nat.le_of_ble_eq_true rfl⟩ (fun z57027 F9 H locs hT hz57027 => ?_)
    obtain ⟨fz57027, hz57027⟩ := hz57027
    rw [fz57027] at hT
    obtain ⟨hz57027, iz57027⟩ := hz57027
    refine lv_if_eq (tgt := 31) hx hb dX13_meet_19 (by decide) (fun c57028 => ?_) (fun c57028 => ?_)
    · have w57029 := cv_eq (rfl : z57027.toInt = z57027.toInt) (by decide : (0 : Int32).toInt = 0) c57028
      refine lv_iconst (v := 0) hx hb dX13_meet_31 (by decide) ?_
      refine lv_iload_n hx hb dX13_meet_32 rfl (lv_at hl 3 rfl) ?_
      refine lv_bipush (v := 60) hx hb dX13_meet_33 (by decide) ?_
      refine t_cVi (n := 3) (C := RX13) (T := TX13) (N := 37) (As := [.int 0, .int p3, .int 60]) (rest := []) X hT (km174_X13_refusesIn l G tag L F hT.2.2.2 p0 0 p3 60 x0 m0 g0 (by decide) mx0 gx0 pf0) m0 g0 rfl rfl qw_1144 qw_1145 qw_1146 qw_5 qw_1147 ⟨rfl, by decide +kernel, by decide +kernel, by decide +kernel⟩ ⟨Nat.le_of_ble_eq_true rfl, Nat.le_of_ble_eq_true rfl⟩ hl rfl rfl (Nat.le_of_ble_eq_true rfl) dX13_meet_35 ⟨Nat.le_of_ble_eq_true rfl, Nat.le_of_ble_eq_true rfl⟩ (fun z57030 F9 H locs hT hz57030 => ?_)
      obtain ⟨fz57030, hz57030, xz57030_0⟩ := hz57030
      rw [fz57030] at hT
      have k57031 : (0 : Int32).toInt = 0 := by decide
      have k57032 : (60 : Int32).toInt = 60 := by decide
      refine lv_istore (lv' := [(4, .int z57030), (0, .ref p0), (1, .int p1), (2, .int p2), (3, .int p3)]) hx hb dX13_meet_38 hl (by decide) rfl (fun ls hl => ?_)
      refine lv_iload hx hb dX13_meet_40 (lv_at hl 0 rfl) ?_
      refine lv_if_le (tgt := 52) hx hb dX13_meet_42 (by decide) (fun c57033 => ?_) (fun c57033 => ?_)
      · have w57034 := cv_le (rfl : z57030.toInt = z57030.toInt) (by decide : (0 : Int32).toInt = 0) c57033
        exfalso
        omega
      · have w57035 := cv_nle (rfl : z57030.toInt = z57030.toInt) (by decide : (0 : Int32).toInt = 0) c57033
        refine lv_aload_n hx hb dX13_meet_45 rfl (lv_at hl 1 rfl) ?_
        refine lv_iload hx hb dX13_meet_46 (lv_at hl 0 rfl) ?_
        refine t_cVi (n := 1) (C := RX13) (T := TX13) (N := 37) (As := [.int z57030]) (rest := []) X hT (km88_X13_refused l G tag L F hT.2.2.2 p0 z57030 m0 g0) m0 g0 rfl rfl qw_484 qw_485 qw_486 qw_5 qw_487 ⟨rfl, by decide +kernel, by decide +kernel, by decide +kernel⟩ ⟨Nat.le_of_ble_eq_true rfl, Nat.le_of_ble_eq_true rfl⟩ hl rfl rfl (Nat.le_of_ble_eq_true rfl) dX13_meet_48 ⟨Nat.le_of_ble_eq_true rfl, Nat.le_of_ble_eq_true rfl⟩ (fun z57036 F H locs hT hz57036 => ?_)
        obtain ⟨hz57036, yz57036⟩ := hz57036
        have pf0 := (yz57036.1 _ 3 (Or.inr (by decide)) (Or.inr (by decide))).trans pf0
        have v57014 := (yz57036.1 _ 0 (Or.inr (by decide)) (Or.inr (by decide))).trans v57014
        have hfr : (∀ b j : Nat, (tag b ≠ 46 ∨ j ≠ 0) → (tag b ≠ 46 ∨ j ≠ 1) → (tag b ≠ 46 ∨ j ≠ 2) → (tag b ≠ 46 ∨ j ≠ 22) → (tag b ≠ 46 ∨ j ≠ 23) → fld F b j = fld Fo b j) ∧ (∀ b j : Nat, tag b ≠ 37 → tag b ≠ 40 → elm F b j = elm Fo b j) := ⟨fun b j n46_0 n46_1 n46_2 n46_22 n46_23 => (yz57036.1 b j n46_1 n46_2).trans (hfr.1 b j n46_0 n46_1 n46_2 n46_22 n46_23), fun b j a37 a40 => (yz57036.2 b j ).trans (hfr.2 b j a37 a40)⟩
        exact t_iret hQ X hT (⟨rg_all _, hfr⟩) (Nat.le_of_ble_eq_true rfl) (Nat.le_of_ble_eq_true rfl) dX13_meet_51
    · have w57037 := cv_ne (rfl : z57027.toInt = z57027.toInt) (by decide : (0 : Int32).toInt = 0) c57028
      have w57038 := (fun h => (iz57027 h)) (by omega)
      refine lv_iload_n hx hb dX13_meet_22 rfl (lv_at hl 1 rfl) ?_
      refine lv_iload_n hx hb dX13_meet_23 rfl (lv_at hl 2 rfl) ?_
      refine lv_icmp_eq (tgt := 31) hx hb dX13_meet_24 (by decide) (fun c57039 => ?_) (fun c57039 => ?_)
      · have w57040 := cv_eq (rfl : p1.toInt = p1.toInt) (rfl : p2.toInt = p2.toInt) c57039
        refine lv_iconst (v := 0) hx hb dX13_meet_31 (by decide) ?_
        refine lv_iload_n hx hb dX13_meet_32 rfl (lv_at hl 3 rfl) ?_
        refine lv_bipush (v := 60) hx hb dX13_meet_33 (by decide) ?_
        refine t_cVi (n := 3) (C := RX13) (T := TX13) (N := 37) (As := [.int 0, .int p3, .int 60]) (rest := []) X hT (km174_X13_refusesIn l G tag L F hT.2.2.2 p0 0 p3 60 x0 m0 g0 (by decide) mx0 gx0 pf0) m0 g0 rfl rfl qw_1144 qw_1145 qw_1146 qw_5 qw_1147 ⟨rfl, by decide +kernel, by decide +kernel, by decide +kernel⟩ ⟨Nat.le_of_ble_eq_true rfl, Nat.le_of_ble_eq_true rfl⟩ hl rfl rfl (Nat.le_of_ble_eq_true rfl) dX13_meet_35 ⟨Nat.le_of_ble_eq_true rfl, Nat.le_of_ble_eq_true rfl⟩ (fun z57041 F9 H locs hT hz57041 => ?_)
        obtain ⟨fz57041, hz57041, xz57041_0⟩ := hz57041
        rw [fz57041] at hT
        have k57042 : (0 : Int32).toInt = 0 := by decide
        have k57043 : (60 : Int32).toInt = 60 := by decide
        refine lv_istore (lv' := [(4, .int z57041), (0, .ref p0), (1, .int p1), (2, .int p2), (3, .int p3)]) hx hb dX13_meet_38 hl (by decide) rfl (fun ls hl => ?_)
        refine lv_iload hx hb dX13_meet_40 (lv_at hl 0 rfl) ?_
        refine lv_if_le (tgt := 52) hx hb dX13_meet_42 (by decide) (fun c57044 => ?_) (fun c57044 => ?_)
        · have w57045 := cv_le (rfl : z57041.toInt = z57041.toInt) (by decide : (0 : Int32).toInt = 0) c57044
          exfalso
          omega
        · have w57046 := cv_nle (rfl : z57041.toInt = z57041.toInt) (by decide : (0 : Int32).toInt = 0) c57044
          refine lv_aload_n hx hb dX13_meet_45 rfl (lv_at hl 1 rfl) ?_
          refine lv_iload hx hb dX13_meet_46 (lv_at hl 0 rfl) ?_
          refine t_cVi (n := 1) (C := RX13) (T := TX13) (N := 37) (As := [.int z57041]) (rest := []) X hT (km88_X13_refused l G tag L F hT.2.2.2 p0 z57041 m0 g0) m0 g0 rfl rfl qw_484 qw_485 qw_486 qw_5 qw_487 ⟨rfl, by decide +kernel, by decide +kernel, by decide +kernel⟩ ⟨Nat.le_of_ble_eq_true rfl, Nat.le_of_ble_eq_true rfl⟩ hl rfl rfl (Nat.le_of_ble_eq_true rfl) dX13_meet_48 ⟨Nat.le_of_ble_eq_true rfl, Nat.le_of_ble_eq_true rfl⟩ (fun z57047 F H locs hT hz57047 => ?_)
          obtain ⟨hz57047, yz57047⟩ := hz57047
          have pf0 := (yz57047.1 _ 3 (Or.inr (by decide)) (Or.inr (by decide))).trans pf0
          have v57014 := (yz57047.1 _ 0 (Or.inr (by decide)) (Or.inr (by decide))).trans v57014
          have hfr : (∀ b j : Nat, (tag b ≠ 46 ∨ j ≠ 0) → (tag b ≠ 46 ∨ j ≠ 1) → (tag b ≠ 46 ∨ j ≠ 2) → (tag b ≠ 46 ∨ j ≠ 22) → (tag b ≠ 46 ∨ j ≠ 23) → fld F b j = fld Fo b j) ∧ (∀ b j : Nat, tag b ≠ 37 → tag b ≠ 40 → elm F b j = elm Fo b j) := ⟨fun b j n46_0 n46_1 n46_2 n46_22 n46_23 => (yz57047.1 b j n46_1 n46_2).trans (hfr.1 b j n46_0 n46_1 n46_2 n46_22 n46_23), fun b j a37 a40 => (yz57047.2 b j ).trans (hfr.2 b j a37 a40)⟩
          exact t_iret hQ X hT (⟨rg_all _, hfr⟩) (Nat.le_of_ble_eq_true rfl) (Nat.le_of_ble_eq_true rfl) dX13_meet_51
      · have w57048 := cv_ne (rfl : p1.toInt = p1.toInt) (rfl : p2.toInt = p2.toInt) c57039
        refine lv_iconst (v := 1) hx hb dX13_meet_27 (by decide) ?_
        refine lv_goto (tgt := 32) hx hb dX13_meet_28 (by decide) ?_
        refine lv_iload_n hx hb dX13_meet_32 rfl (lv_at hl 3 rfl) ?_
        refine lv_bipush (v := 60) hx hb dX13_meet_33 (by decide) ?_
        refine t_cVi (n := 3) (C := RX13) (T := TX13) (N := 37) (As := [.int 1, .int p3, .int 60]) (rest := []) X hT (km175_X13_refusesIn l G tag L F hT.2.2.2 p0 1 p3 60 x0 m0 g0 (by decide) mx0 gx0 pf0) m0 g0 rfl rfl qw_1144 qw_1145 qw_1146 qw_5 qw_1147 ⟨rfl, by decide +kernel, by decide +kernel, by decide +kernel⟩ ⟨Nat.le_of_ble_eq_true rfl, Nat.le_of_ble_eq_true rfl⟩ hl rfl rfl (Nat.le_of_ble_eq_true rfl) dX13_meet_35 ⟨Nat.le_of_ble_eq_true rfl, Nat.le_of_ble_eq_true rfl⟩ (fun z57049 F9 H locs hT hz57049 => ?_)
        obtain ⟨fz57049, hz57049, xz57049_0⟩ := hz57049
        rw [fz57049] at hT
        have k57050 : (1 : Int32).toInt = 1 := by decide
        have k57051 : (60 : Int32).toInt = 60 := by decide
        refine lv_istore (lv' := [(4, .int z57049), (0, .ref p0), (1, .int p1), (2, .int p2), (3, .int p3)]) hx hb dX13_meet_38 hl (by decide) rfl (fun ls hl => ?_)
        refine lv_iload hx hb dX13_meet_40 (lv_at hl 0 rfl) ?_
        refine lv_if_le (tgt := 52) hx hb dX13_meet_42 (by decide) (fun c57052 => ?_) (fun c57052 => ?_)
        · have w57053 := cv_le (rfl : z57049.toInt = z57049.toInt) (by decide : (0 : Int32).toInt = 0) c57052
          have w57054 := xz57049_0 (by omega)
          refine lv_aload_n hx hb dX13_meet_52 rfl (lv_at hl 1 rfl) ?_
          refine lv_iconst (v := 0) hx hb dX13_meet_53 (by decide) ?_
          refine t_cVv (n := 1) (C := RX13) (T := TX13) (N := 37) (As := [.int 0]) (rest := []) X hT (km182_X13_inYears l G tag L F hT.2.2.2 p0 0 x0 m0 g0 (by decide) mx0 gx0 pf0) m0 g0 rfl rfl qw_1148 qw_1149 qw_1150 qw_5 qw_1151 ⟨rfl, by decide +kernel, by decide +kernel, by decide +kernel⟩ ⟨Nat.le_of_ble_eq_true rfl, Nat.le_of_ble_eq_true rfl⟩ hl rfl rfl (Nat.le_of_ble_eq_true rfl) dX13_meet_54 ⟨Nat.le_of_ble_eq_true rfl, Nat.le_of_ble_eq_true rfl⟩ (fun F H locs hT hz57055 => ?_)
          have yz57055 := hz57055
          have pf0 := (yz57055.1 _ 3 (Or.inr (by decide)) (Or.inr (by decide))).trans pf0
          have v57014 := (yz57055.1 _ 0 (Or.inr (by decide)) (Or.inr (by decide))).trans v57014
          have hfr : (∀ b j : Nat, (tag b ≠ 46 ∨ j ≠ 0) → (tag b ≠ 46 ∨ j ≠ 1) → (tag b ≠ 46 ∨ j ≠ 2) → (tag b ≠ 46 ∨ j ≠ 22) → (tag b ≠ 46 ∨ j ≠ 23) → fld F b j = fld Fo b j) ∧ (∀ b j : Nat, tag b ≠ 37 → tag b ≠ 40 → elm F b j = elm Fo b j) := ⟨fun b j n46_0 n46_1 n46_2 n46_22 n46_23 => (yz57055.1 b j n46_22 n46_23).trans (hfr.1 b j n46_0 n46_1 n46_2 n46_22 n46_23), fun b j a37 a40 => (yz57055.2 b j a37 a40).trans (hfr.2 b j a37 a40)⟩
          refine lv_iconst (v := 0) hx hb dX13_meet_57 (by decide) ?_
          refine lv_istore (lv' := [(5, .int 0), (4, .int z57049), (0, .ref p0), (1, .int p1), (2, .int p2), (3, .int p3)]) hx hb dX13_meet_58 hl (by decide) rfl (fun ls hl => ?_)
          have k57056 : (0 : Int32).toInt = 0 := by decide
          have k57057 : (0 : Int32).toInt = 0 := by decide
          exact K60 62 z57049 0 0 _ _ _ _ (by omega) (by omega) (by decide) (by decide) (by omega) (by omega) (by omega) hT hfr pf0 v57014 (lv_sub hl [2, 3, 4, 5, 1, 0] rfl)
        · have w57058 := cv_nle (rfl : z57049.toInt = z57049.toInt) (by decide : (0 : Int32).toInt = 0) c57052
          refine lv_aload_n hx hb dX13_meet_45 rfl (lv_at hl 1 rfl) ?_
          refine lv_iload hx hb dX13_meet_46 (lv_at hl 0 rfl) ?_
          refine t_cVi (n := 1) (C := RX13) (T := TX13) (N := 37) (As := [.int z57049]) (rest := []) X hT (km88_X13_refused l G tag L F hT.2.2.2 p0 z57049 m0 g0) m0 g0 rfl rfl qw_484 qw_485 qw_486 qw_5 qw_487 ⟨rfl, by decide +kernel, by decide +kernel, by decide +kernel⟩ ⟨Nat.le_of_ble_eq_true rfl, Nat.le_of_ble_eq_true rfl⟩ hl rfl rfl (Nat.le_of_ble_eq_true rfl) dX13_meet_48 ⟨Nat.le_of_ble_eq_true rfl, Nat.le_of_ble_eq_true rfl⟩ (fun z57059 F H locs hT hz57059 => ?_)
          obtain ⟨hz57059, yz57059⟩ := hz57059
          have pf0 := (yz57059.1 _ 3 (Or.inr (by decide)) (Or.inr (by decide))).trans pf0
          have v57014 := (yz57059.1 _ 0 (Or.inr (by decide)) (Or.inr (by decide))).trans v57014
          have hfr : (∀ b j : Nat, (tag b ≠ 46 ∨ j ≠ 0) → (tag b ≠ 46 ∨ j ≠ 1) → (tag b ≠ 46 ∨ j ≠ 2) → (tag b ≠ 46 ∨ j ≠ 22) → (tag b ≠ 46 ∨ j ≠ 23) → fld F b j = fld Fo b j) ∧ (∀ b j : Nat, tag b ≠ 37 → tag b ≠ 40 → elm F b j = elm Fo b j) := ⟨fun b j n46_0 n46_1 n46_2 n46_22 n46_23 => (yz57059.1 b j n46_1 n46_2).trans (hfr.1 b j n46_0 n46_1 n46_2 n46_22 n46_23), fun b j a37 a40 => (yz57059.2 b j ).trans (hfr.2 b j a37 a40)⟩
          exact t_iret hQ X hT (⟨rg_all _, hfr⟩) (Nat.le_of_ble_eq_true rfl) (Nat.le_of_ble_eq_true rfl) dX13_meet_51
