set_option maxHeartbeats 4000000 in
set_option maxRecDepth 100000 in
theorem km188_X13_skinsIn (l : Launch) (G : KG) (tag : Nat → Nat) (L : List Nat) (Fo : Nat → va_E) (ho : okT G ttC tag L Fo) (p0 : Nat) (p1 : Int32) (x0 : Nat) (m0 : p0 ∈ L) (g0 : tag p0 = 46) (mx0 : x0 ∈ L) (gx0 : tag x0 = 45) (pf0 : fld Fo p0 3 = .ref x0) : TMi l yX13_skinsIn cX13_skinsIn 3 (some .int) { frames := 8, cells := 0, slots := 0, locals := 192 } G ttC tag L Fo [.ref p0, .int p1] (fun r F1 => ((-2147483648) ≤ r.toInt ∧ r.toInt ≤ 2147483647) ∧ ((∀ b j : Nat, (tag b ≠ 46 ∨ j ≠ 0) → (tag b ≠ 46 ∨ j ≠ 1) → (tag b ≠ 46 ∨ j ≠ 2) → (tag b ≠ 46 ∨ j ≠ 22) → (tag b ≠ 46 ∨ j ≠ 23) → fld F1 b j = fld Fo b j) ∧ (∀ b j : Nat, tag b ≠ 37 → tag b ≠ 40 → elm F1 b j = elm Fo b j))) := by
  refine t_bodyi (y := yX13_skinsIn) (cd := cX13_skinsIn) (mL := 3) (rt := (some .int)) (rm := { frames := 8, cells := 0, slots := 0, locals := 192 }) (av := [.ref p0, .int p1]) (by decide) (Nat.le_of_ble_eq_true rfl) ho ?_
  intro p e s m args below meth c ls A Q hQ X hT hl
  have hx := X.1.1
  have hb := X.1.2.1
  have hl : lv_has ls 3 [(0, .ref p0), (1, .int p1)] := hl
  have rp1 := rg_all p1
  obtain ⟨F, hFo⟩ : ∃ F : Nat → va_E, F = Fo := ⟨_, rfl⟩
  rw [← hFo] at hT pf0
  have hfr : (∀ b j : Nat, (tag b ≠ 46 ∨ j ≠ 0) → (tag b ≠ 46 ∨ j ≠ 1) → (tag b ≠ 46 ∨ j ≠ 2) → (tag b ≠ 46 ∨ j ≠ 22) → (tag b ≠ 46 ∨ j ≠ 23) → fld F b j = fld Fo b j) ∧ (∀ b j : Nat, tag b ≠ 37 → tag b ≠ 40 → elm F b j = elm Fo b j) := by
    rw [hFo]
    exact ⟨by intros; rfl, by intros; rfl⟩
  refine lv_aload_n hx hb dX13_skinsIn_0 rfl (lv_at hl 0 rfl) ?_
  refine lv_iconst (v := 0) hx hb dX13_skinsIn_1 (by decide) ?_
  refine t_put (C := RX13) (T := TX13) (N := 37) (v := .int 0) X hT m0 g0 rfl tyX13 tyX13_ok nmX13 rfl 0 (by decide) qw_140 inlX13 rfl (by first | rfl | decide) (by first | rfl | decide) rfl (⟨_, rfl, (show (-2147483648) ≤ (0 : Int32).toInt from (by decide)), (show (0 : Int32).toInt ≤ 2147483647 from (by decide))⟩) dX13_skinsIn_2 (fun F H locs hT v54136 h1v54136 h2v54136 => ?_)
  have pf0 := (h1v54136 _ _ (Or.inr (by decide))).trans pf0
  have hfr : (∀ b j : Nat, (tag b ≠ 46 ∨ j ≠ 0) → (tag b ≠ 46 ∨ j ≠ 1) → (tag b ≠ 46 ∨ j ≠ 2) → (tag b ≠ 46 ∨ j ≠ 22) → (tag b ≠ 46 ∨ j ≠ 23) → fld F b j = fld Fo b j) ∧ (∀ b j : Nat, tag b ≠ 37 → tag b ≠ 40 → elm F b j = elm Fo b j) := ⟨fun b j n46_0 n46_1 n46_2 n46_22 n46_23 => (h1v54136 b j (fr_ne g0 n46_0)).trans (hfr.1 b j n46_0 n46_1 n46_2 n46_22 n46_23), fun b j a37 a40 => (h2v54136 b j).trans (hfr.2 b j a37 a40)⟩
  refine lv_aload_n hx hb dX13_skinsIn_5 rfl (lv_at hl 0 rfl) ?_
  refine lv_iconst (v := 1) hx hb dX13_skinsIn_6 (by decide) ?_
  refine lv_iload_n hx hb dX13_skinsIn_7 rfl (lv_at hl 1 rfl) ?_
  refine lv_bipush (v := 60) hx hb dX13_skinsIn_8 (by decide) ?_
  refine t_cVi (n := 3) (C := RX13) (T := TX13) (N := 37) (As := [.int 1, .int p1, .int 60]) (rest := []) X hT (km175_X13_refusesIn l G tag L F hT.2.2.2 p0 1 p1 60 x0 m0 g0 (by decide) mx0 gx0 pf0) m0 g0 rfl rfl qw_1144 qw_1145 qw_1146 qw_5 qw_1147 ⟨rfl, by decide +kernel, by decide +kernel, by decide +kernel⟩ ⟨Nat.le_of_ble_eq_true rfl, Nat.le_of_ble_eq_true rfl⟩ hl rfl rfl (Nat.le_of_ble_eq_true rfl) dX13_skinsIn_10 ⟨Nat.le_of_ble_eq_true rfl, Nat.le_of_ble_eq_true rfl⟩ (fun z54137 F9 H locs hT hz54137 => ?_)
  obtain ⟨fz54137, hz54137, xz54137_0⟩ := hz54137
  rw [fz54137] at hT
  have k54138 : (1 : Int32).toInt = 1 := by decide
  have k54139 : (60 : Int32).toInt = 60 := by decide
  refine lv_istore_n (lv' := [(2, .int z54137), (0, .ref p0), (1, .int p1)]) hx hb dX13_skinsIn_13 rfl hl (by decide) rfl (fun ls hl => ?_)
  refine lv_iload_n hx hb dX13_skinsIn_14 rfl (lv_at hl 0 rfl) ?_
  refine lv_if_le (tgt := 24) hx hb dX13_skinsIn_15 (by decide) (fun c54140 => ?_) (fun c54140 => ?_)
  · have w54141 := cv_le (rfl : z54137.toInt = z54137.toInt) (by decide : (0 : Int32).toInt = 0) c54140
    have w54142 := xz54137_0 (by omega)
    refine lv_aload_n hx hb dX13_skinsIn_24 rfl (lv_at hl 1 rfl) ?_
    refine lv_iload_n hx hb dX13_skinsIn_25 rfl (lv_at hl 2 rfl) ?_
    refine t_cVv (n := 1) (C := RX13) (T := TX13) (N := 37) (As := [.int p1]) (rest := []) X hT (km182_X13_inYears l G tag L F hT.2.2.2 p0 p1 x0 m0 g0 (by omega) mx0 gx0 pf0) m0 g0 rfl rfl qw_1148 qw_1149 qw_1150 qw_5 qw_1151 ⟨rfl, by decide +kernel, by decide +kernel, by decide +kernel⟩ ⟨Nat.le_of_ble_eq_true rfl, Nat.le_of_ble_eq_true rfl⟩ hl rfl rfl (Nat.le_of_ble_eq_true rfl) dX13_skinsIn_26 ⟨Nat.le_of_ble_eq_true rfl, Nat.le_of_ble_eq_true rfl⟩ (fun F H locs hT hz54143 => ?_)
    have yz54143 := hz54143
    have pf0 := (yz54143.1 _ 3 (Or.inr (by decide)) (Or.inr (by decide))).trans pf0
    have v54136 := (yz54143.1 _ 0 (Or.inr (by decide)) (Or.inr (by decide))).trans v54136
    have hfr : (∀ b j : Nat, (tag b ≠ 46 ∨ j ≠ 0) → (tag b ≠ 46 ∨ j ≠ 1) → (tag b ≠ 46 ∨ j ≠ 2) → (tag b ≠ 46 ∨ j ≠ 22) → (tag b ≠ 46 ∨ j ≠ 23) → fld F b j = fld Fo b j) ∧ (∀ b j : Nat, tag b ≠ 37 → tag b ≠ 40 → elm F b j = elm Fo b j) := ⟨fun b j n46_0 n46_1 n46_2 n46_22 n46_23 => (yz54143.1 b j n46_22 n46_23).trans (hfr.1 b j n46_0 n46_1 n46_2 n46_22 n46_23), fun b j a37 a40 => (yz54143.2 b j a37 a40).trans (hfr.2 b j a37 a40)⟩
    refine lv_aload_n hx hb dX13_skinsIn_29 rfl (lv_at hl 1 rfl) ?_
    refine lv_aload_n hx hb dX13_skinsIn_30 rfl (lv_at hl 1 rfl) ?_
    refine t_get (C := RX13) (T := TX13) (N := 37) X hT m0 g0 rfl rfl 17 (by decide) qw_113 inlX13 rfl dX13_skinsIn_31 (fun v54144 hv54144 ov54144 => ?_)
    obtain ⟨b54145, rfl, mb54145, gb54145⟩ := okV_r ov54144
    have gb54145 : tag b54145 = 37 := tg_of gb54145
    refine t_cSi (n := 1) (As := [.ref b54145]) (rest := [.ref p0]) X hT (km187_X13_allSkins l G tag L F hT.2.2.2 b54145 mb54145 gb54145) qw_1190 qw_1191 qw_5 qw_1192 ⟨by decide +kernel, by decide +kernel, by decide +kernel⟩ ⟨Nat.le_of_ble_eq_true rfl, Nat.le_of_ble_eq_true rfl⟩ hl rfl rfl (Nat.le_of_ble_eq_true rfl) dX13_skinsIn_34 ⟨Nat.le_of_ble_eq_true rfl, Nat.le_of_ble_eq_true rfl⟩ (fun z54146 F9 H locs hT hz54146 => ?_)
    obtain ⟨fz54146, hz54146⟩ := hz54146
    rw [fz54146] at hT
    refine t_cVi (n := 1) (C := RX13) (T := TX13) (N := 37) (As := [.int z54146]) (rest := []) X hT (km93_X13_good l G tag L F hT.2.2.2 p0 z54146 m0 g0) m0 g0 rfl rfl qw_687 qw_688 qw_689 qw_5 qw_690 ⟨rfl, by decide +kernel, by decide +kernel, by decide +kernel⟩ ⟨Nat.le_of_ble_eq_true rfl, Nat.le_of_ble_eq_true rfl⟩ hl rfl rfl (Nat.le_of_ble_eq_true rfl) dX13_skinsIn_37 ⟨Nat.le_of_ble_eq_true rfl, Nat.le_of_ble_eq_true rfl⟩ (fun z54147 F H locs hT hz54147 => ?_)
    obtain ⟨hz54147, yz54147⟩ := hz54147
    have pf0 := (yz54147.1 _ 3 (Or.inr (by decide)) (Or.inr (by decide))).trans pf0
    have v54136 := (yz54147.1 _ 0 (Or.inr (by decide)) (Or.inr (by decide))).trans v54136
    have hv54144 := (yz54147.1 _ 17 (Or.inr (by decide)) (Or.inr (by decide))).trans hv54144
    have hfr : (∀ b j : Nat, (tag b ≠ 46 ∨ j ≠ 0) → (tag b ≠ 46 ∨ j ≠ 1) → (tag b ≠ 46 ∨ j ≠ 2) → (tag b ≠ 46 ∨ j ≠ 22) → (tag b ≠ 46 ∨ j ≠ 23) → fld F b j = fld Fo b j) ∧ (∀ b j : Nat, tag b ≠ 37 → tag b ≠ 40 → elm F b j = elm Fo b j) := ⟨fun b j n46_0 n46_1 n46_2 n46_22 n46_23 => (yz54147.1 b j n46_1 n46_2).trans (hfr.1 b j n46_0 n46_1 n46_2 n46_22 n46_23), fun b j a37 a40 => (yz54147.2 b j ).trans (hfr.2 b j a37 a40)⟩
    exact t_iret hQ X hT (⟨rg_all _, hfr⟩) (Nat.le_of_ble_eq_true rfl) (Nat.le_of_ble_eq_true rfl) dX13_skinsIn_40
  · have w54148 := cv_nle (rfl : z54137.toInt = z54137.toInt) (by decide : (0 : Int32).toInt = 0) c54140
    refine lv_aload_n hx hb dX13_skinsIn_18 rfl (lv_at hl 1 rfl) ?_
    refine lv_iload_n hx hb dX13_skinsIn_19 rfl (lv_at hl 0 rfl) ?_
    refine t_cVi (n := 1) (C := RX13) (T := TX13) (N := 37) (As := [.int z54137]) (rest := []) X hT (km88_X13_refused l G tag L F hT.2.2.2 p0 z54137 m0 g0) m0 g0 rfl rfl qw_484 qw_485 qw_486 qw_5 qw_487 ⟨rfl, by decide +kernel, by decide +kernel, by decide +kernel⟩ ⟨Nat.le_of_ble_eq_true rfl, Nat.le_of_ble_eq_true rfl⟩ hl rfl rfl (Nat.le_of_ble_eq_true rfl) dX13_skinsIn_20 ⟨Nat.le_of_ble_eq_true rfl, Nat.le_of_ble_eq_true rfl⟩ (fun z54149 F H locs hT hz54149 => ?_)
    obtain ⟨hz54149, yz54149⟩ := hz54149
    have pf0 := (yz54149.1 _ 3 (Or.inr (by decide)) (Or.inr (by decide))).trans pf0
    have v54136 := (yz54149.1 _ 0 (Or.inr (by decide)) (Or.inr (by decide))).trans v54136
    have hfr : (∀ b j : Nat, (tag b ≠ 46 ∨ j ≠ 0) → (tag b ≠ 46 ∨ j ≠ 1) → (tag b ≠ 46 ∨ j ≠ 2) → (tag b ≠ 46 ∨ j ≠ 22) → (tag b ≠ 46 ∨ j ≠ 23) → fld F b j = fld Fo b j) ∧ (∀ b j : Nat, tag b ≠ 37 → tag b ≠ 40 → elm F b j = elm Fo b j) := ⟨fun b j n46_0 n46_1 n46_2 n46_22 n46_23 => (yz54149.1 b j n46_1 n46_2).trans (hfr.1 b j n46_0 n46_1 n46_2 n46_22 n46_23), fun b j a37 a40 => (yz54149.2 b j ).trans (hfr.2 b j a37 a40)⟩
    exact t_iret hQ X hT (⟨rg_all _, hfr⟩) (Nat.le_of_ble_eq_true rfl) (Nat.le_of_ble_eq_true rfl) dX13_skinsIn_23
set_option maxHeartbeats 4000000 in
set_option maxRecDepth 100000 in
theorem km189_X13_refusesIn (l : Launch) (G : KG) (tag : Nat → Nat) (L : List Nat) (F : Nat → va_E) (ho : okT G ttC tag L F) (p0 : Nat) (p1 : Int32) (p2 : Int32) (p3 : Int32) (m0 : p0 ∈ L) (g0 : tag p0 = 46) (h1 : 1 ≤ p1.toInt ∧ p1.toInt ≤ 1) (pf0 : fld F p0 3 = .null) : TMi l yX13_refusesIn cX13_refusesIn 4 (some .int) { frames := 0, cells := 0, slots := 0, locals := 0 } G ttC tag L F [.ref p0, .int p1, .int p2, .int p3] (fun r F1 => F1 = F ∧ (1 ≤ r.toInt ∧ r.toInt ≤ 1)) := by
  refine t_bodyi (y := yX13_refusesIn) (cd := cX13_refusesIn) (mL := 4) (rt := (some .int)) (rm := { frames := 0, cells := 0, slots := 0, locals := 0 }) (av := [.ref p0, .int p1, .int p2, .int p3]) (by decide) (Nat.le_of_ble_eq_true rfl) ho ?_
  intro p e s m args below meth c ls A Q hQ X hT hl
  have hx := X.1.1
  have hb := X.1.2.1
  have hl : lv_has ls 4 [(0, .ref p0), (1, .int p1), (2, .int p2), (3, .int p3)] := hl
  have rp2 := rg_all p2
  have rp3 := rg_all p3
  refine lv_aload_n hx hb dX13_refusesIn_0 rfl (lv_at hl 0 rfl) ?_
  refine t_get (C := RX13) (T := TX13) (N := 37) X hT m0 g0 rfl rfl 3 (by decide) qw_481 inlX13 rfl dX13_refusesIn_1 (fun v54162 hv54162 ov54162 => ?_)
  obtain rfl : v54162 = .null := hv54162.symm.trans pf0
  refine lv_ifnullN (tgt := 11) hx hb dX13_refusesIn_4 (by decide) ?_
  refine lv_iconst (v := 1) hx hb dX13_refusesIn_11 (by decide) ?_
  refine lv_goto (tgt := 29) hx hb dX13_refusesIn_12 (by decide) ?_
  have k54163 : (1 : Int32).toInt = 1 := by decide
  exact t_iret hQ X hT (⟨rfl, (by decide)⟩) (Nat.le_of_ble_eq_true rfl) (Nat.le_of_ble_eq_true rfl) dX13_refusesIn_29
set_option maxHeartbeats 4000000 in
set_option maxRecDepth 100000 in
theorem km190_X13_skinsIn (l : Launch) (G : KG) (tag : Nat → Nat) (L : List Nat) (Fo : Nat → va_E) (ho : okT G ttC tag L Fo) (p0 : Nat) (p1 : Int32) (m0 : p0 ∈ L) (g0 : tag p0 = 46) (pf0 : fld Fo p0 3 = .null) : TMi l yX13_skinsIn cX13_skinsIn 3 (some .int) { frames := 8, cells := 0, slots := 0, locals := 192 } G ttC tag L Fo [.ref p0, .int p1] (fun r F1 => ((-2147483648) ≤ r.toInt ∧ r.toInt ≤ 2147483647) ∧ ((∀ b j : Nat, (tag b ≠ 46 ∨ j ≠ 0) → (tag b ≠ 46 ∨ j ≠ 1) → (tag b ≠ 46 ∨ j ≠ 2) → (tag b ≠ 46 ∨ j ≠ 22) → (tag b ≠ 46 ∨ j ≠ 23) → fld F1 b j = fld Fo b j) ∧ (∀ b j : Nat, tag b ≠ 37 → tag b ≠ 40 → elm F1 b j = elm Fo b j))) := by
  refine t_bodyi (y := yX13_skinsIn) (cd := cX13_skinsIn) (mL := 3) (rt := (some .int)) (rm := { frames := 8, cells := 0, slots := 0, locals := 192 }) (av := [.ref p0, .int p1]) (by decide) (Nat.le_of_ble_eq_true rfl) ho ?_
  intro p e s m args below meth c ls A Q hQ X hT hl
  have hx := X.1.1
  have hb := X.1.2.1
  have hl : lv_has ls 3 [(0, .ref p0), (1, .int p1)] := hl
  have rp1 := rg_all p1
  obtain ⟨F, hFo⟩ : ∃ F : Nat → va_E, F = Fo := ⟨_, rfl⟩
  rw [← hFo] at hT pf0
  have hfr : (∀ b j : Nat, (tag b ≠ 46 ∨ j ≠ 0) → (tag b ≠ 46 ∨ j ≠ 1) → (tag b ≠ 46 ∨ j ≠ 2) → (tag b ≠ 46 ∨ j ≠ 22) → (tag b ≠ 46 ∨ j ≠ 23) → fld F b j = fld Fo b j) ∧ (∀ b j : Nat, tag b ≠ 37 → tag b ≠ 40 → elm F b j = elm Fo b j) := by
    rw [hFo]
    exact ⟨by intros; rfl, by intros; rfl⟩
  refine lv_aload_n hx hb dX13_skinsIn_0 rfl (lv_at hl 0 rfl) ?_
  refine lv_iconst (v := 0) hx hb dX13_skinsIn_1 (by decide) ?_
  refine t_put (C := RX13) (T := TX13) (N := 37) (v := .int 0) X hT m0 g0 rfl tyX13 tyX13_ok nmX13 rfl 0 (by decide) qw_140 inlX13 rfl (by first | rfl | decide) (by first | rfl | decide) rfl (⟨_, rfl, (show (-2147483648) ≤ (0 : Int32).toInt from (by decide)), (show (0 : Int32).toInt ≤ 2147483647 from (by decide))⟩) dX13_skinsIn_2 (fun F H locs hT v54229 h1v54229 h2v54229 => ?_)
  have pf0 := (h1v54229 _ _ (Or.inr (by decide))).trans pf0
  have hfr : (∀ b j : Nat, (tag b ≠ 46 ∨ j ≠ 0) → (tag b ≠ 46 ∨ j ≠ 1) → (tag b ≠ 46 ∨ j ≠ 2) → (tag b ≠ 46 ∨ j ≠ 22) → (tag b ≠ 46 ∨ j ≠ 23) → fld F b j = fld Fo b j) ∧ (∀ b j : Nat, tag b ≠ 37 → tag b ≠ 40 → elm F b j = elm Fo b j) := ⟨fun b j n46_0 n46_1 n46_2 n46_22 n46_23 => (h1v54229 b j (fr_ne g0 n46_0)).trans (hfr.1 b j n46_0 n46_1 n46_2 n46_22 n46_23), fun b j a37 a40 => (h2v54229 b j).trans (hfr.2 b j a37 a40)⟩
  refine lv_aload_n hx hb dX13_skinsIn_5 rfl (lv_at hl 0 rfl) ?_
  refine lv_iconst (v := 1) hx hb dX13_skinsIn_6 (by decide) ?_
  refine lv_iload_n hx hb dX13_skinsIn_7 rfl (lv_at hl 1 rfl) ?_
  refine lv_bipush (v := 60) hx hb dX13_skinsIn_8 (by decide) ?_
  refine t_cVi (n := 3) (C := RX13) (T := TX13) (N := 37) (As := [.int 1, .int p1, .int 60]) (rest := []) X hT (km189_X13_refusesIn l G tag L F hT.2.2.2 p0 1 p1 60 m0 g0 (by decide) pf0) m0 g0 rfl rfl qw_1144 qw_1145 qw_1146 qw_5 qw_1147 ⟨rfl, by decide +kernel, by decide +kernel, by decide +kernel⟩ ⟨Nat.le_of_ble_eq_true rfl, Nat.le_of_ble_eq_true rfl⟩ hl rfl rfl (Nat.le_of_ble_eq_true rfl) dX13_skinsIn_10 ⟨Nat.le_of_ble_eq_true rfl, Nat.le_of_ble_eq_true rfl⟩ (fun z54230 F9 H locs hT hz54230 => ?_)
  obtain ⟨fz54230, hz54230⟩ := hz54230
  rw [fz54230] at hT
  refine lv_istore_n (lv' := [(2, .int z54230), (0, .ref p0), (1, .int p1)]) hx hb dX13_skinsIn_13 rfl hl (by decide) rfl (fun ls hl => ?_)
  refine lv_iload_n hx hb dX13_skinsIn_14 rfl (lv_at hl 0 rfl) ?_
  refine lv_if_le (tgt := 24) hx hb dX13_skinsIn_15 (by decide) (fun c54231 => ?_) (fun c54231 => ?_)
  · have w54232 := cv_le (rfl : z54230.toInt = z54230.toInt) (by decide : (0 : Int32).toInt = 0) c54231
    exfalso
    omega
  · have w54233 := cv_nle (rfl : z54230.toInt = z54230.toInt) (by decide : (0 : Int32).toInt = 0) c54231
    refine lv_aload_n hx hb dX13_skinsIn_18 rfl (lv_at hl 1 rfl) ?_
    refine lv_iload_n hx hb dX13_skinsIn_19 rfl (lv_at hl 0 rfl) ?_
    refine t_cVi (n := 1) (C := RX13) (T := TX13) (N := 37) (As := [.int z54230]) (rest := []) X hT (km88_X13_refused l G tag L F hT.2.2.2 p0 z54230 m0 g0) m0 g0 rfl rfl qw_484 qw_485 qw_486 qw_5 qw_487 ⟨rfl, by decide +kernel, by decide +kernel, by decide +kernel⟩ ⟨Nat.le_of_ble_eq_true rfl, Nat.le_of_ble_eq_true rfl⟩ hl rfl rfl (Nat.le_of_ble_eq_true rfl) dX13_skinsIn_20 ⟨Nat.le_of_ble_eq_true rfl, Nat.le_of_ble_eq_true rfl⟩ (fun z54234 F H locs hT hz54234 => ?_)
    obtain ⟨hz54234, yz54234⟩ := hz54234
    have pf0 := (yz54234.1 _ 3 (Or.inr (by decide)) (Or.inr (by decide))).trans pf0
    have v54229 := (yz54234.1 _ 0 (Or.inr (by decide)) (Or.inr (by decide))).trans v54229
    have hfr : (∀ b j : Nat, (tag b ≠ 46 ∨ j ≠ 0) → (tag b ≠ 46 ∨ j ≠ 1) → (tag b ≠ 46 ∨ j ≠ 2) → (tag b ≠ 46 ∨ j ≠ 22) → (tag b ≠ 46 ∨ j ≠ 23) → fld F b j = fld Fo b j) ∧ (∀ b j : Nat, tag b ≠ 37 → tag b ≠ 40 → elm F b j = elm Fo b j) := ⟨fun b j n46_0 n46_1 n46_2 n46_22 n46_23 => (yz54234.1 b j n46_1 n46_2).trans (hfr.1 b j n46_0 n46_1 n46_2 n46_22 n46_23), fun b j a37 a40 => (yz54234.2 b j ).trans (hfr.2 b j a37 a40)⟩
    exact t_iret hQ X hT (⟨rg_all _, hfr⟩) (Nat.le_of_ble_eq_true rfl) (Nat.le_of_ble_eq_true rfl) dX13_skinsIn_23
theorem kp_X13_skinsIn (l : Launch) (G : KG) (tag : Nat → Nat) (L : List Nat) (Fo : Nat → va_E) (ho : okT G ttC tag L Fo) (p0 : Nat) (p1 : Int32) (m0 : p0 ∈ L) (g0 : tag p0 = 46) : TMi l yX13_skinsIn cX13_skinsIn 3 (some .int) { frames := 8, cells := 0, slots := 0, locals := 192 } G ttC tag L Fo [.ref p0, .int p1] (fun r F1 => ((-2147483648) ≤ r.toInt ∧ r.toInt ≤ 2147483647) ∧ ((∀ b j : Nat, (tag b ≠ 46 ∨ j ≠ 0) → (tag b ≠ 46 ∨ j ≠ 1) → (tag b ≠ 46 ∨ j ≠ 2) → (tag b ≠ 46 ∨ j ≠ 22) → (tag b ≠ 46 ∨ j ≠ 23) → fld F1 b j = fld Fo b j) ∧ (∀ b j : Nat, tag b ≠ 37 → tag b ≠ 40 → elm F1 b j = elm Fo b j))) := by
  rcases t_fldn ho m0 g0 rfl 3 rfl with h9 | ⟨b9, h9, m9, t9⟩
  · exact km190_X13_skinsIn l G tag L Fo ho p0 p1  m0 g0 h9 
  · exact km188_X13_skinsIn l G tag L Fo ho p0 p1 b9  m0 g0 m9 (tg_of t9) h9 
set_option maxHeartbeats 4000000 in
set_option maxRecDepth 100000 in
theorem km192_X13_doMeet (l : Launch) (G : KG) (tag : Nat → Nat) (L : List Nat) (F : Nat → va_E) (ho : okT G ttC tag L F) (p0 : Nat) (p1 : Nat) (p2 : Int32) (p3 : Int32) (x0 : Nat) (m0 : p0 ∈ L) (g0 : tag p0 = 46) (m1 : p1 ∈ L) (g1 : tag p1 = 37) (h2 : 0 ≤ p2.toInt ∧ p2.toInt ≤ 3) (h3 : 0 ≤ p3.toInt ∧ p3.toInt ≤ 3) (mx0 : x0 ∈ L) (gx0 : tag x0 = 45) (pf0 : fld F p0 3 = .ref x0) : TMi l yX13_doMeet cX13_doMeet 8 (some .boolean) { frames := 2, cells := 0, slots := 0, locals := 46 } G ttC tag L F [.ref p0, .ref p1, .int p2, .int p3] (fun r F1 => F1 = F ∧ (0 ≤ r.toInt ∧ r.toInt ≤ 1)) := by
  refine t_bodyi (y := yX13_doMeet) (cd := cX13_doMeet) (mL := 8) (rt := (some .boolean)) (rm := { frames := 2, cells := 0, slots := 0, locals := 46 }) (av := [.ref p0, .ref p1, .int p2, .int p3]) (by decide) (Nat.le_of_ble_eq_true rfl) ho ?_
  intro p e s m args below meth c ls A Q hQ X hT hl
  have hx := X.1.1
  have hb := X.1.2.1
  have hl : lv_has ls 8 [(0, .ref p0), (1, .ref p1), (2, .int p2), (3, .int p3)] := hl
  have K3 : ∀ (n : Nat) (z55864 : Int32) (H : Heap) (locs : List Loc) (ls : Array Slot), (144 - z55864.toInt < (n : Int)) → (0 ≤ z55864.toInt ∧ z55864.toInt ≤ 144) → TH G ttC A s tag L F H locs → lv_has ls 8 [(0, .ref p0), (1, .ref p1), (2, .int p2), (3, .int p3), (4, .int z55864)] → W p l e { frames := 2, cells := 0, slots := 0, locals := 46 } s m args below meth c H locs 0 0 Q (F0 m 3 ls []) := by
    intro n
    induction n with
    | zero =>
      intro z55864 H locs ls hn rz55864 hT hl
      exfalso
      omega
    | succ n ih3 =>
      intro z55864 H locs ls hn rz55864 hT hl
      have K133 : ∀ (z55866 : Int32) (z55867 : Int32) (z55868 : Int32) (H : Heap) (locs : List Loc) (ls : Array Slot), (0 ≤ z55866.toInt ∧ z55866.toInt ≤ 11) → (0 ≤ z55867.toInt ∧ z55867.toInt ≤ 143) → (1 ≤ z55868.toInt ∧ z55868.toInt ≤ 12) → (0 ≤ z55864.toInt ∧ z55864.toInt ≤ 143) → TH G ttC A s tag L F H locs → (fld F x0 0 = .int z55868) → lv_has ls 8 [(0, .ref p0), (1, .ref p1), (2, .int p2), (3, .int p3), (4, .int z55864), (5, .int z55866), (6, .int z55867)] → W p l e { frames := 2, cells := 0, slots := 0, locals := 46 } s m args below meth c H locs 0 0 Q (F0 m 133 ls []) := by
        intro z55866 z55867 z55868 H locs ls rz55866 rz55867 rz55868 r9s55865 hT qz55868 hl
        obtain ⟨z55869, ez55869⟩ : ∃ y : Int32, y = z55864 + 1 := ⟨_, rfl⟩
        have hz55869 : z55869.toInt = z55864.toInt + 1 := ar_add ez55869 rfl (by decide : (1 : Int32).toInt = 1) (by omega) (by omega)
        refine lv_iinc (v := z55869) (lv' := [(4, .int z55869), (0, .ref p0), (1, .ref p1), (2, .int p2), (3, .int p3), (5, .int z55866), (6, .int z55867)]) hx hb dX13_doMeet_133 hl (k := 4) rfl (by rw [ez55869]; rfl) (by decide) rfl (fun ls hl => ?_)
        refine lv_goto (tgt := 3) hx hb dX13_doMeet_136 (by decide) ?_
        exact ih3 z55869 _ _ _ (by omega) (by omega) hT  (lv_sub hl [1, 2, 3, 4, 0] rfl)
      have K87 : ∀ (n : Nat) (z55871 : Int32) (z55872 : Int32) (z55873 : Int32) (z55874 : Int32) (H : Heap) (locs : List Loc) (ls : Array Slot), (4 - z55873.toInt < (n : Int)) → (0 ≤ z55871.toInt ∧ z55871.toInt ≤ 11) → (0 ≤ z55872.toInt ∧ z55872.toInt ≤ 143) → (0 ≤ z55873.toInt ∧ z55873.toInt ≤ 4) → (1 ≤ z55874.toInt ∧ z55874.toInt ≤ 12) → (0 ≤ z55864.toInt ∧ z55864.toInt ≤ 143) → TH G ttC A s tag L F H locs → (fld F x0 0 = .int z55874) → lv_has ls 8 [(0, .ref p0), (1, .ref p1), (2, .int p2), (3, .int p3), (4, .int z55864), (5, .int z55871), (6, .int z55872), (7, .int z55873)] → W p l e { frames := 2, cells := 0, slots := 0, locals := 46 } s m args below meth c H locs 0 0 Q (F0 m 87 ls []) := by
        intro n
        induction n with
        | zero =>
          intro z55871 z55872 z55873 z55874 H locs ls hn rz55871 rz55872 rz55873 rz55874 r9s55870 hT qz55874 hl
          exfalso
          omega
        | succ n ih87 =>
          intro z55871 z55872 z55873 z55874 H locs ls hn rz55871 rz55872 rz55873 rz55874 r9s55870 hT qz55874 hl
          refine lv_iload hx hb dX13_doMeet_87 (lv_at hl 7 rfl) ?_
          refine lv_iconst (v := 4) hx hb dX13_doMeet_89 (by decide) ?_
          refine lv_icmp_ge (tgt := 133) hx hb dX13_doMeet_90 (by decide) (fun c55875 => ?_) (fun c55875 => ?_)
          · have w55876 := cv_le (by decide : (4 : Int32).toInt = 4) (rfl : z55873.toInt = z55873.toInt) c55875
            exact K133 z55871 z55872 z55874 _ _ _ (by omega) (by omega) (by omega) (by omega) hT qz55874 (lv_sub hl [0, 1, 2, 3, 4, 5, 6] rfl)
          · have w55877 := cv_nle (by decide : (4 : Int32).toInt = 4) (rfl : z55873.toInt = z55873.toInt) c55875
            refine lv_aload_n hx hb dX13_doMeet_93 rfl (lv_at hl 0 rfl) ?_
            refine t_get (C := RX13) (T := TX13) (N := 37) X hT m0 g0 rfl rfl 3 (by decide) qw_481 inlX13 rfl dX13_doMeet_94 (fun v55878 hv55878 ov55878 => ?_)
            obtain rfl : v55878 = .ref x0 := hv55878.symm.trans pf0
            refine lv_iload_n hx hb dX13_doMeet_97 rfl (lv_at hl 3 rfl) ?_
            refine lv_iload hx hb dX13_doMeet_98 (lv_at hl 5 rfl) ?_
            refine lv_iload hx hb dX13_doMeet_100 (lv_at hl 7 rfl) ?_
            refine t_cSi (n := 1) (As := [.int z55873]) (rest := [.int z55871, .int p3, .ref x0]) X hT (km109_X13_outX l G tag L F hT.2.2.2 z55873 ) qw_810 qw_811 qw_5 qw_812 ⟨by decide +kernel, by decide +kernel, by decide +kernel⟩ ⟨Nat.le_of_ble_eq_true rfl, Nat.le_of_ble_eq_true rfl⟩ hl rfl rfl (Nat.le_of_ble_eq_true rfl) dX13_doMeet_102 ⟨Nat.le_of_ble_eq_true rfl, Nat.le_of_ble_eq_true rfl⟩ (fun z55879 F9 H locs hT hz55879 => ?_)
            obtain ⟨fz55879, hz55879⟩ := hz55879
            rw [fz55879] at hT
            refine lv_iadd hx hb dX13_doMeet_105 ?_
            refine lv_topi (fun z55880 ez55880 => ?_)
            have hz55880 : z55880.toInt = z55871.toInt + z55879.toInt := ar_add ez55880 (rfl : z55871.toInt = z55871.toInt) (rfl : z55879.toInt = z55879.toInt) (by omega) (by omega)
            have rz55880 : (-1) ≤ z55880.toInt ∧ z55880.toInt ≤ 12 := by omega
            refine lv_iload hx hb dX13_doMeet_106 (lv_at hl 6 rfl) ?_
            refine lv_iload hx hb dX13_doMeet_108 (lv_at hl 7 rfl) ?_
            refine t_cSi (n := 1) (As := [.int z55873]) (rest := [.int z55872, .int z55880, .int p3, .ref x0]) X hT (km111_X13_outY l G tag L F hT.2.2.2 z55873 ) qw_816 qw_817 qw_5 qw_818 ⟨by decide +kernel, by decide +kernel, by decide +kernel⟩ ⟨Nat.le_of_ble_eq_true rfl, Nat.le_of_ble_eq_true rfl⟩ hl rfl rfl (Nat.le_of_ble_eq_true rfl) dX13_doMeet_110 ⟨Nat.le_of_ble_eq_true rfl, Nat.le_of_ble_eq_true rfl⟩ (fun z55881 F9 H locs hT hz55881 => ?_)
            obtain ⟨fz55881, hz55881⟩ := hz55881
            rw [fz55881] at hT
            refine lv_iadd hx hb dX13_doMeet_113 ?_
            refine lv_topi (fun z55882 ez55882 => ?_)
            have hz55882 : z55882.toInt = z55872.toInt + z55881.toInt := ar_add ez55882 (rfl : z55872.toInt = z55872.toInt) (rfl : z55881.toInt = z55881.toInt) (by omega) (by omega)
            have rz55882 : (-1) ≤ z55882.toInt ∧ z55882.toInt ≤ 144 := by omega
            refine t_cVi (n := 3) (C := RX12) (T := TX12) (N := 31) (As := [.int p3, .int z55880, .int z55882]) (rest := []) X hT (km91_X12_far l G tag L F hT.2.2.2 x0 p3 z55880 z55882 mx0 gx0 (by omega)) mx0 gx0 rfl rfl qw_619 qw_620 qw_621 qw_476 qw_622 ⟨rfl, by decide +kernel, by decide +kernel, by decide +kernel⟩ ⟨Nat.le_of_ble_eq_true rfl, Nat.le_of_ble_eq_true rfl⟩ hl rfl rfl (Nat.le_of_ble_eq_true rfl) dX13_doMeet_114 ⟨Nat.le_of_ble_eq_true rfl, Nat.le_of_ble_eq_true rfl⟩ (fun z55883 F9 H locs hT hz55883 => ?_)
            obtain ⟨fz55883, hz55883⟩ := hz55883
            rw [fz55883] at hT
            refine lv_aload_n hx hb dX13_doMeet_117 rfl (lv_at hl 1 rfl) ?_
            refine lv_iconst (v := 0) hx hb dX13_doMeet_118 (by decide) ?_
            refine lv_iload_n hx hb dX13_doMeet_119 rfl (lv_at hl 3 rfl) ?_
            refine lv_iadd hx hb dX13_doMeet_120 ?_
            refine lv_topi (fun z55884 ez55884 => ?_)
            obtain rfl : p3 = z55884 := (ar_zadd ez55884).symm
            refine t_ild X hT m1 g1 rfl (by omega) dX13_doMeet_121 (fun z55885 vz55885 rz55885 => ?_)
            have rz55885 := row_ml (by omega) rz55885
            refine lv_icmp_gt (tgt := 127) hx hb dX13_doMeet_122 (by decide) (fun c55886 => ?_) (fun c55886 => ?_)
            · have w55887 := cv_lt (rfl : z55885.toInt = z55885.toInt) (rfl : z55883.toInt = z55883.toInt) c55886
              obtain ⟨z55888, ez55888⟩ : ∃ y : Int32, y = z55873 + 1 := ⟨_, rfl⟩
              have hz55888 : z55888.toInt = z55873.toInt + 1 := ar_add ez55888 rfl (by decide : (1 : Int32).toInt = 1) (by omega) (by omega)
              refine lv_iinc (v := z55888) (lv' := [(7, .int z55888), (0, .ref p0), (1, .ref p1), (2, .int p2), (3, .int p3), (4, .int z55864), (5, .int z55871), (6, .int z55872)]) hx hb dX13_doMeet_127 hl (k := 7) rfl (by rw [ez55888]; rfl) (by decide) rfl (fun ls hl => ?_)
              refine lv_goto (tgt := 87) hx hb dX13_doMeet_130 (by decide) ?_
              exact ih87 z55871 z55872 z55888 z55874 _ _ _ (by omega) (by omega) (by omega) (by omega) (by omega) (by omega) hT qz55874 (lv_sub hl [1, 2, 3, 4, 5, 6, 7, 0] rfl)
            · have w55889 := cv_nlt (rfl : z55885.toInt = z55885.toInt) (rfl : z55883.toInt = z55883.toInt) c55886
              refine lv_iconst (v := 1) hx hb dX13_doMeet_125 (by decide) ?_
              have k55890 : (1 : Int32).toInt = 1 := by decide
              exact t_zret hQ X hT (by decide) (⟨rfl, (by decide)⟩) (Nat.le_of_ble_eq_true rfl) (Nat.le_of_ble_eq_true rfl) dX13_doMeet_126
      refine lv_iload hx hb dX13_doMeet_3 (lv_at hl 4 rfl) ?_
      refine lv_aload_n hx hb dX13_doMeet_5 rfl (lv_at hl 0 rfl) ?_
      refine t_get (C := RX13) (T := TX13) (N := 37) X hT m0 g0 rfl rfl 3 (by decide) qw_481 inlX13 rfl dX13_doMeet_6 (fun v55891 hv55891 ov55891 => ?_)
      obtain rfl : v55891 = .ref x0 := hv55891.symm.trans pf0
      refine t_cVi (n := 0) (C := RX12) (T := TX12) (N := 31) (As := []) (rest := [.int z55864]) X hT (km98_X12_cells l G tag L F hT.2.2.2 x0 mx0 gx0) mx0 gx0 rfl rfl qw_744 qw_745 qw_746 qw_476 qw_747 ⟨rfl, by decide +kernel, by decide +kernel, by decide +kernel⟩ ⟨Nat.le_of_ble_eq_true rfl, Nat.le_of_ble_eq_true rfl⟩ hl rfl rfl (Nat.le_of_ble_eq_true rfl) dX13_doMeet_9 ⟨Nat.le_of_ble_eq_true rfl, Nat.le_of_ble_eq_true rfl⟩ (fun z55892 F9 H locs hT hz55892 => ?_)
      obtain ⟨fz55892, hz55892⟩ := hz55892
      rw [fz55892] at hT
      refine lv_icmp_ge (tgt := 139) hx hb dX13_doMeet_12 (by decide) (fun c55893 => ?_) (fun c55893 => ?_)
      · have w55894 := cv_le (rfl : z55892.toInt = z55892.toInt) (rfl : z55864.toInt = z55864.toInt) c55893
        refine lv_iconst (v := 0) hx hb dX13_doMeet_139 (by decide) ?_
        have k55895 : (0 : Int32).toInt = 0 := by decide
        exact t_zret hQ X hT (by decide) (⟨rfl, (by decide)⟩) (Nat.le_of_ble_eq_true rfl) (Nat.le_of_ble_eq_true rfl) dX13_doMeet_140
      · have w55896 := cv_nle (rfl : z55892.toInt = z55892.toInt) (rfl : z55864.toInt = z55864.toInt) c55893
        refine lv_iload hx hb dX13_doMeet_15 (lv_at hl 4 rfl) ?_
        refine lv_aload_n hx hb dX13_doMeet_17 rfl (lv_at hl 0 rfl) ?_
        refine t_get (C := RX13) (T := TX13) (N := 37) X hT m0 g0 rfl rfl 3 (by decide) qw_481 inlX13 rfl dX13_doMeet_18 (fun v55897 hv55897 ov55897 => ?_)
        obtain rfl : v55897 = .ref x0 := hv55897.symm.trans pf0
        refine t_getN (C := RX12) (T := TX12) (N := 31) X hT mx0 gx0 rfl rfl 0 (by decide) (List.mem_of_getElem? (i := 4) rfl) inlX12 rfl dX13_doMeet_21 (fun v55898 hv55898 ov55898 => ?_)
        obtain ⟨z55899, rfl, rz55899⟩ := okV_i ov55898
        refine lv_irem hx hb dX13_doMeet_24 (ne0_of (by omega)) ?_
        refine lv_topi (fun z55900 ez55900 => ?_)
        have hz55900 := ar_remv ez55900 (by omega) (by omega)
        have rz55900 : 0 ≤ z55900.toInt ∧ z55900.toInt ≤ 11 := by omega
        refine lv_istore (lv' := [(5, .int z55900), (0, .ref p0), (1, .ref p1), (2, .int p2), (3, .int p3), (4, .int z55864)]) hx hb dX13_doMeet_25 hl (by decide) rfl (fun ls hl => ?_)
        refine lv_iload hx hb dX13_doMeet_27 (lv_at hl 5 rfl) ?_
        refine lv_aload_n hx hb dX13_doMeet_29 rfl (lv_at hl 1 rfl) ?_
        refine t_get (C := RX13) (T := TX13) (N := 37) X hT m0 g0 rfl rfl 3 (by decide) qw_481 inlX13 rfl dX13_doMeet_30 (fun v55901 hv55901 ov55901 => ?_)
        obtain rfl : v55901 = .ref x0 := hv55901.symm.trans pf0
        refine t_getN (C := RX12) (T := TX12) (N := 31) X hT mx0 gx0 rfl rfl 0 (by decide) (List.mem_of_getElem? (i := 4) rfl) inlX12 rfl dX13_doMeet_33 (fun v55902 hv55902 ov55902 => ?_)
        obtain rfl : v55902 = .int z55899 := hv55902.symm.trans hv55898
        refine lv_idiv hx hb dX13_doMeet_36 (ne0_of (by omega)) ?_
        refine lv_topi (fun z55903 ez55903 => ?_)
        have rz55903 : 0 ≤ z55903.toInt ∧ z55903.toInt ≤ 143 := ar_divv ez55903 (A := 143) (by omega) (by omega)
        refine lv_istore (lv' := [(6, .int z55903), (5, .int z55900), (0, .ref p0), (1, .ref p1), (2, .int p2), (3, .int p3), (4, .int z55864)]) hx hb dX13_doMeet_37 hl (by decide) rfl (fun ls hl => ?_)
        refine lv_aload_n hx hb dX13_doMeet_39 rfl (lv_at hl 2 rfl) ?_
        refine t_get (C := RX13) (T := TX13) (N := 37) X hT m0 g0 rfl rfl 3 (by decide) qw_481 inlX13 rfl dX13_doMeet_40 (fun v55904 hv55904 ov55904 => ?_)
        obtain rfl : v55904 = .ref x0 := hv55904.symm.trans pf0
        refine lv_iload_n hx hb dX13_doMeet_43 rfl (lv_at hl 4 rfl) ?_
        refine lv_iload hx hb dX13_doMeet_44 (lv_at hl 1 rfl) ?_
        refine lv_iload hx hb dX13_doMeet_46 (lv_at hl 0 rfl) ?_
        refine t_cVi (n := 3) (C := RX12) (T := TX12) (N := 31) (As := [.int p2, .int z55900, .int z55903]) (rest := []) X hT (km91_X12_far l G tag L F hT.2.2.2 x0 p2 z55900 z55903 mx0 gx0 (by omega)) mx0 gx0 rfl rfl qw_619 qw_620 qw_621 qw_476 qw_622 ⟨rfl, by decide +kernel, by decide +kernel, by decide +kernel⟩ ⟨Nat.le_of_ble_eq_true rfl, Nat.le_of_ble_eq_true rfl⟩ hl rfl rfl (Nat.le_of_ble_eq_true rfl) dX13_doMeet_48 ⟨Nat.le_of_ble_eq_true rfl, Nat.le_of_ble_eq_true rfl⟩ (fun z55905 F9 H locs hT hz55905 => ?_)
        obtain ⟨fz55905, hz55905⟩ := hz55905
        rw [fz55905] at hT
        refine lv_aload_n hx hb dX13_doMeet_51 rfl (lv_at hl 3 rfl) ?_
        refine lv_iconst (v := 0) hx hb dX13_doMeet_52 (by decide) ?_
        refine lv_iload_n hx hb dX13_doMeet_53 rfl (lv_at hl 4 rfl) ?_
        refine lv_iadd hx hb dX13_doMeet_54 ?_
        refine lv_topi (fun z55906 ez55906 => ?_)
        obtain rfl : p2 = z55906 := (ar_zadd ez55906).symm
        refine t_ild X hT m1 g1 rfl (by omega) dX13_doMeet_55 (fun z55907 vz55907 rz55907 => ?_)
        have rz55907 := row_ml (by omega) rz55907
        refine lv_icmp_le (tgt := 62) hx hb dX13_doMeet_56 (by decide) (fun c55908 => ?_) (fun c55908 => ?_)
        · have w55909 := cv_le (rfl : z55905.toInt = z55905.toInt) (rfl : z55907.toInt = z55907.toInt) c55908
          refine lv_aload_n hx hb dX13_doMeet_62 rfl (lv_at hl 2 rfl) ?_
          refine t_get (C := RX13) (T := TX13) (N := 37) X hT m0 g0 rfl rfl 3 (by decide) qw_481 inlX13 rfl dX13_doMeet_63 (fun v55910 hv55910 ov55910 => ?_)
          obtain rfl : v55910 = .ref x0 := hv55910.symm.trans pf0
          refine lv_iload_n hx hb dX13_doMeet_66 rfl (lv_at hl 5 rfl) ?_
          refine lv_iload hx hb dX13_doMeet_67 (lv_at hl 1 rfl) ?_
          refine lv_iload hx hb dX13_doMeet_69 (lv_at hl 0 rfl) ?_
          refine t_cVi (n := 3) (C := RX12) (T := TX12) (N := 31) (As := [.int p3, .int z55900, .int z55903]) (rest := []) X hT (km91_X12_far l G tag L F hT.2.2.2 x0 p3 z55900 z55903 mx0 gx0 (by omega)) mx0 gx0 rfl rfl qw_619 qw_620 qw_621 qw_476 qw_622 ⟨rfl, by decide +kernel, by decide +kernel, by decide +kernel⟩ ⟨Nat.le_of_ble_eq_true rfl, Nat.le_of_ble_eq_true rfl⟩ hl rfl rfl (Nat.le_of_ble_eq_true rfl) dX13_doMeet_71 ⟨Nat.le_of_ble_eq_true rfl, Nat.le_of_ble_eq_true rfl⟩ (fun z55911 F9 H locs hT hz55911 => ?_)
          obtain ⟨fz55911, hz55911⟩ := hz55911
          rw [fz55911] at hT
          refine lv_aload_n hx hb dX13_doMeet_74 rfl (lv_at hl 3 rfl) ?_
          refine lv_iconst (v := 0) hx hb dX13_doMeet_75 (by decide) ?_
          refine lv_iload_n hx hb dX13_doMeet_76 rfl (lv_at hl 5 rfl) ?_
          refine lv_iadd hx hb dX13_doMeet_77 ?_
          refine lv_topi (fun z55912 ez55912 => ?_)
          obtain rfl : p3 = z55912 := (ar_zadd ez55912).symm
          refine t_ild X hT m1 g1 rfl (by omega) dX13_doMeet_78 (fun z55913 vz55913 rz55913 => ?_)
          have rz55913 := row_ml (by omega) rz55913
          refine lv_icmp_gt (tgt := 84) hx hb dX13_doMeet_79 (by decide) (fun c55914 => ?_) (fun c55914 => ?_)
          · have w55915 := cv_lt (rfl : z55913.toInt = z55913.toInt) (rfl : z55911.toInt = z55911.toInt) c55914
            refine lv_iconst (v := 0) hx hb dX13_doMeet_84 (by decide) ?_
            refine lv_istore (lv' := [(7, .int 0), (6, .int z55903), (5, .int z55900), (0, .ref p0), (1, .ref p1), (2, .int p2), (3, .int p3), (4, .int z55864)]) hx hb dX13_doMeet_85 hl (by decide) rfl (fun ls hl => ?_)
            have k55916 : (0 : Int32).toInt = 0 := by decide
            exact K87 5 z55900 z55903 0 z55899 _ _ _ (by omega) (by omega) (by omega) (by decide) (by omega) (by omega) hT hv55898 (lv_sub hl [3, 4, 5, 6, 7, 2, 1, 0] rfl)
          · have w55917 := cv_nlt (rfl : z55913.toInt = z55913.toInt) (rfl : z55911.toInt = z55911.toInt) c55914
            refine lv_iconst (v := 1) hx hb dX13_doMeet_82 (by decide) ?_
            have k55918 : (1 : Int32).toInt = 1 := by decide
            exact t_zret hQ X hT (by decide) (⟨rfl, (by decide)⟩) (Nat.le_of_ble_eq_true rfl) (Nat.le_of_ble_eq_true rfl) dX13_doMeet_83
        · have w55919 := cv_nle (rfl : z55905.toInt = z55905.toInt) (rfl : z55907.toInt = z55907.toInt) c55908
          refine lv_goto (tgt := 133) hx hb dX13_doMeet_59 (by decide) ?_
          exact K133 z55900 z55903 z55899 _ _ _ (by omega) (by omega) (by omega) (by omega) hT hv55898 (lv_sub hl [2, 3, 4, 5, 6, 1, 0] rfl)
  refine lv_iconst (v := 0) hx hb dX13_doMeet_0 (by decide) ?_
  refine lv_istore (lv' := [(4, .int 0), (0, .ref p0), (1, .ref p1), (2, .int p2), (3, .int p3)]) hx hb dX13_doMeet_1 hl (by decide) rfl (fun ls hl => ?_)
  have k55920 : (0 : Int32).toInt = 0 := by decide
  exact K3 145 0 _ _ _ (by omega) (by decide) hT  (lv_sub hl [1, 2, 3, 4, 0] rfl)
set_option maxHeartbeats 4000000 in
set_option maxRecDepth 100000 in
theorem km193_X13_meet (l : Launch) (G : KG) (tag : Nat → Nat) (L : List Nat) (Fo : Nat → va_E) (ho : okT G ttC tag L Fo) (p0 : Nat) (p1 : Int32) (p2 : Int32) (p3 : Int32) (x0 : Nat) (m0 : p0 ∈ L) (g0 : tag p0 = 46) (mx0 : x0 ∈ L) (gx0 : tag x0 = 45) (pf0 : fld Fo p0 3 = .ref x0) : TMi l yX13_meet cX13_meet 6 (some .int) { frames := 8, cells := 0, slots := 0, locals := 192 } G ttC tag L Fo [.ref p0, .int p1, .int p2, .int p3] (fun r F1 => ((-2147483648) ≤ r.toInt ∧ r.toInt ≤ 2147483647) ∧ ((∀ b j : Nat, (tag b ≠ 46 ∨ j ≠ 0) → (tag b ≠ 46 ∨ j ≠ 1) → (tag b ≠ 46 ∨ j ≠ 2) → (tag b ≠ 46 ∨ j ≠ 22) → (tag b ≠ 46 ∨ j ≠ 23) → fld F1 b j = fld Fo b j) ∧ (∀ b j : Nat, tag b ≠ 37 → tag b ≠ 40 → elm F1 b j = elm Fo b j))) := by
  refine t_bodyi (y := yX13_meet) (cd := cX13_meet) (mL := 6) (rt := (some .int)) (rm := { frames := 8, cells := 0, slots := 0, locals := 192 }) (av := [.ref p0, .int p1, .int p2, .int p3]) (by decide) (Nat.le_of_ble_eq_true rfl) ho ?_
  intro p e s m args below meth c ls A Q hQ X hT hl
  have hx := X.1.1
  have hb := X.1.2.1
  have hl : lv_has ls 6 [(0, .ref p0), (1, .int p1), (2, .int p2), (3, .int p3)] := hl
  have rp1 := rg_all p1
  have rp2 := rg_all p2
  have rp3 := rg_all p3
  obtain ⟨F, hFo⟩ : ∃ F : Nat → va_E, F = Fo := ⟨_, rfl⟩
  rw [← hFo] at hT pf0
  have hfr : (∀ b j : Nat, (tag b ≠ 46 ∨ j ≠ 0) → (tag b ≠ 46 ∨ j ≠ 1) → (tag b ≠ 46 ∨ j ≠ 2) → (tag b ≠ 46 ∨ j ≠ 22) → (tag b ≠ 46 ∨ j ≠ 23) → fld F b j = fld Fo b j) ∧ (∀ b j : Nat, tag b ≠ 37 → tag b ≠ 40 → elm F b j = elm Fo b j) := by
    rw [hFo]
    exact ⟨by intros; rfl, by intros; rfl⟩
  have K60 : ∀ (n : Nat) (z56820 : Int32) (z56821 : Int32) (z56822 : Int32) (F : Nat → va_E) (H : Heap) (locs : List Loc) (ls : Array Slot), (61 - z56821.toInt < (n : Int)) → (0 ≤ z56820.toInt ∧ z56820.toInt ≤ 0) → (0 ≤ z56821.toInt ∧ z56821.toInt ≤ 61) → (0 ≤ z56822.toInt ∧ z56822.toInt ≤ 0) → (0 ≤ p1.toInt ∧ p1.toInt ≤ 3) → (0 ≤ p2.toInt ∧ p2.toInt ≤ 3) → (0 ≤ p3.toInt ∧ p3.toInt ≤ 60) → TH G ttC A s tag L F H locs → ((∀ b j : Nat, (tag b ≠ 46 ∨ j ≠ 0) → (tag b ≠ 46 ∨ j ≠ 1) → (tag b ≠ 46 ∨ j ≠ 2) → (tag b ≠ 46 ∨ j ≠ 22) → (tag b ≠ 46 ∨ j ≠ 23) → fld F b j = fld Fo b j) ∧ (∀ b j : Nat, tag b ≠ 37 → tag b ≠ 40 → elm F b j = elm Fo b j)) → (fld F p0 3 = .ref x0) → (fld F p0 0 = .int z56822) → lv_has ls 6 [(0, .ref p0), (1, .int p1), (2, .int p2), (3, .int p3), (4, .int z56820), (5, .int z56821)] → W p l e { frames := 8, cells := 0, slots := 0, locals := 192 } s m args below meth c H locs 0 0 Q (F0 m 60 ls []) := by
    intro n
    induction n with
    | zero =>
      intro z56820 z56821 z56822 F H locs ls hn rz56820 rz56821 rz56822 r9s56817 r9s56818 r9s56819 hT hfr pf0 qz56822 hl
      exfalso
      omega
    | succ n ih60 =>
      intro z56820 z56821 z56822 F H locs ls hn rz56820 rz56821 rz56822 r9s56817 r9s56818 r9s56819 hT hfr pf0 qz56822 hl
      refine lv_iload hx hb dX13_meet_60 (lv_at hl 5 rfl) ?_
      refine lv_iload_n hx hb dX13_meet_62 rfl (lv_at hl 3 rfl) ?_
      refine lv_icmp_gt (tgt := 100) hx hb dX13_meet_63 (by decide) (fun c56823 => ?_) (fun c56823 => ?_)
      · have w56824 := cv_lt (rfl : p3.toInt = p3.toInt) (rfl : z56821.toInt = z56821.toInt) c56823
        refine lv_aload_n hx hb dX13_meet_100 rfl (lv_at hl 0 rfl) ?_
        refine lv_bipush (v := (-2)) hx hb dX13_meet_101 (by decide) ?_
        refine t_cVi (n := 1) (C := RX13) (T := TX13) (N := 37) (As := [.int (-2)]) (rest := []) X hT (km93_X13_good l G tag L F hT.2.2.2 p0 (-2) m0 g0) m0 g0 rfl rfl qw_687 qw_688 qw_689 qw_5 qw_690 ⟨rfl, by decide +kernel, by decide +kernel, by decide +kernel⟩ ⟨Nat.le_of_ble_eq_true rfl, Nat.le_of_ble_eq_true rfl⟩ hl rfl rfl (Nat.le_of_ble_eq_true rfl) dX13_meet_103 ⟨Nat.le_of_ble_eq_true rfl, Nat.le_of_ble_eq_true rfl⟩ (fun z56825 F H locs hT hz56825 => ?_)
        obtain ⟨hz56825, yz56825⟩ := hz56825
        have qz56822 := (yz56825.1 _ 0 (Or.inr (by decide)) (Or.inr (by decide))).trans qz56822
        have pf0 := (yz56825.1 _ 3 (Or.inr (by decide)) (Or.inr (by decide))).trans pf0
        have hfr : (∀ b j : Nat, (tag b ≠ 46 ∨ j ≠ 0) → (tag b ≠ 46 ∨ j ≠ 1) → (tag b ≠ 46 ∨ j ≠ 2) → (tag b ≠ 46 ∨ j ≠ 22) → (tag b ≠ 46 ∨ j ≠ 23) → fld F b j = fld Fo b j) ∧ (∀ b j : Nat, tag b ≠ 37 → tag b ≠ 40 → elm F b j = elm Fo b j) := ⟨fun b j n46_0 n46_1 n46_2 n46_22 n46_23 => (yz56825.1 b j n46_1 n46_2).trans (hfr.1 b j n46_0 n46_1 n46_2 n46_22 n46_23), fun b j a37 a40 => (yz56825.2 b j ).trans (hfr.2 b j a37 a40)⟩
        exact t_iret hQ X hT (⟨rg_all _, hfr⟩) (Nat.le_of_ble_eq_true rfl) (Nat.le_of_ble_eq_true rfl) dX13_meet_106
      · have w56826 := cv_nlt (rfl : p3.toInt = p3.toInt) (rfl : z56821.toInt = z56821.toInt) c56823
        refine lv_aload_n hx hb dX13_meet_66 rfl (lv_at hl 0 rfl) ?_
        refine lv_aload_n hx hb dX13_meet_67 rfl (lv_at hl 0 rfl) ?_
        refine t_get (C := RX13) (T := TX13) (N := 37) X hT m0 g0 rfl rfl 17 (by decide) qw_113 inlX13 rfl dX13_meet_68 (fun v56827 hv56827 ov56827 => ?_)
        obtain ⟨b56828, rfl, mb56828, gb56828⟩ := okV_r ov56827
        have gb56828 : tag b56828 = 37 := tg_of gb56828
        refine lv_iload_n hx hb dX13_meet_71 rfl (lv_at hl 1 rfl) ?_
        refine lv_iload_n hx hb dX13_meet_72 rfl (lv_at hl 2 rfl) ?_
        refine t_cVi (n := 3) (C := RX13) (T := TX13) (N := 37) (As := [.ref b56828, .int p1, .int p2]) (rest := []) X hT (km192_X13_doMeet l G tag L F hT.2.2.2 p0 b56828 p1 p2 x0 m0 g0 mb56828 gb56828 (by omega) (by omega) mx0 gx0 pf0) m0 g0 rfl rfl qw_1209 qw_1210 qw_1211 qw_5 qw_1212 ⟨rfl, by decide +kernel, by decide +kernel, by decide +kernel⟩ ⟨Nat.le_of_ble_eq_true rfl, Nat.le_of_ble_eq_true rfl⟩ hl rfl rfl (Nat.le_of_ble_eq_true rfl) dX13_meet_73 ⟨Nat.le_of_ble_eq_true rfl, Nat.le_of_ble_eq_true rfl⟩ (fun z56829 F9 H locs hT hz56829 => ?_)
        obtain ⟨fz56829, hz56829⟩ := hz56829
        rw [fz56829] at hT
        refine lv_if_eq (tgt := 86) hx hb dX13_meet_76 (by decide) (fun c56830 => ?_) (fun c56830 => ?_)
        · have w56831 := cv_eq (rfl : z56829.toInt = z56829.toInt) (by decide : (0 : Int32).toInt = 0) c56830
          refine lv_aload_n hx hb dX13_meet_86 rfl (lv_at hl 0 rfl) ?_
          refine lv_aload_n hx hb dX13_meet_87 rfl (lv_at hl 0 rfl) ?_
          refine t_get (C := RX13) (T := TX13) (N := 37) X hT m0 g0 rfl rfl 17 (by decide) qw_113 inlX13 rfl dX13_meet_88 (fun v56832 hv56832 ov56832 => ?_)
          obtain rfl : v56832 = .ref b56828 := hv56832.symm.trans hv56827
          refine t_cVv (n := 1) (C := RX13) (T := TX13) (N := 37) (As := [.ref b56828]) (rest := []) X hT (km181_X13_goesBy l G tag L F hT.2.2.2 p0 b56828 x0 m0 g0 mb56828 gb56828 mx0 gx0 pf0) m0 g0 rfl rfl qw_1160 qw_1161 qw_1162 qw_5 qw_1163 ⟨rfl, by decide +kernel, by decide +kernel, by decide +kernel⟩ ⟨Nat.le_of_ble_eq_true rfl, Nat.le_of_ble_eq_true rfl⟩ hl rfl rfl (Nat.le_of_ble_eq_true rfl) dX13_meet_91 ⟨Nat.le_of_ble_eq_true rfl, Nat.le_of_ble_eq_true rfl⟩ (fun F H locs hT hz56833 => ?_)
          have yz56833 := hz56833
          have qz56822 := (yz56833.1 _ 0 (Or.inr (by decide)) (Or.inr (by decide))).trans qz56822
          have pf0 := (yz56833.1 _ 3 (Or.inr (by decide)) (Or.inr (by decide))).trans pf0
          have hv56827 := (yz56833.1 _ 17 (Or.inr (by decide)) (Or.inr (by decide))).trans hv56827
          have hfr : (∀ b j : Nat, (tag b ≠ 46 ∨ j ≠ 0) → (tag b ≠ 46 ∨ j ≠ 1) → (tag b ≠ 46 ∨ j ≠ 2) → (tag b ≠ 46 ∨ j ≠ 22) → (tag b ≠ 46 ∨ j ≠ 23) → fld F b j = fld Fo b j) ∧ (∀ b j : Nat, tag b ≠ 37 → tag b ≠ 40 → elm F b j = elm Fo b j) := ⟨fun b j n46_0 n46_1 n46_2 n46_22 n46_23 => (yz56833.1 b j n46_22 n46_23).trans (hfr.1 b j n46_0 n46_1 n46_2 n46_22 n46_23), fun b j a37 a40 => (yz56833.2 b j a37).trans (hfr.2 b j a37 a40)⟩
          obtain ⟨z56834, ez56834⟩ : ∃ y : Int32, y = z56821 + 1 := ⟨_, rfl⟩
          have hz56834 : z56834.toInt = z56821.toInt + 1 := ar_add ez56834 rfl (by decide : (1 : Int32).toInt = 1) (by omega) (by omega)
          refine lv_iinc (v := z56834) (lv' := [(5, .int z56834), (0, .ref p0), (1, .int p1), (2, .int p2), (3, .int p3), (4, .int z56820)]) hx hb dX13_meet_94 hl (k := 5) rfl (by rw [ez56834]; rfl) (by decide) rfl (fun ls hl => ?_)
          refine lv_goto (tgt := 60) hx hb dX13_meet_97 (by decide) ?_
          exact ih60 z56820 z56834 z56822 _ _ _ _ (by omega) (by omega) (by omega) (by omega) (by omega) (by omega) (by omega) hT hfr pf0 qz56822 (lv_sub hl [1, 2, 3, 4, 5, 0] rfl)
        · have w56835 := cv_ne (rfl : z56829.toInt = z56829.toInt) (by decide : (0 : Int32).toInt = 0) c56830
          refine lv_aload_n hx hb dX13_meet_79 rfl (lv_at hl 0 rfl) ?_
          refine lv_iload hx hb dX13_meet_80 (lv_at hl 5 rfl) ?_
          refine t_cVi (n := 1) (C := RX13) (T := TX13) (N := 37) (As := [.int z56821]) (rest := []) X hT (km93_X13_good l G tag L F hT.2.2.2 p0 z56821 m0 g0) m0 g0 rfl rfl qw_687 qw_688 qw_689 qw_5 qw_690 ⟨rfl, by decide +kernel, by decide +kernel, by decide +kernel⟩ ⟨Nat.le_of_ble_eq_true rfl, Nat.le_of_ble_eq_true rfl⟩ hl rfl rfl (Nat.le_of_ble_eq_true rfl) dX13_meet_82 ⟨Nat.le_of_ble_eq_true rfl, Nat.le_of_ble_eq_true rfl⟩ (fun z56836 F H locs hT hz56836 => ?_)
          obtain ⟨hz56836, yz56836⟩ := hz56836
          have qz56822 := (yz56836.1 _ 0 (Or.inr (by decide)) (Or.inr (by decide))).trans qz56822
          have pf0 := (yz56836.1 _ 3 (Or.inr (by decide)) (Or.inr (by decide))).trans pf0
          have hv56827 := (yz56836.1 _ 17 (Or.inr (by decide)) (Or.inr (by decide))).trans hv56827
          have hfr : (∀ b j : Nat, (tag b ≠ 46 ∨ j ≠ 0) → (tag b ≠ 46 ∨ j ≠ 1) → (tag b ≠ 46 ∨ j ≠ 2) → (tag b ≠ 46 ∨ j ≠ 22) → (tag b ≠ 46 ∨ j ≠ 23) → fld F b j = fld Fo b j) ∧ (∀ b j : Nat, tag b ≠ 37 → tag b ≠ 40 → elm F b j = elm Fo b j) := ⟨fun b j n46_0 n46_1 n46_2 n46_22 n46_23 => (yz56836.1 b j n46_1 n46_2).trans (hfr.1 b j n46_0 n46_1 n46_2 n46_22 n46_23), fun b j a37 a40 => (yz56836.2 b j ).trans (hfr.2 b j a37 a40)⟩
          exact t_iret hQ X hT (⟨rg_all _, hfr⟩) (Nat.le_of_ble_eq_true rfl) (Nat.le_of_ble_eq_true rfl) dX13_meet_85
  refine lv_aload_n hx hb dX13_meet_0 rfl (lv_at hl 0 rfl) ?_
  refine lv_iconst (v := 0) hx hb dX13_meet_1 (by decide) ?_
  refine t_put (C := RX13) (T := TX13) (N := 37) (v := .int 0) X hT m0 g0 rfl tyX13 tyX13_ok nmX13 rfl 0 (by decide) qw_140 inlX13 rfl (by first | rfl | decide) (by first | rfl | decide) rfl (⟨_, rfl, (show (-2147483648) ≤ (0 : Int32).toInt from (by decide)), (show (0 : Int32).toInt ≤ 2147483647 from (by decide))⟩) dX13_meet_2 (fun F H locs hT v56837 h1v56837 h2v56837 => ?_)
  have pf0 := (h1v56837 _ _ (Or.inr (by decide))).trans pf0
  have hfr : (∀ b j : Nat, (tag b ≠ 46 ∨ j ≠ 0) → (tag b ≠ 46 ∨ j ≠ 1) → (tag b ≠ 46 ∨ j ≠ 2) → (tag b ≠ 46 ∨ j ≠ 22) → (tag b ≠ 46 ∨ j ≠ 23) → fld F b j = fld Fo b j) ∧ (∀ b j : Nat, tag b ≠ 37 → tag b ≠ 40 → elm F b j = elm Fo b j) := ⟨fun b j n46_0 n46_1 n46_2 n46_22 n46_23 => (h1v56837 b j (fr_ne g0 n46_0)).trans (hfr.1 b j n46_0 n46_1 n46_2 n46_22 n46_23), fun b j a37 a40 => (h2v56837 b j).trans (hfr.2 b j a37 a40)⟩
  refine lv_aload_n hx hb dX13_meet_5 rfl (lv_at hl 0 rfl) ?_
  refine lv_aload_n hx hb dX13_meet_6 rfl (lv_at hl 0 rfl) ?_
  refine lv_iload_n hx hb dX13_meet_7 rfl (lv_at hl 1 rfl) ?_
  refine t_cVi (n := 1) (C := RX13) (T := TX13) (N := 37) (As := [.int p1]) (rest := [.ref p0]) X hT (km107_X13_isHouse l G tag L F hT.2.2.2 p0 p1 x0 m0 g0 mx0 gx0 pf0) m0 g0 rfl rfl qw_796 qw_797 qw_798 qw_5 qw_799 ⟨rfl, by decide +kernel, by decide +kernel, by decide +kernel⟩ ⟨Nat.le_of_ble_eq_true rfl, Nat.le_of_ble_eq_true rfl⟩ hl rfl rfl (Nat.le_of_ble_eq_true rfl) dX13_meet_8 ⟨Nat.le_of_ble_eq_true rfl, Nat.le_of_ble_eq_true rfl⟩ (fun z56838 F9 H locs hT hz56838 => ?_)
  obtain ⟨fz56838, hz56838⟩ := hz56838
  rw [fz56838] at hT
  obtain ⟨hz56838, iz56838⟩ := hz56838
  refine lv_if_eq (tgt := 31) hx hb dX13_meet_11 (by decide) (fun c56839 => ?_) (fun c56839 => ?_)
  · have w56840 := cv_eq (rfl : z56838.toInt = z56838.toInt) (by decide : (0 : Int32).toInt = 0) c56839
    refine lv_iconst (v := 0) hx hb dX13_meet_31 (by decide) ?_
    refine lv_iload_n hx hb dX13_meet_32 rfl (lv_at hl 3 rfl) ?_
    refine lv_bipush (v := 60) hx hb dX13_meet_33 (by decide) ?_
    refine t_cVi (n := 3) (C := RX13) (T := TX13) (N := 37) (As := [.int 0, .int p3, .int 60]) (rest := []) X hT (km174_X13_refusesIn l G tag L F hT.2.2.2 p0 0 p3 60 x0 m0 g0 (by decide) mx0 gx0 pf0) m0 g0 rfl rfl qw_1144 qw_1145 qw_1146 qw_5 qw_1147 ⟨rfl, by decide +kernel, by decide +kernel, by decide +kernel⟩ ⟨Nat.le_of_ble_eq_true rfl, Nat.le_of_ble_eq_true rfl⟩ hl rfl rfl (Nat.le_of_ble_eq_true rfl) dX13_meet_35 ⟨Nat.le_of_ble_eq_true rfl, Nat.le_of_ble_eq_true rfl⟩ (fun z56841 F9 H locs hT hz56841 => ?_)
    obtain ⟨fz56841, hz56841, xz56841_0⟩ := hz56841
    rw [fz56841] at hT
    have k56842 : (0 : Int32).toInt = 0 := by decide
    have k56843 : (60 : Int32).toInt = 60 := by decide
    refine lv_istore (lv' := [(4, .int z56841), (0, .ref p0), (1, .int p1), (2, .int p2), (3, .int p3)]) hx hb dX13_meet_38 hl (by decide) rfl (fun ls hl => ?_)
    refine lv_iload hx hb dX13_meet_40 (lv_at hl 0 rfl) ?_
    refine lv_if_le (tgt := 52) hx hb dX13_meet_42 (by decide) (fun c56844 => ?_) (fun c56844 => ?_)
    · have w56845 := cv_le (rfl : z56841.toInt = z56841.toInt) (by decide : (0 : Int32).toInt = 0) c56844
      exfalso
      omega
    · have w56846 := cv_nle (rfl : z56841.toInt = z56841.toInt) (by decide : (0 : Int32).toInt = 0) c56844
      refine lv_aload_n hx hb dX13_meet_45 rfl (lv_at hl 1 rfl) ?_
      refine lv_iload hx hb dX13_meet_46 (lv_at hl 0 rfl) ?_
      refine t_cVi (n := 1) (C := RX13) (T := TX13) (N := 37) (As := [.int z56841]) (rest := []) X hT (km88_X13_refused l G tag L F hT.2.2.2 p0 z56841 m0 g0) m0 g0 rfl rfl qw_484 qw_485 qw_486 qw_5 qw_487 ⟨rfl, by decide +kernel, by decide +kernel, by decide +kernel⟩ ⟨Nat.le_of_ble_eq_true rfl, Nat.le_of_ble_eq_true rfl⟩ hl rfl rfl (Nat.le_of_ble_eq_true rfl) dX13_meet_48 ⟨Nat.le_of_ble_eq_true rfl, Nat.le_of_ble_eq_true rfl⟩ (fun z56847 F H locs hT hz56847 => ?_)
      obtain ⟨hz56847, yz56847⟩ := hz56847
      have pf0 := (yz56847.1 _ 3 (Or.inr (by decide)) (Or.inr (by decide))).trans pf0
      have v56837 := (yz56847.1 _ 0 (Or.inr (by decide)) (Or.inr (by decide))).trans v56837
      have hfr : (∀ b j : Nat, (tag b ≠ 46 ∨ j ≠ 0) → (tag b ≠ 46 ∨ j ≠ 1) → (tag b ≠ 46 ∨ j ≠ 2) → (tag b ≠ 46 ∨ j ≠ 22) → (tag b ≠ 46 ∨ j ≠ 23) → fld F b j = fld Fo b j) ∧ (∀ b j : Nat, tag b ≠ 37 → tag b ≠ 40 → elm F b j = elm Fo b j) := ⟨fun b j n46_0 n46_1 n46_2 n46_22 n46_23 => (yz56847.1 b j n46_1 n46_2).trans (hfr.1 b j n46_0 n46_1 n46_2 n46_22 n46_23), fun b j a37 a40 => (yz56847.2 b j ).trans (hfr.2 b j a37 a40)⟩
      exact t_iret hQ X hT (⟨rg_all _, hfr⟩) (Nat.le_of_ble_eq_true rfl) (Nat.le_of_ble_eq_true rfl) dX13_meet_51
  · have w56848 := cv_ne (rfl : z56838.toInt = z56838.toInt) (by decide : (0 : Int32).toInt = 0) c56839
    have w56849 := (fun h => (iz56838 h)) (by omega)
    refine lv_aload_n hx hb dX13_meet_14 rfl (lv_at hl 0 rfl) ?_
    refine lv_iload_n hx hb dX13_meet_15 rfl (lv_at hl 2 rfl) ?_
    refine t_cVi (n := 1) (C := RX13) (T := TX13) (N := 37) (As := [.int p2]) (rest := [.ref p0]) X hT (km107_X13_isHouse l G tag L F hT.2.2.2 p0 p2 x0 m0 g0 mx0 gx0 pf0) m0 g0 rfl rfl qw_796 qw_797 qw_798 qw_5 qw_799 ⟨rfl, by decide +kernel, by decide +kernel, by decide +kernel⟩ ⟨Nat.le_of_ble_eq_true rfl, Nat.le_of_ble_eq_true rfl⟩ hl rfl rfl (Nat.le_of_ble_eq_true rfl) dX13_meet_16 ⟨Nat.le_of_ble_eq_true rfl, Nat.le_of_ble_eq_true rfl⟩ (fun z56850 F9 H locs hT hz56850 => ?_)
    obtain ⟨fz56850, hz56850⟩ := hz56850
    rw [fz56850] at hT
    obtain ⟨hz56850, iz56850⟩ := hz56850
    refine lv_if_eq (tgt := 31) hx hb dX13_meet_19 (by decide) (fun c56851 => ?_) (fun c56851 => ?_)
    · have w56852 := cv_eq (rfl : z56850.toInt = z56850.toInt) (by decide : (0 : Int32).toInt = 0) c56851
      refine lv_iconst (v := 0) hx hb dX13_meet_31 (by decide) ?_
      refine lv_iload_n hx hb dX13_meet_32 rfl (lv_at hl 3 rfl) ?_
      refine lv_bipush (v := 60) hx hb dX13_meet_33 (by decide) ?_
      refine t_cVi (n := 3) (C := RX13) (T := TX13) (N := 37) (As := [.int 0, .int p3, .int 60]) (rest := []) X hT (km174_X13_refusesIn l G tag L F hT.2.2.2 p0 0 p3 60 x0 m0 g0 (by decide) mx0 gx0 pf0) m0 g0 rfl rfl qw_1144 qw_1145 qw_1146 qw_5 qw_1147 ⟨rfl, by decide +kernel, by decide +kernel, by decide +kernel⟩ ⟨Nat.le_of_ble_eq_true rfl, Nat.le_of_ble_eq_true rfl⟩ hl rfl rfl (Nat.le_of_ble_eq_true rfl) dX13_meet_35 ⟨Nat.le_of_ble_eq_true rfl, Nat.le_of_ble_eq_true rfl⟩ (fun z56853 F9 H locs hT hz56853 => ?_)
      obtain ⟨fz56853, hz56853, xz56853_0⟩ := hz56853
      rw [fz56853] at hT
      have k56854 : (0 : Int32).toInt = 0 := by decide
      have k56855 : (60 : Int32).toInt = 60 := by decide
      refine lv_istore (lv' := [(4, .int z56853), (0, .ref p0), (1, .int p1), (2, .int p2), (3, .int p3)]) hx hb dX13_meet_38 hl (by decide) rfl (fun ls hl => ?_)
      refine lv_iload hx hb dX13_meet_40 (lv_at hl 0 rfl) ?_
      refine lv_if_le (tgt := 52) hx hb dX13_meet_42 (by decide) (fun c56856 => ?_) (fun c56856 => ?_)
      · have w56857 := cv_le (rfl : z56853.toInt = z56853.toInt) (by decide : (0 : Int32).toInt = 0) c56856
        exfalso
        omega
      · have w56858 := cv_nle (rfl : z56853.toInt = z56853.toInt) (by decide : (0 : Int32).toInt = 0) c56856
        refine lv_aload_n hx hb dX13_meet_45 rfl (lv_at hl 1 rfl) ?_
        refine lv_iload hx hb dX13_meet_46 (lv_at hl 0 rfl) ?_
        refine t_cVi (n := 1) (C := RX13) (T := TX13) (N := 37) (As := [.int z56853]) (rest := []) X hT (km88_X13_refused l G tag L F hT.2.2.2 p0 z56853 m0 g0) m0 g0 rfl rfl qw_484 qw_485 qw_486 qw_5 qw_487 ⟨rfl, by decide +kernel, by decide +kernel, by decide +kernel⟩ ⟨Nat.le_of_ble_eq_true rfl, Nat.le_of_ble_eq_true rfl⟩ hl rfl rfl (Nat.le_of_ble_eq_true rfl) dX13_meet_48 ⟨Nat.le_of_ble_eq_true rfl, Nat.le_of_ble_eq_true rfl⟩ (fun z56859 F H locs hT hz56859 => ?_)
        obtain ⟨hz56859, yz56859⟩ := hz56859
        have pf0 := (yz56859.1 _ 3 (Or.inr (by decide)) (Or.inr (by decide))).trans pf0
        have v56837 := (yz56859.1 _ 0 (Or.inr (by decide)) (Or.inr (by decide))).trans v56837
        have hfr : (∀ b j : Nat, (tag b ≠ 46 ∨ j ≠ 0) → (tag b ≠ 46 ∨ j ≠ 1) → (tag b ≠ 46 ∨ j ≠ 2) → (tag b ≠ 46 ∨ j ≠ 22) → (tag b ≠ 46 ∨ j ≠ 23) → fld F b j = fld Fo b j) ∧ (∀ b j : Nat, tag b ≠ 37 → tag b ≠ 40 → elm F b j = elm Fo b j) := ⟨fun b j n46_0 n46_1 n46_2 n46_22 n46_23 => (yz56859.1 b j n46_1 n46_2).trans (hfr.1 b j n46_0 n46_1 n46_2 n46_22 n46_23), fun b j a37 a40 => (yz56859.2 b j ).trans (hfr.2 b j a37 a40)⟩
        exact t_iret hQ X hT (⟨rg_all _, hfr⟩) (Nat.le_of_ble_eq_true rfl) (Nat.le_of_ble_eq_true rfl) dX13_meet_51
    · have w56860 := cv_ne (rfl : z56850.toInt = z56850.toInt) (by decide : (0 : Int32).toInt = 0) c56851
      have w56861 := (fun h => (iz56850 h)) (by omega)
      refine lv_iload_n hx hb dX13_meet_22 rfl (lv_at hl 1 rfl) ?_
      refine lv_iload_n hx hb dX13_meet_23 rfl (lv_at hl 2 rfl) ?_
      refine lv_icmp_eq (tgt := 31) hx hb dX13_meet_24 (by decide) (fun c56862 => ?_) (fun c56862 => ?_)
      · have w56863 := cv_eq (rfl : p1.toInt = p1.toInt) (rfl : p2.toInt = p2.toInt) c56862
        refine lv_iconst (v := 0) hx hb dX13_meet_31 (by decide) ?_
        refine lv_iload_n hx hb dX13_meet_32 rfl (lv_at hl 3 rfl) ?_
        refine lv_bipush (v := 60) hx hb dX13_meet_33 (by decide) ?_
        refine t_cVi (n := 3) (C := RX13) (T := TX13) (N := 37) (As := [.int 0, .int p3, .int 60]) (rest := []) X hT (km174_X13_refusesIn l G tag L F hT.2.2.2 p0 0 p3 60 x0 m0 g0 (by decide) mx0 gx0 pf0) m0 g0 rfl rfl qw_1144 qw_1145 qw_1146 qw_5 qw_1147 ⟨rfl, by decide +kernel, by decide +kernel, by decide +kernel⟩ ⟨Nat.le_of_ble_eq_true rfl, Nat.le_of_ble_eq_true rfl⟩ hl rfl rfl (Nat.le_of_ble_eq_true rfl) dX13_meet_35 ⟨Nat.le_of_ble_eq_true rfl, Nat.le_of_ble_eq_true rfl⟩ (fun z56864 F9 H locs hT hz56864 => ?_)
        obtain ⟨fz56864, hz56864, xz56864_0⟩ := hz56864
        rw [fz56864] at hT
        have k56865 : (0 : Int32).toInt = 0 := by decide
        have k56866 : (60 : Int32).toInt = 60 := by decide
        refine lv_istore (lv' := [(4, .int z56864), (0, .ref p0), (1, .int p1), (2, .int p2), (3, .int p3)]) hx hb dX13_meet_38 hl (by decide) rfl (fun ls hl => ?_)
        refine lv_iload hx hb dX13_meet_40 (lv_at hl 0 rfl) ?_
        refine lv_if_le (tgt := 52) hx hb dX13_meet_42 (by decide) (fun c56867 => ?_) (fun c56867 => ?_)
        · have w56868 := cv_le (rfl : z56864.toInt = z56864.toInt) (by decide : (0 : Int32).toInt = 0) c56867
          exfalso
          omega
        · have w56869 := cv_nle (rfl : z56864.toInt = z56864.toInt) (by decide : (0 : Int32).toInt = 0) c56867
          refine lv_aload_n hx hb dX13_meet_45 rfl (lv_at hl 1 rfl) ?_
          refine lv_iload hx hb dX13_meet_46 (lv_at hl 0 rfl) ?_
          refine t_cVi (n := 1) (C := RX13) (T := TX13) (N := 37) (As := [.int z56864]) (rest := []) X hT (km88_X13_refused l G tag L F hT.2.2.2 p0 z56864 m0 g0) m0 g0 rfl rfl qw_484 qw_485 qw_486 qw_5 qw_487 ⟨rfl, by decide +kernel, by decide +kernel, by decide +kernel⟩ ⟨Nat.le_of_ble_eq_true rfl, Nat.le_of_ble_eq_true rfl⟩ hl rfl rfl (Nat.le_of_ble_eq_true rfl) dX13_meet_48 ⟨Nat.le_of_ble_eq_true rfl, Nat.le_of_ble_eq_true rfl⟩ (fun z56870 F H locs hT hz56870 => ?_)
          obtain ⟨hz56870, yz56870⟩ := hz56870
          have pf0 := (yz56870.1 _ 3 (Or.inr (by decide)) (Or.inr (by decide))).trans pf0
          have v56837 := (yz56870.1 _ 0 (Or.inr (by decide)) (Or.inr (by decide))).trans v56837
          have hfr : (∀ b j : Nat, (tag b ≠ 46 ∨ j ≠ 0) → (tag b ≠ 46 ∨ j ≠ 1) → (tag b ≠ 46 ∨ j ≠ 2) → (tag b ≠ 46 ∨ j ≠ 22) → (tag b ≠ 46 ∨ j ≠ 23) → fld F b j = fld Fo b j) ∧ (∀ b j : Nat, tag b ≠ 37 → tag b ≠ 40 → elm F b j = elm Fo b j) := ⟨fun b j n46_0 n46_1 n46_2 n46_22 n46_23 => (yz56870.1 b j n46_1 n46_2).trans (hfr.1 b j n46_0 n46_1 n46_2 n46_22 n46_23), fun b j a37 a40 => (yz56870.2 b j ).trans (hfr.2 b j a37 a40)⟩
          exact t_iret hQ X hT (⟨rg_all _, hfr⟩) (Nat.le_of_ble_eq_true rfl) (Nat.le_of_ble_eq_true rfl) dX13_meet_51
      · have w56871 := cv_ne (rfl : p1.toInt = p1.toInt) (rfl : p2.toInt = p2.toInt) c56862
        refine lv_iconst (v := 1) hx hb dX13_meet_27 (by decide) ?_
        refine lv_goto (tgt := 32) hx hb dX13_meet_28 (by decide) ?_
        refine lv_iload_n hx hb dX13_meet_32 rfl (lv_at hl 3 rfl) ?_
        refine lv_bipush (v := 60) hx hb dX13_meet_33 (by decide) ?_
        refine t_cVi (n := 3) (C := RX13) (T := TX13) (N := 37) (As := [.int 1, .int p3, .int 60]) (rest := []) X hT (km175_X13_refusesIn l G tag L F hT.2.2.2 p0 1 p3 60 x0 m0 g0 (by decide) mx0 gx0 pf0) m0 g0 rfl rfl qw_1144 qw_1145 qw_1146 qw_5 qw_1147 ⟨rfl, by decide +kernel, by decide +kernel, by decide +kernel⟩ ⟨Nat.le_of_ble_eq_true rfl, Nat.le_of_ble_eq_true rfl⟩ hl rfl rfl (Nat.le_of_ble_eq_true rfl) dX13_meet_35 ⟨Nat.le_of_ble_eq_true rfl, Nat.le_of_ble_eq_true rfl⟩ (fun z56872 F9 H locs hT hz56872 => ?_)
        obtain ⟨fz56872, hz56872, xz56872_0⟩ := hz56872
        rw [fz56872] at hT
        have k56873 : (1 : Int32).toInt = 1 := by decide
        have k56874 : (60 : Int32).toInt = 60 := by decide
        refine lv_istore (lv' := [(4, .int z56872), (0, .ref p0), (1, .int p1), (2, .int p2), (3, .int p3)]) hx hb dX13_meet_38 hl (by decide) rfl (fun ls hl => ?_)
        refine lv_iload hx hb dX13_meet_40 (lv_at hl 0 rfl) ?_
        refine lv_if_le (tgt := 52) hx hb dX13_meet_42 (by decide) (fun c56875 => ?_) (fun c56875 => ?_)
        · have w56876 := cv_le (rfl : z56872.toInt = z56872.toInt) (by decide : (0 : Int32).toInt = 0) c56875
          have w56877 := xz56872_0 (by omega)
          refine lv_aload_n hx hb dX13_meet_52 rfl (lv_at hl 1 rfl) ?_
          refine lv_iconst (v := 0) hx hb dX13_meet_53 (by decide) ?_
          refine t_cVv (n := 1) (C := RX13) (T := TX13) (N := 37) (As := [.int 0]) (rest := []) X hT (km182_X13_inYears l G tag L F hT.2.2.2 p0 0 x0 m0 g0 (by decide) mx0 gx0 pf0) m0 g0 rfl rfl qw_1148 qw_1149 qw_1150 qw_5 qw_1151 ⟨rfl, by decide +kernel, by decide +kernel, by decide +kernel⟩ ⟨Nat.le_of_ble_eq_true rfl, Nat.le_of_ble_eq_true rfl⟩ hl rfl rfl (Nat.le_of_ble_eq_true rfl) dX13_meet_54 ⟨Nat.le_of_ble_eq_true rfl, Nat.le_of_ble_eq_true rfl⟩ (fun F H locs hT hz56878 => ?_)
          have yz56878 := hz56878
          have pf0 := (yz56878.1 _ 3 (Or.inr (by decide)) (Or.inr (by decide))).trans pf0
          have v56837 := (yz56878.1 _ 0 (Or.inr (by decide)) (Or.inr (by decide))).trans v56837
          have hfr : (∀ b j : Nat, (tag b ≠ 46 ∨ j ≠ 0) → (tag b ≠ 46 ∨ j ≠ 1) → (tag b ≠ 46 ∨ j ≠ 2) → (tag b ≠ 46 ∨ j ≠ 22) → (tag b ≠ 46 ∨ j ≠ 23) → fld F b j = fld Fo b j) ∧ (∀ b j : Nat, tag b ≠ 37 → tag b ≠ 40 → elm F b j = elm Fo b j) := ⟨fun b j n46_0 n46_1 n46_2 n46_22 n46_23 => (yz56878.1 b j n46_22 n46_23).trans (hfr.1 b j n46_0 n46_1 n46_2 n46_22 n46_23), fun b j a37 a40 => (yz56878.2 b j a37 a40).trans (hfr.2 b j a37 a40)⟩
          refine lv_iconst (v := 0) hx hb dX13_meet_57 (by decide) ?_
          refine lv_istore (lv' := [(5, .int 0), (4, .int z56872), (0, .ref p0), (1, .int p1), (2, .int p2), (3, .int p3)]) hx hb dX13_meet_58 hl (by decide) rfl (fun ls hl => ?_)
          have k56879 : (0 : Int32).toInt = 0 := by decide
          have k56880 : (0 : Int32).toInt = 0 := by decide
          exact K60 62 z56872 0 0 _ _ _ _ (by omega) (by omega) (by decide) (by decide) (by omega) (by omega) (by omega) hT hfr pf0 v56837 (lv_sub hl [2, 3, 4, 5, 1, 0] rfl)
        · have w56881 := cv_nle (rfl : z56872.toInt = z56872.toInt) (by decide : (0 : Int32).toInt = 0) c56875
          refine lv_aload_n hx hb dX13_meet_45 rfl (lv_at hl 1 rfl) ?_
          refine lv_iload hx hb dX13_meet_46 (lv_at hl 0 rfl) ?_
          refine t_cVi (n := 1) (C := RX13) (T := TX13) (N := 37) (As := [.int z56872]) (rest := []) X hT (km88_X13_refused l G tag L F hT.2.2.2 p0 z56872 m0 g0) m0 g0 rfl rfl qw_484 qw_485 qw_486 qw_5 qw_487 ⟨rfl, by decide +kernel, by decide +kernel, by decide +kernel⟩ ⟨Nat.le_of_ble_eq_true rfl, Nat.le_of_ble_eq_true rfl⟩ hl rfl rfl (Nat.le_of_ble_eq_true rfl) dX13_meet_48 ⟨Nat.le_of_ble_eq_true rfl, Nat.le_of_ble_eq_true rfl⟩ (fun z56882 F H locs hT hz56882 => ?_)
          obtain ⟨hz56882, yz56882⟩ := hz56882
          have pf0 := (yz56882.1 _ 3 (Or.inr (by decide)) (Or.inr (by decide))).trans pf0
          have v56837 := (yz56882.1 _ 0 (Or.inr (by decide)) (Or.inr (by decide))).trans v56837
          have hfr : (∀ b j : Nat, (tag b ≠ 46 ∨ j ≠ 0) → (tag b ≠ 46 ∨ j ≠ 1) → (tag b ≠ 46 ∨ j ≠ 2) → (tag b ≠ 46 ∨ j ≠ 22) → (tag b ≠ 46 ∨ j ≠ 23) → fld F b j = fld Fo b j) ∧ (∀ b j : Nat, tag b ≠ 37 → tag b ≠ 40 → elm F b j = elm Fo b j) := ⟨fun b j n46_0 n46_1 n46_2 n46_22 n46_23 => (yz56882.1 b j n46_1 n46_2).trans (hfr.1 b j n46_0 n46_1 n46_2 n46_22 n46_23), fun b j a37 a40 => (yz56882.2 b j ).trans (hfr.2 b j a37 a40)⟩
          exact t_iret hQ X hT (⟨rg_all _, hfr⟩) (Nat.le_of_ble_eq_true rfl) (Nat.le_of_ble_eq_true rfl) dX13_meet_51
