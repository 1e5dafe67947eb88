set_option maxHeartbeats 4000000 in
set_option maxRecDepth 100000 in
theorem km131_X13_light (l : Launch) (G : KG) (tag : Nat → Nat) (L : List Nat) (Fo : Nat → va_E) (ho : okT G ttC tag L Fo) (p0 : Nat) (p1 : Int32) (p2 : Int32) (m0 : p0 ∈ L) (g0 : tag p0 = 46) (pf0 : fld Fo p0 3 = .null) : TMi l yX13_light cX13_light 4 (some .int) { frames := 2, cells := 0, slots := 0, locals := 43 } G ttC tag L Fo [.ref p0, .int p1, .int p2] (fun r F1 => ((-2147483648) ≤ r.toInt ∧ r.toInt ≤ 2147483647) ∧ ((∀ b j : Nat, (tag b ≠ 46 ∨ j ≠ 0) → (tag b ≠ 46 ∨ j ≠ 1) → (tag b ≠ 46 ∨ j ≠ 2) → fld F1 b j = fld Fo b j) ∧ (∀ b j : Nat, elm F1 b j = elm Fo b j))) := by
  refine t_bodyi (y := yX13_light) (cd := cX13_light) (mL := 4) (rt := (some .int)) (rm := { frames := 2, cells := 0, slots := 0, locals := 43 }) (av := [.ref p0, .int p1, .int p2]) (by decide) (Nat.le_of_ble_eq_true rfl) ho ?_
  intro p e s m args below meth c ls A Q hQ X hT hl
  have hx := X.1.1
  have hb := X.1.2.1
  have hl : lv_has ls 4 [(0, .ref p0), (1, .int p1), (2, .int p2)] := hl
  have rp1 := rg_all p1
  have rp2 := rg_all p2
  obtain ⟨F, hFo⟩ : ∃ F : Nat → va_E, F = Fo := ⟨_, rfl⟩
  rw [← hFo] at hT pf0
  have hfr : (∀ b j : Nat, (tag b ≠ 46 ∨ j ≠ 0) → (tag b ≠ 46 ∨ j ≠ 1) → (tag b ≠ 46 ∨ j ≠ 2) → fld F b j = fld Fo b j) ∧ (∀ b j : Nat, elm F b j = elm Fo b j) := by
    rw [hFo]
    exact ⟨by intros; rfl, by intros; rfl⟩
  refine lv_aload_n hx hb dX13_light_0 rfl (lv_at hl 0 rfl) ?_
  refine lv_iconst (v := 0) hx hb dX13_light_1 (by decide) ?_
  refine t_put (C := RX13) (T := TX13) (N := 37) (v := .int 0) X hT m0 g0 rfl tyX13 tyX13_ok nmX13 rfl 0 (by decide) qw_140 inlX13 rfl (by first | rfl | decide) (by first | rfl | decide) rfl (⟨_, rfl, (show (-2147483648) ≤ (0 : Int32).toInt from (by decide)), (show (0 : Int32).toInt ≤ 2147483647 from (by decide))⟩) dX13_light_2 (fun F H locs hT v36286 h1v36286 h2v36286 => ?_)
  have pf0 := (h1v36286 _ _ (Or.inr (by decide))).trans pf0
  have hfr : (∀ b j : Nat, (tag b ≠ 46 ∨ j ≠ 0) → (tag b ≠ 46 ∨ j ≠ 1) → (tag b ≠ 46 ∨ j ≠ 2) → fld F b j = fld Fo b j) ∧ (∀ b j : Nat, elm F b j = elm Fo b j) := ⟨fun b j n46_0 n46_1 n46_2 => (h1v36286 b j (fr_ne g0 n46_0)).trans (hfr.1 b j n46_0 n46_1 n46_2), fun b j  => (h2v36286 b j).trans (hfr.2 b j )⟩
  refine lv_aload_n hx hb dX13_light_5 rfl (lv_at hl 0 rfl) ?_
  refine lv_iload_n hx hb dX13_light_6 rfl (lv_at hl 1 rfl) ?_
  refine lv_iload_n hx hb dX13_light_7 rfl (lv_at hl 2 rfl) ?_
  refine t_cVi (n := 2) (C := RX13) (T := TX13) (N := 37) (As := [.int p1, .int p2]) (rest := []) X hT (km127_X13_isDepth l G tag L F hT.2.2.2 p0 p1 p2 m0 g0 pf0) m0 g0 rfl rfl qw_865 qw_866 qw_867 qw_5 qw_868 ⟨rfl, by decide +kernel, by decide +kernel, by decide +kernel⟩ ⟨Nat.le_of_ble_eq_true rfl, Nat.le_of_ble_eq_true rfl⟩ hl rfl rfl (Nat.le_of_ble_eq_true rfl) dX13_light_8 ⟨Nat.le_of_ble_eq_true rfl, Nat.le_of_ble_eq_true rfl⟩ (fun z36287 F9 H locs hT hz36287 => ?_)
  obtain ⟨fz36287, hz36287⟩ := hz36287
  rw [fz36287] at hT
  refine lv_if_ne (tgt := 20) hx hb dX13_light_11 (by decide) (fun c36288 => ?_) (fun c36288 => ?_)
  · have w36289 := cv_ne (rfl : z36287.toInt = z36287.toInt) (by decide : (0 : Int32).toInt = 0) c36288
    exfalso
    omega
  · have w36290 := cv_eq (rfl : z36287.toInt = z36287.toInt) (by decide : (0 : Int32).toInt = 0) c36288
    refine lv_aload_n hx hb dX13_light_14 rfl (lv_at hl 0 rfl) ?_
    refine lv_iconst (v := 1) hx hb dX13_light_15 (by decide) ?_
    refine t_cVi (n := 1) (C := RX13) (T := TX13) (N := 37) (As := [.int 1]) (rest := []) X hT (km88_X13_refused l G tag L F hT.2.2.2 p0 1 m0 g0) m0 g0 rfl rfl qw_484 qw_485 qw_486 qw_5 qw_487 ⟨rfl, by decide +kernel, by decide +kernel, by decide +kernel⟩ ⟨Nat.le_of_ble_eq_true rfl, Nat.le_of_ble_eq_true rfl⟩ hl rfl rfl (Nat.le_of_ble_eq_true rfl) dX13_light_16 ⟨Nat.le_of_ble_eq_true rfl, Nat.le_of_ble_eq_true rfl⟩ (fun z36291 F H locs hT hz36291 => ?_)
    obtain ⟨hz36291, yz36291⟩ := hz36291
    have pf0 := (yz36291.1 _ 3 (Or.inr (by decide)) (Or.inr (by decide))).trans pf0
    have v36286 := (yz36291.1 _ 0 (Or.inr (by decide)) (Or.inr (by decide))).trans v36286
    have hfr : (∀ b j : Nat, (tag b ≠ 46 ∨ j ≠ 0) → (tag b ≠ 46 ∨ j ≠ 1) → (tag b ≠ 46 ∨ j ≠ 2) → fld F b j = fld Fo b j) ∧ (∀ b j : Nat, elm F b j = elm Fo b j) := ⟨fun b j n46_0 n46_1 n46_2 => (yz36291.1 b j n46_1 n46_2).trans (hfr.1 b j n46_0 n46_1 n46_2), fun b j  => (yz36291.2 b j ).trans (hfr.2 b j )⟩
    exact t_iret hQ X hT (⟨rg_all _, hfr⟩) (Nat.le_of_ble_eq_true rfl) (Nat.le_of_ble_eq_true rfl) dX13_light_19
theorem kp_X13_light (l : Launch) (G : KG) (tag : Nat → Nat) (L : List Nat) (Fo : Nat → va_E) (ho : okT G ttC tag L Fo) (p0 : Nat) (p1 : Int32) (p2 : Int32) (m0 : p0 ∈ L) (g0 : tag p0 = 46) : TMi l yX13_light cX13_light 4 (some .int) { frames := 2, cells := 0, slots := 0, locals := 43 } G ttC tag L Fo [.ref p0, .int p1, .int p2] (fun r F1 => ((-2147483648) ≤ r.toInt ∧ r.toInt ≤ 2147483647) ∧ ((∀ b j : Nat, (tag b ≠ 46 ∨ j ≠ 0) → (tag b ≠ 46 ∨ j ≠ 1) → (tag b ≠ 46 ∨ j ≠ 2) → fld F1 b j = fld Fo b j) ∧ (∀ b j : Nat, elm F1 b j = elm Fo b j))) := by
  rcases t_fldn ho m0 g0 rfl 3 rfl with h9 | ⟨b9, h9, m9, t9⟩
  · exact km131_X13_light l G tag L Fo ho p0 p1 p2  m0 g0 h9 
  · exact km130_X13_light l G tag L Fo ho p0 p1 p2 b9  m0 g0 m9 (tg_of t9) h9 
set_option maxHeartbeats 4000000 in
set_option maxRecDepth 100000 in
theorem km133_X13_isHeir (l : Launch) (G : KG) (tag : Nat → Nat) (L : List Nat) (F : Nat → va_E) (ho : okT G ttC tag L F) (p0 : Nat) (p1 : Int32) (x0 : Nat) (m0 : p0 ∈ L) (g0 : tag p0 = 46) (mx0 : x0 ∈ L) (gx0 : tag x0 = 45) (pf0 : fld F p0 3 = .ref x0) : TMi l yX13_isHeir cX13_isHeir 2 (some .boolean) { frames := 0, cells := 0, slots := 0, locals := 0 } G ttC tag L F [.ref p0, .int p1] (fun r F1 => F1 = F ∧ ((0 ≤ r.toInt ∧ r.toInt ≤ 1) ∧ (r.toInt ≠ 0 → (0 ≤ p1.toInt ∧ p1.toInt ≤ 5)))) := by
  refine t_bodyi (y := yX13_isHeir) (cd := cX13_isHeir) (mL := 2) (rt := (some .boolean)) (rm := { frames := 0, cells := 0, slots := 0, locals := 0 }) (av := [.ref p0, .int p1]) (by decide) (Nat.le_of_ble_eq_true rfl) ho ?_
  intro p e s m args below meth c ls A Q hQ X hT hl
  have hx := X.1.1
  have hb := X.1.2.1
  have hl : lv_has ls 2 [(0, .ref p0), (1, .int p1)] := hl
  have rp1 := rg_all p1
  refine lv_aload_n hx hb dX13_isHeir_0 rfl (lv_at hl 0 rfl) ?_
  refine t_get (C := RX13) (T := TX13) (N := 37) X hT m0 g0 rfl rfl 3 (by decide) qw_481 inlX13 rfl dX13_isHeir_1 (fun v36403 hv36403 ov36403 => ?_)
  obtain rfl : v36403 = .ref x0 := hv36403.symm.trans pf0
  refine lv_ifnull hx hb dX13_isHeir_4 ?_
  refine lv_iload_n hx hb dX13_isHeir_7 rfl (lv_at hl 1 rfl) ?_
  refine lv_if_lt (tgt := 26) hx hb dX13_isHeir_8 (by decide) (fun c36404 => ?_) (fun c36404 => ?_)
  · have w36405 := cv_lt (rfl : p1.toInt = p1.toInt) (by decide : (0 : Int32).toInt = 0) c36404
    refine lv_iconst (v := 0) hx hb dX13_isHeir_26 (by decide) ?_
    have k36406 : (0 : Int32).toInt = 0 := by decide
    exact t_zret hQ X hT (by decide) (⟨rfl, ⟨(by decide), fun h => absurd (by decide) h⟩⟩) (Nat.le_of_ble_eq_true rfl) (Nat.le_of_ble_eq_true rfl) dX13_isHeir_27
  · have w36407 := cv_nlt (rfl : p1.toInt = p1.toInt) (by decide : (0 : Int32).toInt = 0) c36404
    refine lv_iload_n hx hb dX13_isHeir_11 rfl (lv_at hl 1 rfl) ?_
    refine lv_aload_n hx hb dX13_isHeir_12 rfl (lv_at hl 0 rfl) ?_
    refine t_get (C := RX13) (T := TX13) (N := 37) X hT m0 g0 rfl rfl 3 (by decide) qw_481 inlX13 rfl dX13_isHeir_13 (fun v36408 hv36408 ov36408 => ?_)
    obtain rfl : v36408 = .ref x0 := hv36408.symm.trans pf0
    refine t_getN (C := RX12) (T := TX12) (N := 31) X hT mx0 gx0 rfl rfl 9 (by decide) (List.mem_of_getElem? (i := 13) rfl) inlX12 rfl dX13_isHeir_16 (fun v36409 hv36409 ov36409 => ?_)
    obtain ⟨z36410, rfl, rz36410⟩ := okV_i ov36409
    refine lv_icmp_ge (tgt := 26) hx hb dX13_isHeir_19 (by decide) (fun c36411 => ?_) (fun c36411 => ?_)
    · have w36412 := cv_le (rfl : z36410.toInt = z36410.toInt) (rfl : p1.toInt = p1.toInt) c36411
      refine lv_iconst (v := 0) hx hb dX13_isHeir_26 (by decide) ?_
      have k36413 : (0 : Int32).toInt = 0 := by decide
      exact t_zret hQ X hT (by decide) (⟨rfl, ⟨(by decide), fun h => absurd (by decide) h⟩⟩) (Nat.le_of_ble_eq_true rfl) (Nat.le_of_ble_eq_true rfl) dX13_isHeir_27
    · have w36414 := cv_nle (rfl : z36410.toInt = z36410.toInt) (rfl : p1.toInt = p1.toInt) c36411
      refine lv_iconst (v := 1) hx hb dX13_isHeir_22 (by decide) ?_
      refine lv_goto (tgt := 27) hx hb dX13_isHeir_23 (by decide) ?_
      have k36415 : (1 : Int32).toInt = 1 := by decide
      exact t_zret hQ X hT (by decide) (⟨rfl, ⟨(by decide), fun _ => by omega⟩⟩) (Nat.le_of_ble_eq_true rfl) (Nat.le_of_ble_eq_true rfl) dX13_isHeir_27
set_option maxHeartbeats 4000000 in
set_option maxRecDepth 100000 in
theorem km134_X13_heir (l : Launch) (G : KG) (tag : Nat → Nat) (L : List Nat) (Fo : Nat → va_E) (ho : okT G ttC tag L Fo) (p0 : Nat) (p1 : Int32) (p2 : Int32) (x0 : Nat) (m0 : p0 ∈ L) (g0 : tag p0 = 46) (mx0 : x0 ∈ L) (gx0 : tag x0 = 45) (pf0 : fld Fo p0 3 = .ref x0) : TMi l yX13_heir cX13_heir 3 (some .int) { frames := 2, cells := 0, slots := 0, locals := 46 } G ttC tag L Fo [.ref p0, .int p1, .int p2] (fun r F1 => ((-2147483648) ≤ r.toInt ∧ r.toInt ≤ 2147483647) ∧ ((∀ b j : Nat, (tag b ≠ 46 ∨ j ≠ 0) → (tag b ≠ 46 ∨ j ≠ 1) → (tag b ≠ 46 ∨ j ≠ 2) → fld F1 b j = fld Fo b j) ∧ (∀ b j : Nat, elm F1 b j = elm Fo b j))) := by
  refine t_bodyi (y := yX13_heir) (cd := cX13_heir) (mL := 3) (rt := (some .int)) (rm := { frames := 2, cells := 0, slots := 0, locals := 46 }) (av := [.ref p0, .int p1, .int p2]) (by decide) (Nat.le_of_ble_eq_true rfl) ho ?_
  intro p e s m args below meth c ls A Q hQ X hT hl
  have hx := X.1.1
  have hb := X.1.2.1
  have hl : lv_has ls 3 [(0, .ref p0), (1, .int p1), (2, .int p2)] := hl
  have rp1 := rg_all p1
  have rp2 := rg_all p2
  obtain ⟨F, hFo⟩ : ∃ F : Nat → va_E, F = Fo := ⟨_, rfl⟩
  rw [← hFo] at hT pf0
  have hfr : (∀ b j : Nat, (tag b ≠ 46 ∨ j ≠ 0) → (tag b ≠ 46 ∨ j ≠ 1) → (tag b ≠ 46 ∨ j ≠ 2) → fld F b j = fld Fo b j) ∧ (∀ b j : Nat, elm F b j = elm Fo b j) := by
    rw [hFo]
    exact ⟨by intros; rfl, by intros; rfl⟩
  refine lv_aload_n hx hb dX13_heir_0 rfl (lv_at hl 0 rfl) ?_
  refine lv_iconst (v := 0) hx hb dX13_heir_1 (by decide) ?_
  refine t_put (C := RX13) (T := TX13) (N := 37) (v := .int 0) X hT m0 g0 rfl tyX13 tyX13_ok nmX13 rfl 0 (by decide) qw_140 inlX13 rfl (by first | rfl | decide) (by first | rfl | decide) rfl (⟨_, rfl, (show (-2147483648) ≤ (0 : Int32).toInt from (by decide)), (show (0 : Int32).toInt ≤ 2147483647 from (by decide))⟩) dX13_heir_2 (fun F H locs hT v36866 h1v36866 h2v36866 => ?_)
  have pf0 := (h1v36866 _ _ (Or.inr (by decide))).trans pf0
  have hfr : (∀ b j : Nat, (tag b ≠ 46 ∨ j ≠ 0) → (tag b ≠ 46 ∨ j ≠ 1) → (tag b ≠ 46 ∨ j ≠ 2) → fld F b j = fld Fo b j) ∧ (∀ b j : Nat, elm F b j = elm Fo b j) := ⟨fun b j n46_0 n46_1 n46_2 => (h1v36866 b j (fr_ne g0 n46_0)).trans (hfr.1 b j n46_0 n46_1 n46_2), fun b j  => (h2v36866 b j).trans (hfr.2 b j )⟩
  refine lv_aload_n hx hb dX13_heir_5 rfl (lv_at hl 0 rfl) ?_
  refine lv_iload_n hx hb dX13_heir_6 rfl (lv_at hl 1 rfl) ?_
  refine t_cVi (n := 1) (C := RX13) (T := TX13) (N := 37) (As := [.int p1]) (rest := []) X hT (km133_X13_isHeir l G tag L F hT.2.2.2 p0 p1 x0 m0 g0 mx0 gx0 pf0) m0 g0 rfl rfl qw_896 qw_897 qw_898 qw_5 qw_899 ⟨rfl, by decide +kernel, by decide +kernel, by decide +kernel⟩ ⟨Nat.le_of_ble_eq_true rfl, Nat.le_of_ble_eq_true rfl⟩ hl rfl rfl (Nat.le_of_ble_eq_true rfl) dX13_heir_7 ⟨Nat.le_of_ble_eq_true rfl, Nat.le_of_ble_eq_true rfl⟩ (fun z36867 F9 H locs hT hz36867 => ?_)
  obtain ⟨fz36867, hz36867⟩ := hz36867
  rw [fz36867] at hT
  obtain ⟨hz36867, iz36867⟩ := hz36867
  refine lv_if_eq (tgt := 22) hx hb dX13_heir_10 (by decide) (fun c36868 => ?_) (fun c36868 => ?_)
  · have w36869 := cv_eq (rfl : z36867.toInt = z36867.toInt) (by decide : (0 : Int32).toInt = 0) c36868
    refine lv_aload_n hx hb dX13_heir_22 rfl (lv_at hl 0 rfl) ?_
    refine lv_iconst (v := 1) hx hb dX13_heir_23 (by decide) ?_
    refine t_cVi (n := 1) (C := RX13) (T := TX13) (N := 37) (As := [.int 1]) (rest := []) X hT (km88_X13_refused l G tag L F hT.2.2.2 p0 1 m0 g0) m0 g0 rfl rfl qw_484 qw_485 qw_486 qw_5 qw_487 ⟨rfl, by decide +kernel, by decide +kernel, by decide +kernel⟩ ⟨Nat.le_of_ble_eq_true rfl, Nat.le_of_ble_eq_true rfl⟩ hl rfl rfl (Nat.le_of_ble_eq_true rfl) dX13_heir_24 ⟨Nat.le_of_ble_eq_true rfl, Nat.le_of_ble_eq_true rfl⟩ (fun z36870 F H locs hT hz36870 => ?_)
    obtain ⟨hz36870, yz36870⟩ := hz36870
    have pf0 := (yz36870.1 _ 3 (Or.inr (by decide)) (Or.inr (by decide))).trans pf0
    have v36866 := (yz36870.1 _ 0 (Or.inr (by decide)) (Or.inr (by decide))).trans v36866
    have hfr : (∀ b j : Nat, (tag b ≠ 46 ∨ j ≠ 0) → (tag b ≠ 46 ∨ j ≠ 1) → (tag b ≠ 46 ∨ j ≠ 2) → fld F b j = fld Fo b j) ∧ (∀ b j : Nat, elm F b j = elm Fo b j) := ⟨fun b j n46_0 n46_1 n46_2 => (yz36870.1 b j n46_1 n46_2).trans (hfr.1 b j n46_0 n46_1 n46_2), fun b j  => (yz36870.2 b j ).trans (hfr.2 b j )⟩
    exact t_iret hQ X hT (⟨rg_all _, hfr⟩) (Nat.le_of_ble_eq_true rfl) (Nat.le_of_ble_eq_true rfl) dX13_heir_27
  · have w36871 := cv_ne (rfl : z36867.toInt = z36867.toInt) (by decide : (0 : Int32).toInt = 0) c36868
    have w36872 := (fun h => (iz36867 h)) (by omega)
    refine lv_iload_n hx hb dX13_heir_13 rfl (lv_at hl 2 rfl) ?_
    refine lv_iconst (v := 0) hx hb dX13_heir_14 (by decide) ?_
    refine lv_iconst (v := 2) hx hb dX13_heir_15 (by decide) ?_
    refine t_cSi (n := 3) (As := [.int p2, .int 0, .int 2]) (rest := []) X hT (km19_X13_within l G tag L F hT.2.2.2 p2 0 2 ) qw_568 qw_569 qw_5 qw_570 ⟨by decide +kernel, by decide +kernel, by decide +kernel⟩ ⟨Nat.le_of_ble_eq_true rfl, Nat.le_of_ble_eq_true rfl⟩ hl rfl rfl (Nat.le_of_ble_eq_true rfl) dX13_heir_16 ⟨Nat.le_of_ble_eq_true rfl, Nat.le_of_ble_eq_true rfl⟩ (fun z36873 F9 H locs hT hz36873 => ?_)
    obtain ⟨fz36873, hz36873, xz36873_0⟩ := hz36873
    rw [fz36873] at hT
    have k36874 : (0 : Int32).toInt = 0 := by decide
    have k36875 : (2 : Int32).toInt = 2 := by decide
    refine lv_if_ne (tgt := 28) hx hb dX13_heir_19 (by decide) (fun c36876 => ?_) (fun c36876 => ?_)
    · have w36877 := cv_ne (rfl : z36873.toInt = z36873.toInt) (by decide : (0 : Int32).toInt = 0) c36876
      have w36878 := xz36873_0 (by omega)
      refine lv_aload_n hx hb dX13_heir_28 rfl (lv_at hl 0 rfl) ?_
      refine lv_iload_n hx hb dX13_heir_29 rfl (lv_at hl 2 rfl) ?_
      refine lv_if_ne (tgt := 45) hx hb dX13_heir_30 (by decide) (fun c36879 => ?_) (fun c36879 => ?_)
      · have w36880 := cv_ne (rfl : p2.toInt = p2.toInt) (by decide : (0 : Int32).toInt = 0) c36879
        refine lv_iload_n hx hb dX13_heir_45 rfl (lv_at hl 2 rfl) ?_
        refine lv_iconst (v := 1) hx hb dX13_heir_46 (by decide) ?_
        refine lv_icmp_ne (tgt := 63) hx hb dX13_heir_47 (by decide) (fun c36881 => ?_) (fun c36881 => ?_)
        · have w36882 := cv_ne (rfl : p2.toInt = p2.toInt) (by decide : (1 : Int32).toInt = 1) c36881
          refine lv_aload_n hx hb dX13_heir_63 rfl (lv_at hl 0 rfl) ?_
          refine lv_aload_n hx hb dX13_heir_64 rfl (lv_at hl 0 rfl) ?_
          refine t_get (C := RX13) (T := TX13) (N := 37) X hT m0 g0 rfl rfl 3 (by decide) qw_481 inlX13 rfl dX13_heir_65 (fun v36883 hv36883 ov36883 => ?_)
          obtain rfl : v36883 = .ref x0 := hv36883.symm.trans pf0
          refine t_getN (C := RX12) (T := TX12) (N := 31) X hT mx0 gx0 rfl rfl 23 (by decide) (List.mem_of_getElem? (i := 27) rfl) inlX12 rfl dX13_heir_68 (fun v36884 hv36884 ov36884 => ?_)
          obtain ⟨b36885, rfl, mb36885, gb36885⟩ := okV_r ov36884
          have gb36885 : tag b36885 = 32 := tg_of gb36885
          refine lv_iload_n hx hb dX13_heir_71 rfl (lv_at hl 1 rfl) ?_
          refine t_ild X hT mb36885 gb36885 rfl (by omega) dX13_heir_72 (fun z36886 vz36886 rz36886 => ?_)
          have rz36886 : 0 ≤ z36886.toInt ∧ z36886.toInt ≤ 3 := rz36886
          refine lv_aload_n hx hb dX13_heir_73 rfl (lv_at hl 0 rfl) ?_
          refine t_get (C := RX13) (T := TX13) (N := 37) X hT m0 g0 rfl rfl 16 (by decide) qw_112 inlX13 rfl dX13_heir_74 (fun v36887 hv36887 ov36887 => ?_)
          obtain ⟨b36888, rfl, mb36888, gb36888⟩ := okV_r ov36887
          have gb36888 : tag b36888 = 37 := tg_of gb36888
          refine lv_sipush (v := 204) hx hb dX13_heir_77 (by decide) ?_
          refine lv_iload_n hx hb dX13_heir_80 rfl (lv_at hl 1 rfl) ?_
          refine lv_iadd hx hb dX13_heir_81 ?_
          refine lv_topi (fun z36889 ez36889 => ?_)
          have hz36889 : z36889.toInt = 204 + p1.toInt := ar_add ez36889 (by decide : (204 : Int32).toInt = 204) (rfl : p1.toInt = p1.toInt) (by omega) (by omega)
          have rz36889 : 204 ≤ z36889.toInt ∧ z36889.toInt ≤ 209 := by omega
          refine t_ild X hT mb36888 gb36888 rfl (by omega) dX13_heir_82 (fun z36890 vz36890 rz36890 => ?_)
          have oz36890 := rz36890
          have rz36890 := rg_all z36890
          refine t_cVi (n := 2) (C := RX13) (T := TX13) (N := 37) (As := [.int z36886, .int z36890]) (rest := [.ref p0]) X hT (km125_X13_warmth l G tag L F hT.2.2.2 p0 z36886 z36890 x0 m0 g0 (by omega) mx0 gx0 pf0) m0 g0 rfl rfl qw_869 qw_870 qw_871 qw_5 qw_872 ⟨rfl, by decide +kernel, by decide +kernel, by decide +kernel⟩ ⟨Nat.le_of_ble_eq_true rfl, Nat.le_of_ble_eq_true rfl⟩ hl rfl rfl (Nat.le_of_ble_eq_true rfl) dX13_heir_83 ⟨Nat.le_of_ble_eq_true rfl, Nat.le_of_ble_eq_true rfl⟩ (fun z36891 F9 H locs hT hz36891 => ?_)
          obtain ⟨fz36891, hz36891⟩ := hz36891
          rw [fz36891] at hT
          refine t_cVi (n := 1) (C := RX13) (T := TX13) (N := 37) (As := [.int z36891]) (rest := []) X hT (km93_X13_good l G tag L F hT.2.2.2 p0 z36891 m0 g0) m0 g0 rfl rfl qw_687 qw_688 qw_689 qw_5 qw_690 ⟨rfl, by decide +kernel, by decide +kernel, by decide +kernel⟩ ⟨Nat.le_of_ble_eq_true rfl, Nat.le_of_ble_eq_true rfl⟩ hl rfl rfl (Nat.le_of_ble_eq_true rfl) dX13_heir_86 ⟨Nat.le_of_ble_eq_true rfl, Nat.le_of_ble_eq_true rfl⟩ (fun z36892 F H locs hT hz36892 => ?_)
          obtain ⟨hz36892, yz36892⟩ := hz36892
          have pf0 := (yz36892.1 _ 3 (Or.inr (by decide)) (Or.inr (by decide))).trans pf0
          have v36866 := (yz36892.1 _ 0 (Or.inr (by decide)) (Or.inr (by decide))).trans v36866
          have hv36884 := (yz36892.1 _ 23 (Or.inr (by decide)) (Or.inr (by decide))).trans hv36884
          have vz36886 := (yz36892.2 _ _ ).trans vz36886
          have hv36887 := (yz36892.1 _ 16 (Or.inr (by decide)) (Or.inr (by decide))).trans hv36887
          have vz36890 := (yz36892.2 _ _ ).trans vz36890
          have hfr : (∀ b j : Nat, (tag b ≠ 46 ∨ j ≠ 0) → (tag b ≠ 46 ∨ j ≠ 1) → (tag b ≠ 46 ∨ j ≠ 2) → fld F b j = fld Fo b j) ∧ (∀ b j : Nat, elm F b j = elm Fo b j) := ⟨fun b j n46_0 n46_1 n46_2 => (yz36892.1 b j n46_1 n46_2).trans (hfr.1 b j n46_0 n46_1 n46_2), fun b j  => (yz36892.2 b j ).trans (hfr.2 b j )⟩
          exact t_iret hQ X hT (⟨rg_all _, hfr⟩) (Nat.le_of_ble_eq_true rfl) (Nat.le_of_ble_eq_true rfl) dX13_heir_89
        · have w36893 := cv_eq (rfl : p2.toInt = p2.toInt) (by decide : (1 : Int32).toInt = 1) c36881
          refine lv_aload_n hx hb dX13_heir_50 rfl (lv_at hl 0 rfl) ?_
          refine t_get (C := RX13) (T := TX13) (N := 37) X hT m0 g0 rfl rfl 16 (by decide) qw_112 inlX13 rfl dX13_heir_51 (fun v36894 hv36894 ov36894 => ?_)
          obtain ⟨b36895, rfl, mb36895, gb36895⟩ := okV_r ov36894
          have gb36895 : tag b36895 = 37 := tg_of gb36895
          refine lv_sipush (v := 204) hx hb dX13_heir_54 (by decide) ?_
          refine lv_iload_n hx hb dX13_heir_57 rfl (lv_at hl 1 rfl) ?_
          refine lv_iadd hx hb dX13_heir_58 ?_
          refine lv_topi (fun z36896 ez36896 => ?_)
          have hz36896 : z36896.toInt = 204 + p1.toInt := ar_add ez36896 (by decide : (204 : Int32).toInt = 204) (rfl : p1.toInt = p1.toInt) (by omega) (by omega)
          have rz36896 : 204 ≤ z36896.toInt ∧ z36896.toInt ≤ 209 := by omega
          refine t_ild X hT mb36895 gb36895 rfl (by omega) dX13_heir_59 (fun z36897 vz36897 rz36897 => ?_)
          have oz36897 := rz36897
          have rz36897 := rg_all z36897
          refine lv_goto (tgt := 86) hx hb dX13_heir_60 (by decide) ?_
          refine t_cVi (n := 1) (C := RX13) (T := TX13) (N := 37) (As := [.int z36897]) (rest := []) X hT (km93_X13_good l G tag L F hT.2.2.2 p0 z36897 m0 g0) m0 g0 rfl rfl qw_687 qw_688 qw_689 qw_5 qw_690 ⟨rfl, by decide +kernel, by decide +kernel, by decide +kernel⟩ ⟨Nat.le_of_ble_eq_true rfl, Nat.le_of_ble_eq_true rfl⟩ hl rfl rfl (Nat.le_of_ble_eq_true rfl) dX13_heir_86 ⟨Nat.le_of_ble_eq_true rfl, Nat.le_of_ble_eq_true rfl⟩ (fun z36898 F H locs hT hz36898 => ?_)
          obtain ⟨hz36898, yz36898⟩ := hz36898
          have pf0 := (yz36898.1 _ 3 (Or.inr (by decide)) (Or.inr (by decide))).trans pf0
          have v36866 := (yz36898.1 _ 0 (Or.inr (by decide)) (Or.inr (by decide))).trans v36866
          have hv36894 := (yz36898.1 _ 16 (Or.inr (by decide)) (Or.inr (by decide))).trans hv36894
          have vz36897 := (yz36898.2 _ _ ).trans vz36897
          have hfr : (∀ b j : Nat, (tag b ≠ 46 ∨ j ≠ 0) → (tag b ≠ 46 ∨ j ≠ 1) → (tag b ≠ 46 ∨ j ≠ 2) → fld F b j = fld Fo b j) ∧ (∀ b j : Nat, elm F b j = elm Fo b j) := ⟨fun b j n46_0 n46_1 n46_2 => (yz36898.1 b j n46_1 n46_2).trans (hfr.1 b j n46_0 n46_1 n46_2), fun b j  => (yz36898.2 b j ).trans (hfr.2 b j )⟩
          exact t_iret hQ X hT (⟨rg_all _, hfr⟩) (Nat.le_of_ble_eq_true rfl) (Nat.le_of_ble_eq_true rfl) dX13_heir_89
      · have w36899 := cv_eq (rfl : p2.toInt = p2.toInt) (by decide : (0 : Int32).toInt = 0) c36879
        refine lv_aload_n hx hb dX13_heir_33 rfl (lv_at hl 0 rfl) ?_
        refine t_get (C := RX13) (T := TX13) (N := 37) X hT m0 g0 rfl rfl 3 (by decide) qw_481 inlX13 rfl dX13_heir_34 (fun v36900 hv36900 ov36900 => ?_)
        obtain rfl : v36900 = .ref x0 := hv36900.symm.trans pf0
        refine t_getN (C := RX12) (T := TX12) (N := 31) X hT mx0 gx0 rfl rfl 23 (by decide) (List.mem_of_getElem? (i := 27) rfl) inlX12 rfl dX13_heir_37 (fun v36901 hv36901 ov36901 => ?_)
        obtain ⟨b36902, rfl, mb36902, gb36902⟩ := okV_r ov36901
        have gb36902 : tag b36902 = 32 := tg_of gb36902
        refine lv_iload_n hx hb dX13_heir_40 rfl (lv_at hl 1 rfl) ?_
        refine t_ild X hT mb36902 gb36902 rfl (by omega) dX13_heir_41 (fun z36903 vz36903 rz36903 => ?_)
        have rz36903 : 0 ≤ z36903.toInt ∧ z36903.toInt ≤ 3 := rz36903
        refine lv_goto (tgt := 86) hx hb dX13_heir_42 (by decide) ?_
        refine t_cVi (n := 1) (C := RX13) (T := TX13) (N := 37) (As := [.int z36903]) (rest := []) X hT (km93_X13_good l G tag L F hT.2.2.2 p0 z36903 m0 g0) m0 g0 rfl rfl qw_687 qw_688 qw_689 qw_5 qw_690 ⟨rfl, by decide +kernel, by decide +kernel, by decide +kernel⟩ ⟨Nat.le_of_ble_eq_true rfl, Nat.le_of_ble_eq_true rfl⟩ hl rfl rfl (Nat.le_of_ble_eq_true rfl) dX13_heir_86 ⟨Nat.le_of_ble_eq_true rfl, Nat.le_of_ble_eq_true rfl⟩ (fun z36904 F H locs hT hz36904 => ?_)
        obtain ⟨hz36904, yz36904⟩ := hz36904
        have pf0 := (yz36904.1 _ 3 (Or.inr (by decide)) (Or.inr (by decide))).trans pf0
        have v36866 := (yz36904.1 _ 0 (Or.inr (by decide)) (Or.inr (by decide))).trans v36866
        have hv36901 := (yz36904.1 _ 23 (Or.inr (by decide)) (Or.inr (by decide))).trans hv36901
        have vz36903 := (yz36904.2 _ _ ).trans vz36903
        have hfr : (∀ b j : Nat, (tag b ≠ 46 ∨ j ≠ 0) → (tag b ≠ 46 ∨ j ≠ 1) → (tag b ≠ 46 ∨ j ≠ 2) → fld F b j = fld Fo b j) ∧ (∀ b j : Nat, elm F b j = elm Fo b j) := ⟨fun b j n46_0 n46_1 n46_2 => (yz36904.1 b j n46_1 n46_2).trans (hfr.1 b j n46_0 n46_1 n46_2), fun b j  => (yz36904.2 b j ).trans (hfr.2 b j )⟩
        exact t_iret hQ X hT (⟨rg_all _, hfr⟩) (Nat.le_of_ble_eq_true rfl) (Nat.le_of_ble_eq_true rfl) dX13_heir_89
    · have w36905 := cv_eq (rfl : z36873.toInt = z36873.toInt) (by decide : (0 : Int32).toInt = 0) c36876
      refine lv_aload_n hx hb dX13_heir_22 rfl (lv_at hl 0 rfl) ?_
      refine lv_iconst (v := 1) hx hb dX13_heir_23 (by decide) ?_
      refine t_cVi (n := 1) (C := RX13) (T := TX13) (N := 37) (As := [.int 1]) (rest := []) X hT (km88_X13_refused l G tag L F hT.2.2.2 p0 1 m0 g0) m0 g0 rfl rfl qw_484 qw_485 qw_486 qw_5 qw_487 ⟨rfl, by decide +kernel, by decide +kernel, by decide +kernel⟩ ⟨Nat.le_of_ble_eq_true rfl, Nat.le_of_ble_eq_true rfl⟩ hl rfl rfl (Nat.le_of_ble_eq_true rfl) dX13_heir_24 ⟨Nat.le_of_ble_eq_true rfl, Nat.le_of_ble_eq_true rfl⟩ (fun z36906 F H locs hT hz36906 => ?_)
      obtain ⟨hz36906, yz36906⟩ := hz36906
      have pf0 := (yz36906.1 _ 3 (Or.inr (by decide)) (Or.inr (by decide))).trans pf0
      have v36866 := (yz36906.1 _ 0 (Or.inr (by decide)) (Or.inr (by decide))).trans v36866
      have hfr : (∀ b j : Nat, (tag b ≠ 46 ∨ j ≠ 0) → (tag b ≠ 46 ∨ j ≠ 1) → (tag b ≠ 46 ∨ j ≠ 2) → fld F b j = fld Fo b j) ∧ (∀ b j : Nat, elm F b j = elm Fo b j) := ⟨fun b j n46_0 n46_1 n46_2 => (yz36906.1 b j n46_1 n46_2).trans (hfr.1 b j n46_0 n46_1 n46_2), fun b j  => (yz36906.2 b j ).trans (hfr.2 b j )⟩
      exact t_iret hQ X hT (⟨rg_all _, hfr⟩) (Nat.le_of_ble_eq_true rfl) (Nat.le_of_ble_eq_true rfl) dX13_heir_27
set_option maxHeartbeats 4000000 in
set_option maxRecDepth 100000 in
theorem km135_X13_isHeir (l : Launch) (G : KG) (tag : Nat → Nat) (L : List Nat) (F : Nat → va_E) (ho : okT G ttC tag L F) (p0 : Nat) (p1 : Int32) (m0 : p0 ∈ L) (g0 : tag p0 = 46) (pf0 : fld F p0 3 = .null) : TMi l yX13_isHeir cX13_isHeir 2 (some .boolean) { frames := 0, cells := 0, slots := 0, locals := 0 } G ttC tag L F [.ref p0, .int p1] (fun r F1 => F1 = F ∧ (0 ≤ r.toInt ∧ r.toInt ≤ 0)) := by
  refine t_bodyi (y := yX13_isHeir) (cd := cX13_isHeir) (mL := 2) (rt := (some .boolean)) (rm := { frames := 0, cells := 0, slots := 0, locals := 0 }) (av := [.ref p0, .int p1]) (by decide) (Nat.le_of_ble_eq_true rfl) ho ?_
  intro p e s m args below meth c ls A Q hQ X hT hl
  have hx := X.1.1
  have hb := X.1.2.1
  have hl : lv_has ls 2 [(0, .ref p0), (1, .int p1)] := hl
  have rp1 := rg_all p1
  refine lv_aload_n hx hb dX13_isHeir_0 rfl (lv_at hl 0 rfl) ?_
  refine t_get (C := RX13) (T := TX13) (N := 37) X hT m0 g0 rfl rfl 3 (by decide) qw_481 inlX13 rfl dX13_isHeir_1 (fun v36919 hv36919 ov36919 => ?_)
  obtain rfl : v36919 = .null := hv36919.symm.trans pf0
  refine lv_ifnullN (tgt := 26) hx hb dX13_isHeir_4 (by decide) ?_
  refine lv_iconst (v := 0) hx hb dX13_isHeir_26 (by decide) ?_
  have k36920 : (0 : Int32).toInt = 0 := by decide
  exact t_zret hQ X hT (by decide) (⟨rfl, (by decide)⟩) (Nat.le_of_ble_eq_true rfl) (Nat.le_of_ble_eq_true rfl) dX13_isHeir_27
set_option maxHeartbeats 4000000 in
set_option maxRecDepth 100000 in
theorem km136_X13_heir (l : Launch) (G : KG) (tag : Nat → Nat) (L : List Nat) (Fo : Nat → va_E) (ho : okT G ttC tag L Fo) (p0 : Nat) (p1 : Int32) (p2 : Int32) (m0 : p0 ∈ L) (g0 : tag p0 = 46) (pf0 : fld Fo p0 3 = .null) : TMi l yX13_heir cX13_heir 3 (some .int) { frames := 2, cells := 0, slots := 0, locals := 46 } G ttC tag L Fo [.ref p0, .int p1, .int p2] (fun r F1 => ((-2147483648) ≤ r.toInt ∧ r.toInt ≤ 2147483647) ∧ ((∀ b j : Nat, (tag b ≠ 46 ∨ j ≠ 0) → (tag b ≠ 46 ∨ j ≠ 1) → (tag b ≠ 46 ∨ j ≠ 2) → fld F1 b j = fld Fo b j) ∧ (∀ b j : Nat, elm F1 b j = elm Fo b j))) := by
  refine t_bodyi (y := yX13_heir) (cd := cX13_heir) (mL := 3) (rt := (some .int)) (rm := { frames := 2, cells := 0, slots := 0, locals := 46 }) (av := [.ref p0, .int p1, .int p2]) (by decide) (Nat.le_of_ble_eq_true rfl) ho ?_
  intro p e s m args below meth c ls A Q hQ X hT hl
  have hx := X.1.1
  have hb := X.1.2.1
  have hl : lv_has ls 3 [(0, .ref p0), (1, .int p1), (2, .int p2)] := hl
  have rp1 := rg_all p1
  have rp2 := rg_all p2
  obtain ⟨F, hFo⟩ : ∃ F : Nat → va_E, F = Fo := ⟨_, rfl⟩
  rw [← hFo] at hT pf0
  have hfr : (∀ b j : Nat, (tag b ≠ 46 ∨ j ≠ 0) → (tag b ≠ 46 ∨ j ≠ 1) → (tag b ≠ 46 ∨ j ≠ 2) → fld F b j = fld Fo b j) ∧ (∀ b j : Nat, elm F b j = elm Fo b j) := by
    rw [hFo]
    exact ⟨by intros; rfl, by intros; rfl⟩
  refine lv_aload_n hx hb dX13_heir_0 rfl (lv_at hl 0 rfl) ?_
  refine lv_iconst (v := 0) hx hb dX13_heir_1 (by decide) ?_
  refine t_put (C := RX13) (T := TX13) (N := 37) (v := .int 0) X hT m0 g0 rfl tyX13 tyX13_ok nmX13 rfl 0 (by decide) qw_140 inlX13 rfl (by first | rfl | decide) (by first | rfl | decide) rfl (⟨_, rfl, (show (-2147483648) ≤ (0 : Int32).toInt from (by decide)), (show (0 : Int32).toInt ≤ 2147483647 from (by decide))⟩) dX13_heir_2 (fun F H locs hT v36986 h1v36986 h2v36986 => ?_)
  have pf0 := (h1v36986 _ _ (Or.inr (by decide))).trans pf0
  have hfr : (∀ b j : Nat, (tag b ≠ 46 ∨ j ≠ 0) → (tag b ≠ 46 ∨ j ≠ 1) → (tag b ≠ 46 ∨ j ≠ 2) → fld F b j = fld Fo b j) ∧ (∀ b j : Nat, elm F b j = elm Fo b j) := ⟨fun b j n46_0 n46_1 n46_2 => (h1v36986 b j (fr_ne g0 n46_0)).trans (hfr.1 b j n46_0 n46_1 n46_2), fun b j  => (h2v36986 b j).trans (hfr.2 b j )⟩
  refine lv_aload_n hx hb dX13_heir_5 rfl (lv_at hl 0 rfl) ?_
  refine lv_iload_n hx hb dX13_heir_6 rfl (lv_at hl 1 rfl) ?_
  refine t_cVi (n := 1) (C := RX13) (T := TX13) (N := 37) (As := [.int p1]) (rest := []) X hT (km135_X13_isHeir l G tag L F hT.2.2.2 p0 p1 m0 g0 pf0) m0 g0 rfl rfl qw_896 qw_897 qw_898 qw_5 qw_899 ⟨rfl, by decide +kernel, by decide +kernel, by decide +kernel⟩ ⟨Nat.le_of_ble_eq_true rfl, Nat.le_of_ble_eq_true rfl⟩ hl rfl rfl (Nat.le_of_ble_eq_true rfl) dX13_heir_7 ⟨Nat.le_of_ble_eq_true rfl, Nat.le_of_ble_eq_true rfl⟩ (fun z36987 F9 H locs hT hz36987 => ?_)
  obtain ⟨fz36987, hz36987⟩ := hz36987
  rw [fz36987] at hT
  refine lv_if_eq (tgt := 22) hx hb dX13_heir_10 (by decide) (fun c36988 => ?_) (fun c36988 => ?_)
  · have w36989 := cv_eq (rfl : z36987.toInt = z36987.toInt) (by decide : (0 : Int32).toInt = 0) c36988
    refine lv_aload_n hx hb dX13_heir_22 rfl (lv_at hl 0 rfl) ?_
    refine lv_iconst (v := 1) hx hb dX13_heir_23 (by decide) ?_
    refine t_cVi (n := 1) (C := RX13) (T := TX13) (N := 37) (As := [.int 1]) (rest := []) X hT (km88_X13_refused l G tag L F hT.2.2.2 p0 1 m0 g0) m0 g0 rfl rfl qw_484 qw_485 qw_486 qw_5 qw_487 ⟨rfl, by decide +kernel, by decide +kernel, by decide +kernel⟩ ⟨Nat.le_of_ble_eq_true rfl, Nat.le_of_ble_eq_true rfl⟩ hl rfl rfl (Nat.le_of_ble_eq_true rfl) dX13_heir_24 ⟨Nat.le_of_ble_eq_true rfl, Nat.le_of_ble_eq_true rfl⟩ (fun z36990 F H locs hT hz36990 => ?_)
    obtain ⟨hz36990, yz36990⟩ := hz36990
    have pf0 := (yz36990.1 _ 3 (Or.inr (by decide)) (Or.inr (by decide))).trans pf0
    have v36986 := (yz36990.1 _ 0 (Or.inr (by decide)) (Or.inr (by decide))).trans v36986
    have hfr : (∀ b j : Nat, (tag b ≠ 46 ∨ j ≠ 0) → (tag b ≠ 46 ∨ j ≠ 1) → (tag b ≠ 46 ∨ j ≠ 2) → fld F b j = fld Fo b j) ∧ (∀ b j : Nat, elm F b j = elm Fo b j) := ⟨fun b j n46_0 n46_1 n46_2 => (yz36990.1 b j n46_1 n46_2).trans (hfr.1 b j n46_0 n46_1 n46_2), fun b j  => (yz36990.2 b j ).trans (hfr.2 b j )⟩
    exact t_iret hQ X hT (⟨rg_all _, hfr⟩) (Nat.le_of_ble_eq_true rfl) (Nat.le_of_ble_eq_true rfl) dX13_heir_27
  · have w36991 := cv_ne (rfl : z36987.toInt = z36987.toInt) (by decide : (0 : Int32).toInt = 0) c36988
    exfalso
    omega
theorem kp_X13_heir (l : Launch) (G : KG) (tag : Nat → Nat) (L : List Nat) (Fo : Nat → va_E) (ho : okT G ttC tag L Fo) (p0 : Nat) (p1 : Int32) (p2 : Int32) (m0 : p0 ∈ L) (g0 : tag p0 = 46) : TMi l yX13_heir cX13_heir 3 (some .int) { frames := 2, cells := 0, slots := 0, locals := 46 } G ttC tag L Fo [.ref p0, .int p1, .int p2] (fun r F1 => ((-2147483648) ≤ r.toInt ∧ r.toInt ≤ 2147483647) ∧ ((∀ b j : Nat, (tag b ≠ 46 ∨ j ≠ 0) → (tag b ≠ 46 ∨ j ≠ 1) → (tag b ≠ 46 ∨ j ≠ 2) → fld F1 b j = fld Fo b j) ∧ (∀ b j : Nat, elm F1 b j = elm Fo b j))) := by
  rcases t_fldn ho m0 g0 rfl 3 rfl with h9 | ⟨b9, h9, m9, t9⟩
  · exact km136_X13_heir l G tag L Fo ho p0 p1 p2  m0 g0 h9 
  · exact km134_X13_heir l G tag L Fo ho p0 p1 p2 b9  m0 g0 m9 (tg_of t9) h9 
set_option maxHeartbeats 4000000 in
set_option maxRecDepth 100000 in
theorem km138_X13_fitsIn (l : Launch) (G : KG) (tag : Nat → Nat) (L : List Nat) (F : Nat → va_E) (ho : okT G ttC tag L F) (p0 : Nat) (p1 : Nat) (p2 : Int32) (m0 : p0 ∈ L) (g0 : tag p0 = 45) (m1 : p1 ∈ L) (g1 : tag p1 = 37) (h2 : 0 ≤ p2.toInt ∧ p2.toInt ≤ 3) : TMi l yX13_fitsIn cX13_fitsIn 7 (some .boolean) { frames := 2, cells := 0, slots := 0, locals := 46 } G ttC tag L F [.ref p0, .ref p1, .int p2] (fun r F1 => F1 = F ∧ (0 ≤ r.toInt ∧ r.toInt ≤ 1)) := by
  refine t_bodyi (y := yX13_fitsIn) (cd := cX13_fitsIn) (mL := 7) (rt := (some .boolean)) (rm := { frames := 2, cells := 0, slots := 0, locals := 46 }) (av := [.ref p0, .ref p1, .int p2]) (by decide) (Nat.le_of_ble_eq_true rfl) ho ?_
  intro p e s m args below meth c ls A Q hQ X hT hl
  have hx := X.1.1
  have hb := X.1.2.1
  have hl : lv_has ls 7 [(0, .ref p0), (1, .ref p1), (2, .int p2)] := hl
  have K17 : ∀ (n : Nat) (z37992 : Int32) (z37993 : Int32) (z37994 : Int32) (H : Heap) (locs : List Loc) (ls : Array Slot), (193 - z37993.toInt < (n : Int)) → (1 ≤ z37992.toInt ∧ z37992.toInt ≤ 7) → ((-7) ≤ z37993.toInt ∧ z37993.toInt ≤ 193) → (0 ≤ z37994.toInt ∧ z37994.toInt ≤ 6) → TH G ttC A s tag L F H locs → (elm F p1 p2.toNatClampNeg = z37994) → lv_has ls 7 [(0, .ref p0), (1, .ref p1), (2, .int p2), (3, .int z37992), (4, .int z37993)] → W p l e { frames := 2, cells := 0, slots := 0, locals := 46 } s m args below meth c H locs 0 0 Q (F0 m 17 ls []) := by
    intro n
    induction n with
    | zero =>
      intro z37992 z37993 z37994 H locs ls hn rz37992 rz37993 rz37994 hT qz37994 hl
      exfalso
      omega
    | succ n ih17 =>
      intro z37992 z37993 z37994 H locs ls hn rz37992 rz37993 rz37994 hT qz37994 hl
      have K38 : ∀ (n : Nat) (z37996 : Int32) (z37997 : Int32) (H : Heap) (locs : List Loc) (ls : Array Slot), (20 - z37996.toInt < (n : Int)) → ((-7) ≤ z37996.toInt ∧ z37996.toInt ≤ 20) → (0 ≤ z37997.toInt ∧ z37997.toInt ≤ 6) → ((-7) ≤ z37993.toInt ∧ z37993.toInt ≤ 192) → TH G ttC A s tag L F H locs → (elm F p1 p2.toNatClampNeg = z37997) → lv_has ls 7 [(0, .ref p0), (1, .ref p1), (2, .int p2), (3, .int z37992), (4, .int z37993), (5, .int z37996)] → W p l e { frames := 2, cells := 0, slots := 0, locals := 46 } s m args below meth c H locs 0 0 Q (F0 m 38 ls []) := by
        intro n
        induction n with
        | zero =>
          intro z37996 z37997 H locs ls hn rz37996 rz37997 r9s37995 hT qz37997 hl
          exfalso
          omega
        | succ n ih38 =>
          intro z37996 z37997 H locs ls hn rz37996 rz37997 r9s37995 hT qz37997 hl
          have K162 : ∀ (z37999 : Int32) (H : Heap) (locs : List Loc) (ls : Array Slot), (0 ≤ z37999.toInt ∧ z37999.toInt ≤ 6) → ((-7) ≤ z37996.toInt ∧ z37996.toInt ≤ 19) → TH G ttC A s tag L F H locs → (elm F p1 p2.toNatClampNeg = z37999) → lv_has ls 7 [(0, .ref p0), (1, .ref p1), (2, .int p2), (3, .int z37992), (4, .int z37993), (5, .int z37996)] → W p l e { frames := 2, cells := 0, slots := 0, locals := 46 } s m args below meth c H locs 0 0 Q (F0 m 162 ls []) := by
            intro z37999 H locs ls rz37999 r9s37998 hT qz37999 hl
            obtain ⟨z38000, ez38000⟩ : ∃ y : Int32, y = z37996 + 1 := ⟨_, rfl⟩
            have hz38000 : z38000.toInt = z37996.toInt + 1 := ar_add ez38000 rfl (by decide : (1 : Int32).toInt = 1) (by omega) (by omega)
            refine lv_iinc (v := z38000) (lv' := [(5, .int z38000), (0, .ref p0), (1, .ref p1), (2, .int p2), (3, .int z37992), (4, .int z37993)]) hx hb dX13_fitsIn_162 hl (k := 5) rfl (by rw [ez38000]; rfl) (by decide) rfl (fun ls hl => ?_)
            refine lv_goto (tgt := 38) hx hb dX13_fitsIn_165 (by decide) ?_
            exact ih38 z38000 z37999 _ _ _ (by omega) (by omega) (by omega) (by omega) hT qz37999 (lv_sub hl [1, 2, 3, 4, 5, 0] rfl)
          have K82 : ∀ (n : Nat) (z38002 : Int32) (z38003 : Int32) (H : Heap) (locs : List Loc) (ls : Array Slot), (4 - z38002.toInt < (n : Int)) → (0 ≤ z38002.toInt ∧ z38002.toInt ≤ 4) → (0 ≤ z38003.toInt ∧ z38003.toInt ≤ 6) → ((-7) ≤ z37996.toInt ∧ z37996.toInt ≤ 19) → TH G ttC A s tag L F H locs → (elm F p1 p2.toNatClampNeg = z38003) → lv_has ls 7 [(0, .ref p0), (1, .ref p1), (2, .int p2), (3, .int z37992), (4, .int z37993), (5, .int z37996), (6, .int z38002)] → W p l e { frames := 2, cells := 0, slots := 0, locals := 46 } s m args below meth c H locs 0 0 Q (F0 m 82 ls []) := by
            intro n
            induction n with
            | zero =>
              intro z38002 z38003 H locs ls hn rz38002 rz38003 r9s38001 hT qz38003 hl
              exfalso
              omega
            | succ n ih82 =>
              intro z38002 z38003 H locs ls hn rz38002 rz38003 r9s38001 hT qz38003 hl
              have K156 : ∀ (z38005 : Int32) (z38006 : Int32) (H : Heap) (locs : List Loc) (ls : Array Slot), (0 ≤ z38005.toInt ∧ z38005.toInt ≤ 6) → (1 ≤ z38006.toInt ∧ z38006.toInt ≤ 4) → (0 ≤ z38002.toInt ∧ z38002.toInt ≤ 3) → TH G ttC A s tag L F H locs → (elm F p1 p2.toNatClampNeg = z38005) → (fld F p0 8 = .int z38006) → lv_has ls 7 [(0, .ref p0), (1, .ref p1), (2, .int p2), (3, .int z37992), (4, .int z37993), (5, .int z37996), (6, .int z38002)] → W p l e { frames := 2, cells := 0, slots := 0, locals := 46 } s m args below meth c H locs 0 0 Q (F0 m 156 ls []) := by
                intro z38005 z38006 H locs ls rz38005 rz38006 r9s38004 hT qz38005 qz38006 hl
                obtain ⟨z38007, ez38007⟩ : ∃ y : Int32, y = z38002 + 1 := ⟨_, rfl⟩
                have hz38007 : z38007.toInt = z38002.toInt + 1 := ar_add ez38007 rfl (by decide : (1 : Int32).toInt = 1) (by omega) (by omega)
                refine lv_iinc (v := z38007) (lv' := [(6, .int z38007), (0, .ref p0), (1, .ref p1), (2, .int p2), (3, .int z37992), (4, .int z37993), (5, .int z37996)]) hx hb dX13_fitsIn_156 hl (k := 6) rfl (by rw [ez38007]; rfl) (by decide) rfl (fun ls hl => ?_)
                refine lv_goto (tgt := 82) hx hb dX13_fitsIn_159 (by decide) ?_
                exact ih82 z38007 z38005 _ _ _ (by omega) (by omega) (by omega) (by omega) hT qz38005 (lv_sub hl [1, 2, 3, 4, 5, 6, 0] rfl)
              refine lv_iload hx hb dX13_fitsIn_82 (lv_at hl 6 rfl) ?_
              refine lv_aload_n hx hb dX13_fitsIn_84 rfl (lv_at hl 0 rfl) ?_
              refine t_getN (C := RX12) (T := TX12) (N := 31) X hT m0 g0 rfl rfl 8 (by decide) (List.mem_of_getElem? (i := 12) rfl) inlX12 rfl dX13_fitsIn_85 (fun v38008 hv38008 ov38008 => ?_)
              obtain ⟨z38009, rfl, rz38009⟩ := okV_i ov38008
              refine lv_icmp_ge (tgt := 162) hx hb dX13_fitsIn_88 (by decide) (fun c38010 => ?_) (fun c38010 => ?_)
              · have w38011 := cv_le (rfl : z38009.toInt = z38009.toInt) (rfl : z38002.toInt = z38002.toInt) c38010
                exact K162 z38003 _ _ _ (by omega) (by omega) hT qz38003 (lv_sub hl [0, 1, 2, 3, 4, 5] rfl)
              · have w38012 := cv_nle (rfl : z38009.toInt = z38009.toInt) (rfl : z38002.toInt = z38002.toInt) c38010
                refine lv_iload hx hb dX13_fitsIn_91 (lv_at hl 6 rfl) ?_
                refine lv_iload_n hx hb dX13_fitsIn_93 rfl (lv_at hl 2 rfl) ?_
                refine lv_icmp_eq (tgt := 156) hx hb dX13_fitsIn_94 (by decide) (fun c38013 => ?_) (fun c38013 => ?_)
                · have w38014 := cv_eq (rfl : z38002.toInt = z38002.toInt) (rfl : p2.toInt = p2.toInt) c38013
                  exact K156 z38003 z38009 _ _ _ (by omega) (by omega) (by omega) hT qz38003 hv38008 (lv_sub hl [0, 1, 2, 3, 4, 5, 6] rfl)
                · have w38015 := cv_ne (rfl : z38002.toInt = z38002.toInt) (rfl : p2.toInt = p2.toInt) c38013
                  refine lv_aload_n hx hb dX13_fitsIn_97 rfl (lv_at hl 0 rfl) ?_
                  refine lv_iload hx hb dX13_fitsIn_98 (lv_at hl 6 rfl) ?_
                  refine lv_iload hx hb dX13_fitsIn_100 (lv_at hl 5 rfl) ?_
                  refine lv_iload hx hb dX13_fitsIn_102 (lv_at hl 4 rfl) ?_
                  refine t_cVi (n := 3) (C := RX12) (T := TX12) (N := 31) (As := [.int z38002, .int z37996, .int z37993]) (rest := []) X hT (km91_X12_far l G tag L F hT.2.2.2 p0 z38002 z37996 z37993 m0 g0 (by omega)) m0 g0 rfl rfl qw_619 qw_620 qw_621 qw_476 qw_622 ⟨rfl, by decide +kernel, by decide +kernel, by decide +kernel⟩ ⟨Nat.le_of_ble_eq_true rfl, Nat.le_of_ble_eq_true rfl⟩ hl rfl rfl (Nat.le_of_ble_eq_true rfl) dX13_fitsIn_104 ⟨Nat.le_of_ble_eq_true rfl, Nat.le_of_ble_eq_true rfl⟩ (fun z38016 F9 H locs hT hz38016 => ?_)
                  obtain ⟨fz38016, hz38016⟩ := hz38016
                  rw [fz38016] at hT
                  refine lv_aload_n hx hb dX13_fitsIn_107 rfl (lv_at hl 1 rfl) ?_
                  refine lv_iconst (v := 0) hx hb dX13_fitsIn_108 (by decide) ?_
                  refine lv_iload hx hb dX13_fitsIn_109 (lv_at hl 6 rfl) ?_
                  refine lv_iadd hx hb dX13_fitsIn_111 ?_
                  refine lv_topi (fun z38017 ez38017 => ?_)
                  obtain rfl : z38002 = z38017 := (ar_zadd ez38017).symm
                  refine t_ild X hT m1 g1 rfl (by omega) dX13_fitsIn_112 (fun z38018 vz38018 rz38018 => ?_)
                  have rz38018 := row_ml (by omega) rz38018
                  refine lv_icmp_le (tgt := 119) hx hb dX13_fitsIn_113 (by decide) (fun c38019 => ?_) (fun c38019 => ?_)
                  · have w38020 := cv_le (rfl : z38016.toInt = z38016.toInt) (rfl : z38018.toInt = z38018.toInt) c38019
                    refine lv_aload_n hx hb dX13_fitsIn_119 rfl (lv_at hl 0 rfl) ?_
                    refine t_getN (C := RX12) (T := TX12) (N := 31) X hT m0 g0 rfl rfl 14 (by decide) (List.mem_of_getElem? (i := 18) rfl) inlX12 rfl dX13_fitsIn_120 (fun v38021 hv38021 ov38021 => ?_)
                    obtain ⟨z38022, rfl, rz38022⟩ := okV_i ov38021
                    refine lv_if_eq (tgt := 154) hx hb dX13_fitsIn_123 (by decide) (fun c38023 => ?_) (fun c38023 => ?_)
                    · have w38024 := cv_eq (rfl : z38022.toInt = z38022.toInt) (by decide : (0 : Int32).toInt = 0) c38023
                      refine lv_iconst (v := 0) hx hb dX13_fitsIn_154 (by decide) ?_
                      have k38025 : (0 : Int32).toInt = 0 := by decide
                      exact t_zret hQ X hT (by decide) (⟨rfl, (by decide)⟩) (Nat.le_of_ble_eq_true rfl) (Nat.le_of_ble_eq_true rfl) dX13_fitsIn_155
                    · have w38026 := cv_ne (rfl : z38022.toInt = z38022.toInt) (by decide : (0 : Int32).toInt = 0) c38023
                      refine lv_aload_n hx hb dX13_fitsIn_126 rfl (lv_at hl 1 rfl) ?_
                      refine lv_iconst (v := 0) hx hb dX13_fitsIn_127 (by decide) ?_
                      refine lv_iload hx hb dX13_fitsIn_128 (lv_at hl 6 rfl) ?_
                      refine lv_iadd hx hb dX13_fitsIn_130 ?_
                      refine lv_topi (fun z38027 ez38027 => ?_)
                      obtain rfl : z38002 = z38027 := (ar_zadd ez38027).symm
                      refine t_ild X hT m1 g1 rfl (by omega) dX13_fitsIn_131 (fun z38028 vz38028 rz38028 => ?_)
                      obtain rfl : z38018 = z38028 := vz38018.symm.trans vz38028
                      refine lv_if_eq (tgt := 154) hx hb dX13_fitsIn_132 (by decide) (fun c38029 => ?_) (fun c38029 => ?_)
                      · have w38030 := cv_eq (rfl : z38018.toInt = z38018.toInt) (by decide : (0 : Int32).toInt = 0) c38029
                        refine lv_iconst (v := 0) hx hb dX13_fitsIn_154 (by decide) ?_
                        have k38031 : (0 : Int32).toInt = 0 := by decide
                        exact t_zret hQ X hT (by decide) (⟨rfl, (by decide)⟩) (Nat.le_of_ble_eq_true rfl) (Nat.le_of_ble_eq_true rfl) dX13_fitsIn_155
                      · have w38032 := cv_ne (rfl : z38018.toInt = z38018.toInt) (by decide : (0 : Int32).toInt = 0) c38029
                        refine lv_aload_n hx hb dX13_fitsIn_135 rfl (lv_at hl 0 rfl) ?_
                        refine lv_iload hx hb dX13_fitsIn_136 (lv_at hl 6 rfl) ?_
                        refine lv_iload hx hb dX13_fitsIn_138 (lv_at hl 5 rfl) ?_
                        refine lv_iload hx hb dX13_fitsIn_140 (lv_at hl 4 rfl) ?_
                        refine t_cVi (n := 3) (C := RX12) (T := TX12) (N := 31) (As := [.int z38002, .int z37996, .int z37993]) (rest := []) X hT (km91_X12_far l G tag L F hT.2.2.2 p0 z38002 z37996 z37993 m0 g0 (by omega)) m0 g0 rfl rfl qw_619 qw_620 qw_621 qw_476 qw_622 ⟨rfl, by decide +kernel, by decide +kernel, by decide +kernel⟩ ⟨Nat.le_of_ble_eq_true rfl, Nat.le_of_ble_eq_true rfl⟩ hl rfl rfl (Nat.le_of_ble_eq_true rfl) dX13_fitsIn_142 ⟨Nat.le_of_ble_eq_true rfl, Nat.le_of_ble_eq_true rfl⟩ (fun z38033 F9 H locs hT hz38033 => ?_)
                        obtain ⟨fz38033, hz38033⟩ := hz38033
                        rw [fz38033] at hT
                        refine lv_aload_n hx hb dX13_fitsIn_145 rfl (lv_at hl 1 rfl) ?_
                        refine lv_iconst (v := 0) hx hb dX13_fitsIn_146 (by decide) ?_
                        refine lv_iload hx hb dX13_fitsIn_147 (lv_at hl 6 rfl) ?_
                        refine lv_iadd hx hb dX13_fitsIn_149 ?_
                        refine lv_topi (fun z38034 ez38034 => ?_)
                        obtain rfl : z38002 = z38034 := (ar_zadd ez38034).symm
                        refine t_ild X hT m1 g1 rfl (by omega) dX13_fitsIn_150 (fun z38035 vz38035 rz38035 => ?_)
                        obtain rfl : z38018 = z38035 := vz38018.symm.trans vz38035
                        refine lv_icmp_ge (tgt := 156) hx hb dX13_fitsIn_151 (by decide) (fun c38036 => ?_) (fun c38036 => ?_)
                        · have w38037 := cv_le (rfl : z38018.toInt = z38018.toInt) (rfl : z38033.toInt = z38033.toInt) c38036
                          exact K156 z38003 z38009 _ _ _ (by omega) (by omega) (by omega) hT qz38003 hv38008 (lv_sub hl [0, 1, 2, 3, 4, 5, 6] rfl)
                        · have w38038 := cv_nle (rfl : z38018.toInt = z38018.toInt) (rfl : z38033.toInt = z38033.toInt) c38036
                          refine lv_iconst (v := 0) hx hb dX13_fitsIn_154 (by decide) ?_
                          have k38039 : (0 : Int32).toInt = 0 := by decide
                          exact t_zret hQ X hT (by decide) (⟨rfl, (by decide)⟩) (Nat.le_of_ble_eq_true rfl) (Nat.le_of_ble_eq_true rfl) dX13_fitsIn_155
                  · have w38040 := cv_nle (rfl : z38016.toInt = z38016.toInt) (rfl : z38018.toInt = z38018.toInt) c38019
                    refine lv_goto (tgt := 156) hx hb dX13_fitsIn_116 (by decide) ?_
                    exact K156 z38003 z38009 _ _ _ (by omega) (by omega) (by omega) hT qz38003 hv38008 (lv_sub hl [0, 1, 2, 3, 4, 5, 6] rfl)
          refine lv_iload hx hb dX13_fitsIn_38 (lv_at hl 5 rfl) ?_
          refine lv_aload_n hx hb dX13_fitsIn_40 rfl (lv_at hl 0 rfl) ?_
          refine lv_iload_n hx hb dX13_fitsIn_41 rfl (lv_at hl 2 rfl) ?_
          refine t_cVi (n := 1) (C := RX12) (T := TX12) (N := 31) (As := [.int p2]) (rest := [.int z37996]) X hT (km89_X12_x l G tag L F hT.2.2.2 p0 p2 m0 g0 (by omega)) m0 g0 rfl rfl qw_648 qw_624 qw_625 qw_476 qw_626 ⟨rfl, by decide +kernel, by decide +kernel, by decide +kernel⟩ ⟨Nat.le_of_ble_eq_true rfl, Nat.le_of_ble_eq_true rfl⟩ hl rfl rfl (Nat.le_of_ble_eq_true rfl) dX13_fitsIn_42 ⟨Nat.le_of_ble_eq_true rfl, Nat.le_of_ble_eq_true rfl⟩ (fun z38041 F9 H locs hT hz38041 => ?_)
          obtain ⟨fz38041, hz38041⟩ := hz38041
          rw [fz38041] at hT
          refine lv_iload_n hx hb dX13_fitsIn_45 rfl (lv_at hl 3 rfl) ?_
          refine lv_iadd hx hb dX13_fitsIn_46 ?_
          refine lv_topi (fun z38042 ez38042 => ?_)
          have hz38042 : z38042.toInt = z38041.toInt + z37992.toInt := ar_add ez38042 (rfl : z38041.toInt = z38041.toInt) (rfl : z37992.toInt = z37992.toInt) (by omega) (by omega)
          have rz38042 : 1 ≤ z38042.toInt ∧ z38042.toInt ≤ 18 := by omega
          refine lv_icmp_gt (tgt := 168) hx hb dX13_fitsIn_47 (by decide) (fun c38043 => ?_) (fun c38043 => ?_)
          · have w38044 := cv_lt (rfl : z38042.toInt = z38042.toInt) (rfl : z37996.toInt = z37996.toInt) c38043
            obtain ⟨z38045, ez38045⟩ : ∃ y : Int32, y = z37993 + 1 := ⟨_, rfl⟩
            have hz38045 : z38045.toInt = z37993.toInt + 1 := ar_add ez38045 rfl (by decide : (1 : Int32).toInt = 1) (by omega) (by omega)
            refine lv_iinc (v := z38045) (lv' := [(4, .int z38045), (0, .ref p0), (1, .ref p1), (2, .int p2), (3, .int z37992), (5, .int z37996)]) hx hb dX13_fitsIn_168 hl (k := 4) rfl (by rw [ez38045]; rfl) (by decide) rfl (fun ls hl => ?_)
            refine lv_goto (tgt := 17) hx hb dX13_fitsIn_171 (by decide) ?_
            exact ih17 z37992 z38045 z37997 _ _ _ (by omega) (by omega) (by omega) (by omega) hT qz37997 (lv_sub hl [1, 2, 3, 4, 0] rfl)
          · have w38046 := cv_nlt (rfl : z38042.toInt = z38042.toInt) (rfl : z37996.toInt = z37996.toInt) c38043
            refine lv_aload_n hx hb dX13_fitsIn_50 rfl (lv_at hl 0 rfl) ?_
            refine lv_iload_n hx hb dX13_fitsIn_51 rfl (lv_at hl 2 rfl) ?_
            refine lv_iload hx hb dX13_fitsIn_52 (lv_at hl 5 rfl) ?_
            refine lv_iload hx hb dX13_fitsIn_54 (lv_at hl 4 rfl) ?_
            refine t_cVi (n := 3) (C := RX12) (T := TX12) (N := 31) (As := [.int p2, .int z37996, .int z37993]) (rest := []) X hT (km91_X12_far l G tag L F hT.2.2.2 p0 p2 z37996 z37993 m0 g0 (by omega)) m0 g0 rfl rfl qw_619 qw_620 qw_621 qw_476 qw_622 ⟨rfl, by decide +kernel, by decide +kernel, by decide +kernel⟩ ⟨Nat.le_of_ble_eq_true rfl, Nat.le_of_ble_eq_true rfl⟩ hl rfl rfl (Nat.le_of_ble_eq_true rfl) dX13_fitsIn_56 ⟨Nat.le_of_ble_eq_true rfl, Nat.le_of_ble_eq_true rfl⟩ (fun z38047 F9 H locs hT hz38047 => ?_)
            obtain ⟨fz38047, hz38047⟩ := hz38047
            rw [fz38047] at hT
            refine lv_iload_n hx hb dX13_fitsIn_59 rfl (lv_at hl 3 rfl) ?_
            refine lv_icmp_eq (tgt := 66) hx hb dX13_fitsIn_60 (by decide) (fun c38048 => ?_) (fun c38048 => ?_)
            · have w38049 := cv_eq (rfl : z38047.toInt = z38047.toInt) (rfl : z37992.toInt = z37992.toInt) c38048
              refine lv_aload_n hx hb dX13_fitsIn_66 rfl (lv_at hl 0 rfl) ?_
              refine lv_iload hx hb dX13_fitsIn_67 (lv_at hl 5 rfl) ?_
              refine lv_iload hx hb dX13_fitsIn_69 (lv_at hl 4 rfl) ?_
              refine t_cVi (n := 2) (C := RX12) (T := TX12) (N := 31) (As := [.int z37996, .int z37993]) (rest := []) X hT (km112_X12_isLand l G tag L F hT.2.2.2 p0 z37996 z37993 m0 g0) m0 g0 rfl rfl qw_649 qw_650 qw_651 qw_476 qw_652 ⟨rfl, by decide +kernel, by decide +kernel, by decide +kernel⟩ ⟨Nat.le_of_ble_eq_true rfl, Nat.le_of_ble_eq_true rfl⟩ hl rfl rfl (Nat.le_of_ble_eq_true rfl) dX13_fitsIn_71 ⟨Nat.le_of_ble_eq_true rfl, Nat.le_of_ble_eq_true rfl⟩ (fun z38050 F9 H locs hT hz38050 => ?_)
              obtain ⟨fz38050, hz38050⟩ := hz38050
              rw [fz38050] at hT
              refine lv_if_ne (tgt := 79) hx hb dX13_fitsIn_74 (by decide) (fun c38051 => ?_) (fun c38051 => ?_)
              · have w38052 := cv_ne (rfl : z38050.toInt = z38050.toInt) (by decide : (0 : Int32).toInt = 0) c38051
                refine lv_iconst (v := 0) hx hb dX13_fitsIn_79 (by decide) ?_
                refine lv_istore (lv' := [(6, .int 0), (0, .ref p0), (1, .ref p1), (2, .int p2), (3, .int z37992), (4, .int z37993), (5, .int z37996)]) hx hb dX13_fitsIn_80 hl (by decide) rfl (fun ls hl => ?_)
                have k38053 : (0 : Int32).toInt = 0 := by decide
                exact K82 5 0 z37997 _ _ _ (by omega) (by decide) (by omega) (by omega) hT qz37997 (lv_sub hl [1, 2, 3, 4, 5, 6, 0] rfl)
              · have w38054 := cv_eq (rfl : z38050.toInt = z38050.toInt) (by decide : (0 : Int32).toInt = 0) c38051
                refine lv_iconst (v := 0) hx hb dX13_fitsIn_77 (by decide) ?_
                have k38055 : (0 : Int32).toInt = 0 := by decide
                exact t_zret hQ X hT (by decide) (⟨rfl, (by decide)⟩) (Nat.le_of_ble_eq_true rfl) (Nat.le_of_ble_eq_true rfl) dX13_fitsIn_78
            · have w38056 := cv_ne (rfl : z38047.toInt = z38047.toInt) (rfl : z37992.toInt = z37992.toInt) c38048
              refine lv_goto (tgt := 162) hx hb dX13_fitsIn_63 (by decide) ?_
              exact K162 z37997 _ _ _ (by omega) (by omega) hT qz37997 (lv_sub hl [0, 1, 2, 3, 4, 5] rfl)
      refine lv_iload hx hb dX13_fitsIn_17 (lv_at hl 4 rfl) ?_
      refine lv_aload_n hx hb dX13_fitsIn_19 rfl (lv_at hl 0 rfl) ?_
      refine lv_iload_n hx hb dX13_fitsIn_20 rfl (lv_at hl 2 rfl) ?_
      refine t_cVi (n := 1) (C := RX12) (T := TX12) (N := 31) (As := [.int p2]) (rest := [.int z37993]) X hT (km90_X12_y l G tag L F hT.2.2.2 p0 p2 m0 g0 (by omega)) m0 g0 rfl rfl qw_647 qw_629 qw_630 qw_476 qw_631 ⟨rfl, by decide +kernel, by decide +kernel, by decide +kernel⟩ ⟨Nat.le_of_ble_eq_true rfl, Nat.le_of_ble_eq_true rfl⟩ hl rfl rfl (Nat.le_of_ble_eq_true rfl) dX13_fitsIn_21 ⟨Nat.le_of_ble_eq_true rfl, Nat.le_of_ble_eq_true rfl⟩ (fun z38057 F9 H locs hT hz38057 => ?_)
      obtain ⟨fz38057, hz38057⟩ := hz38057
      rw [fz38057] at hT
      refine lv_iload_n hx hb dX13_fitsIn_24 rfl (lv_at hl 3 rfl) ?_
      refine lv_iadd hx hb dX13_fitsIn_25 ?_
      refine lv_topi (fun z38058 ez38058 => ?_)
      have hz38058 : z38058.toInt = z38057.toInt + z37992.toInt := ar_add ez38058 (rfl : z38057.toInt = z38057.toInt) (rfl : z37992.toInt = z37992.toInt) (by omega) (by omega)
      have rz38058 : 1 ≤ z38058.toInt ∧ z38058.toInt ≤ 150 := by omega
      refine lv_icmp_gt (tgt := 174) hx hb dX13_fitsIn_26 (by decide) (fun c38059 => ?_) (fun c38059 => ?_)
      · have w38060 := cv_lt (rfl : z38058.toInt = z38058.toInt) (rfl : z37993.toInt = z37993.toInt) c38059
        refine lv_iconst (v := 1) hx hb dX13_fitsIn_174 (by decide) ?_
        have k38061 : (1 : Int32).toInt = 1 := by decide
        exact t_zret hQ X hT (by decide) (⟨rfl, (by decide)⟩) (Nat.le_of_ble_eq_true rfl) (Nat.le_of_ble_eq_true rfl) dX13_fitsIn_175
      · have w38062 := cv_nlt (rfl : z38058.toInt = z38058.toInt) (rfl : z37993.toInt = z37993.toInt) c38059
        refine lv_aload_n hx hb dX13_fitsIn_29 rfl (lv_at hl 0 rfl) ?_
        refine lv_iload_n hx hb dX13_fitsIn_30 rfl (lv_at hl 2 rfl) ?_
        refine t_cVi (n := 1) (C := RX12) (T := TX12) (N := 31) (As := [.int p2]) (rest := []) X hT (km89_X12_x l G tag L F hT.2.2.2 p0 p2 m0 g0 (by omega)) m0 g0 rfl rfl qw_648 qw_624 qw_625 qw_476 qw_626 ⟨rfl, by decide +kernel, by decide +kernel, by decide +kernel⟩ ⟨Nat.le_of_ble_eq_true rfl, Nat.le_of_ble_eq_true rfl⟩ hl rfl rfl (Nat.le_of_ble_eq_true rfl) dX13_fitsIn_31 ⟨Nat.le_of_ble_eq_true rfl, Nat.le_of_ble_eq_true rfl⟩ (fun z38063 F9 H locs hT hz38063 => ?_)
        obtain ⟨fz38063, hz38063⟩ := hz38063
        rw [fz38063] at hT
        refine lv_iload_n hx hb dX13_fitsIn_34 rfl (lv_at hl 3 rfl) ?_
        refine lv_isub hx hb dX13_fitsIn_35 ?_
        refine lv_topi (fun z38064 ez38064 => ?_)
        have hz38064 : z38064.toInt = z38063.toInt - z37992.toInt := ar_sub ez38064 (rfl : z38063.toInt = z38063.toInt) (rfl : z37992.toInt = z37992.toInt) (by omega) (by omega)
        have rz38064 : (-7) ≤ z38064.toInt ∧ z38064.toInt ≤ 10 := by omega
        refine lv_istore (lv' := [(5, .int z38064), (0, .ref p0), (1, .ref p1), (2, .int p2), (3, .int z37992), (4, .int z37993)]) hx hb dX13_fitsIn_36 hl (by decide) rfl (fun ls hl => ?_)
        exact K38 28 z38064 z37994 _ _ _ (by omega) (by omega) (by omega) (by omega) hT qz37994 (lv_sub hl [1, 2, 3, 4, 5, 0] rfl)
  refine lv_aload_n hx hb dX13_fitsIn_0 rfl (lv_at hl 1 rfl) ?_
  refine lv_iconst (v := 0) hx hb dX13_fitsIn_1 (by decide) ?_
  refine lv_iload_n hx hb dX13_fitsIn_2 rfl (lv_at hl 2 rfl) ?_
  refine lv_iadd hx hb dX13_fitsIn_3 ?_
  refine lv_topi (fun z38065 ez38065 => ?_)
  obtain rfl : p2 = z38065 := (ar_zadd ez38065).symm
  refine t_ild X hT m1 g1 rfl (by omega) dX13_fitsIn_4 (fun z38066 vz38066 rz38066 => ?_)
  have rz38066 := row_ml (by omega) rz38066
  refine lv_iconst (v := 1) hx hb dX13_fitsIn_5 (by decide) ?_
  refine lv_iadd hx hb dX13_fitsIn_6 ?_
  refine lv_topi (fun z38067 ez38067 => ?_)
  have hz38067 : z38067.toInt = z38066.toInt + 1 := ar_add ez38067 (rfl : z38066.toInt = z38066.toInt) (by decide : (1 : Int32).toInt = 1) (by omega) (by omega)
  have rz38067 : 1 ≤ z38067.toInt ∧ z38067.toInt ≤ 7 := by omega
  refine lv_istore_n (lv' := [(3, .int z38067), (0, .ref p0), (1, .ref p1), (2, .int p2)]) hx hb dX13_fitsIn_7 rfl hl (by decide) rfl (fun ls hl => ?_)
  refine lv_aload_n hx hb dX13_fitsIn_8 rfl (lv_at hl 1 rfl) ?_
  refine lv_iload_n hx hb dX13_fitsIn_9 rfl (lv_at hl 3 rfl) ?_
  refine t_cVi (n := 1) (C := RX12) (T := TX12) (N := 31) (As := [.int p2]) (rest := []) X hT (km90_X12_y l G tag L F hT.2.2.2 p0 p2 m0 g0 (by omega)) m0 g0 rfl rfl qw_647 qw_629 qw_630 qw_476 qw_631 ⟨rfl, by decide +kernel, by decide +kernel, by decide +kernel⟩ ⟨Nat.le_of_ble_eq_true rfl, Nat.le_of_ble_eq_true rfl⟩ hl rfl rfl (Nat.le_of_ble_eq_true rfl) dX13_fitsIn_10 ⟨Nat.le_of_ble_eq_true rfl, Nat.le_of_ble_eq_true rfl⟩ (fun z38068 F9 H locs hT hz38068 => ?_)
  obtain ⟨fz38068, hz38068⟩ := hz38068
  rw [fz38068] at hT
  refine lv_iload_n hx hb dX13_fitsIn_13 rfl (lv_at hl 0 rfl) ?_
  refine lv_isub hx hb dX13_fitsIn_14 ?_
  refine lv_topi (fun z38069 ez38069 => ?_)
  have hz38069 : z38069.toInt = z38068.toInt - z38067.toInt := ar_sub ez38069 (rfl : z38068.toInt = z38068.toInt) (rfl : z38067.toInt = z38067.toInt) (by omega) (by omega)
  have rz38069 : (-7) ≤ z38069.toInt ∧ z38069.toInt ≤ 142 := by omega
  refine lv_istore (lv' := [(4, .int z38069), (3, .int z38067), (0, .ref p0), (1, .ref p1), (2, .int p2)]) hx hb dX13_fitsIn_15 hl (by decide) rfl (fun ls hl => ?_)
  exact K17 201 z38067 z38069 z38066 _ _ _ (by omega) (by omega) (by omega) (by omega) hT vz38066 (lv_sub hl [2, 3, 4, 1, 0] rfl)
set_option maxHeartbeats 4000000 in
set_option maxRecDepth 100000 in
theorem km139_X13_fits (l : Launch) (G : KG) (tag : Nat → Nat) (L : List Nat) (Fo : Nat → va_E) (ho : okT G ttC tag L Fo) (p0 : Nat) (p1 : Int32) (x0 : Nat) (m0 : p0 ∈ L) (g0 : tag p0 = 46) (mx0 : x0 ∈ L) (gx0 : tag x0 = 45) (pf0 : fld Fo p0 3 = .ref x0) : TMi l yX13_fits cX13_fits 2 (some .int) { frames := 3, cells := 0, slots := 0, locals := 72 } G ttC tag L Fo [.ref p0, .int p1] (fun r F1 => ((-2147483648) ≤ r.toInt ∧ r.toInt ≤ 2147483647) ∧ ((∀ b j : Nat, (tag b ≠ 46 ∨ j ≠ 0) → (tag b ≠ 46 ∨ j ≠ 1) → (tag b ≠ 46 ∨ j ≠ 2) → fld F1 b j = fld Fo b j) ∧ (∀ b j : Nat, elm F1 b j = elm Fo b j))) := by
  refine t_bodyi (y := yX13_fits) (cd := cX13_fits) (mL := 2) (rt := (some .int)) (rm := { frames := 3, cells := 0, slots := 0, locals := 72 }) (av := [.ref p0, .int p1]) (by decide) (Nat.le_of_ble_eq_true rfl) ho ?_
  intro p e s m args below meth c ls A Q hQ X hT hl
  have hx := X.1.1
  have hb := X.1.2.1
  have hl : lv_has ls 2 [(0, .ref p0), (1, .int p1)] := hl
  have rp1 := rg_all p1
  obtain ⟨F, hFo⟩ : ∃ F : Nat → va_E, F = Fo := ⟨_, rfl⟩
  rw [← hFo] at hT pf0
  have hfr : (∀ b j : Nat, (tag b ≠ 46 ∨ j ≠ 0) → (tag b ≠ 46 ∨ j ≠ 1) → (tag b ≠ 46 ∨ j ≠ 2) → fld F b j = fld Fo b j) ∧ (∀ b j : Nat, elm F b j = elm Fo b j) := by
    rw [hFo]
    exact ⟨by intros; rfl, by intros; rfl⟩
  refine lv_aload_n hx hb dX13_fits_0 rfl (lv_at hl 0 rfl) ?_
  refine lv_iconst (v := 0) hx hb dX13_fits_1 (by decide) ?_
  refine t_put (C := RX13) (T := TX13) (N := 37) (v := .int 0) X hT m0 g0 rfl tyX13 tyX13_ok nmX13 rfl 0 (by decide) qw_140 inlX13 rfl (by first | rfl | decide) (by first | rfl | decide) rfl (⟨_, rfl, (show (-2147483648) ≤ (0 : Int32).toInt from (by decide)), (show (0 : Int32).toInt ≤ 2147483647 from (by decide))⟩) dX13_fits_2 (fun F H locs hT v38306 h1v38306 h2v38306 => ?_)
  have pf0 := (h1v38306 _ _ (Or.inr (by decide))).trans pf0
  have hfr : (∀ b j : Nat, (tag b ≠ 46 ∨ j ≠ 0) → (tag b ≠ 46 ∨ j ≠ 1) → (tag b ≠ 46 ∨ j ≠ 2) → fld F b j = fld Fo b j) ∧ (∀ b j : Nat, elm F b j = elm Fo b j) := ⟨fun b j n46_0 n46_1 n46_2 => (h1v38306 b j (fr_ne g0 n46_0)).trans (hfr.1 b j n46_0 n46_1 n46_2), fun b j  => (h2v38306 b j).trans (hfr.2 b j )⟩
  refine lv_aload_n hx hb dX13_fits_5 rfl (lv_at hl 0 rfl) ?_
  refine lv_iload_n hx hb dX13_fits_6 rfl (lv_at hl 1 rfl) ?_
  refine t_cVi (n := 1) (C := RX13) (T := TX13) (N := 37) (As := [.int p1]) (rest := []) X hT (km107_X13_isHouse l G tag L F hT.2.2.2 p0 p1 x0 m0 g0 mx0 gx0 pf0) m0 g0 rfl rfl qw_796 qw_797 qw_798 qw_5 qw_799 ⟨rfl, by decide +kernel, by decide +kernel, by decide +kernel⟩ ⟨Nat.le_of_ble_eq_true rfl, Nat.le_of_ble_eq_true rfl⟩ hl rfl rfl (Nat.le_of_ble_eq_true rfl) dX13_fits_7 ⟨Nat.le_of_ble_eq_true rfl, Nat.le_of_ble_eq_true rfl⟩ (fun z38307 F9 H locs hT hz38307 => ?_)
  obtain ⟨fz38307, hz38307⟩ := hz38307
  rw [fz38307] at hT
  obtain ⟨hz38307, iz38307⟩ := hz38307
  refine lv_if_eq (tgt := 53) hx hb dX13_fits_10 (by decide) (fun c38308 => ?_) (fun c38308 => ?_)
  · have w38309 := cv_eq (rfl : z38307.toInt = z38307.toInt) (by decide : (0 : Int32).toInt = 0) c38308
    refine lv_aload_n hx hb dX13_fits_53 rfl (lv_at hl 0 rfl) ?_
    refine lv_iconst (v := 1) hx hb dX13_fits_54 (by decide) ?_
    refine t_cVi (n := 1) (C := RX13) (T := TX13) (N := 37) (As := [.int 1]) (rest := []) X hT (km88_X13_refused l G tag L F hT.2.2.2 p0 1 m0 g0) m0 g0 rfl rfl qw_484 qw_485 qw_486 qw_5 qw_487 ⟨rfl, by decide +kernel, by decide +kernel, by decide +kernel⟩ ⟨Nat.le_of_ble_eq_true rfl, Nat.le_of_ble_eq_true rfl⟩ hl rfl rfl (Nat.le_of_ble_eq_true rfl) dX13_fits_55 ⟨Nat.le_of_ble_eq_true rfl, Nat.le_of_ble_eq_true rfl⟩ (fun z38310 F H locs hT hz38310 => ?_)
    obtain ⟨hz38310, yz38310⟩ := hz38310
    have pf0 := (yz38310.1 _ 3 (Or.inr (by decide)) (Or.inr (by decide))).trans pf0
    have v38306 := (yz38310.1 _ 0 (Or.inr (by decide)) (Or.inr (by decide))).trans v38306
    have hfr : (∀ b j : Nat, (tag b ≠ 46 ∨ j ≠ 0) → (tag b ≠ 46 ∨ j ≠ 1) → (tag b ≠ 46 ∨ j ≠ 2) → fld F b j = fld Fo b j) ∧ (∀ b j : Nat, elm F b j = elm Fo b j) := ⟨fun b j n46_0 n46_1 n46_2 => (yz38310.1 b j n46_1 n46_2).trans (hfr.1 b j n46_0 n46_1 n46_2), fun b j  => (yz38310.2 b j ).trans (hfr.2 b j )⟩
    exact t_iret hQ X hT (⟨rg_all _, hfr⟩) (Nat.le_of_ble_eq_true rfl) (Nat.le_of_ble_eq_true rfl) dX13_fits_58
  · have w38311 := cv_ne (rfl : z38307.toInt = z38307.toInt) (by decide : (0 : Int32).toInt = 0) c38308
    have w38312 := (fun h => (iz38307 h)) (by omega)
    refine lv_aload_n hx hb dX13_fits_13 rfl (lv_at hl 0 rfl) ?_
    refine lv_aload_n hx hb dX13_fits_14 rfl (lv_at hl 0 rfl) ?_
    refine t_get (C := RX13) (T := TX13) (N := 37) X hT m0 g0 rfl rfl 16 (by decide) qw_112 inlX13 rfl dX13_fits_15 (fun v38313 hv38313 ov38313 => ?_)
    obtain ⟨b38314, rfl, mb38314, gb38314⟩ := okV_r ov38313
    have gb38314 : tag b38314 = 37 := tg_of gb38314
    refine lv_iconst (v := 0) hx hb dX13_fits_18 (by decide) ?_
    refine lv_iload_n hx hb dX13_fits_19 rfl (lv_at hl 1 rfl) ?_
    refine lv_iadd hx hb dX13_fits_20 ?_
    refine lv_topi (fun z38315 ez38315 => ?_)
    obtain rfl : p1 = z38315 := (ar_zadd ez38315).symm
    refine t_ild X hT mb38314 gb38314 rfl (by omega) dX13_fits_21 (fun z38316 vz38316 rz38316 => ?_)
    have rz38316 := row_ml (by omega) rz38316
    refine lv_bipush (v := 6) hx hb dX13_fits_22 (by decide) ?_
    refine lv_icmp_ge (tgt := 46) hx hb dX13_fits_24 (by decide) (fun c38317 => ?_) (fun c38317 => ?_)
    · have w38318 := cv_le (by decide : (6 : Int32).toInt = 6) (rfl : z38316.toInt = z38316.toInt) c38317
      refine lv_iconst (v := 0) hx hb dX13_fits_46 (by decide) ?_
      refine t_cVi (n := 1) (C := RX13) (T := TX13) (N := 37) (As := [.int 0]) (rest := []) X hT (km93_X13_good l G tag L F hT.2.2.2 p0 0 m0 g0) m0 g0 rfl rfl qw_687 qw_688 qw_689 qw_5 qw_690 ⟨rfl, by decide +kernel, by decide +kernel, by decide +kernel⟩ ⟨Nat.le_of_ble_eq_true rfl, Nat.le_of_ble_eq_true rfl⟩ hl rfl rfl (Nat.le_of_ble_eq_true rfl) dX13_fits_47 ⟨Nat.le_of_ble_eq_true rfl, Nat.le_of_ble_eq_true rfl⟩ (fun z38319 F H locs hT hz38319 => ?_)
      obtain ⟨hz38319, yz38319⟩ := hz38319
      have pf0 := (yz38319.1 _ 3 (Or.inr (by decide)) (Or.inr (by decide))).trans pf0
      have v38306 := (yz38319.1 _ 0 (Or.inr (by decide)) (Or.inr (by decide))).trans v38306
      have hv38313 := (yz38319.1 _ 16 (Or.inr (by decide)) (Or.inr (by decide))).trans hv38313
      have vz38316 := (yz38319.2 _ _ ).trans vz38316
      have hfr : (∀ b j : Nat, (tag b ≠ 46 ∨ j ≠ 0) → (tag b ≠ 46 ∨ j ≠ 1) → (tag b ≠ 46 ∨ j ≠ 2) → fld F b j = fld Fo b j) ∧ (∀ b j : Nat, elm F b j = elm Fo b j) := ⟨fun b j n46_0 n46_1 n46_2 => (yz38319.1 b j n46_1 n46_2).trans (hfr.1 b j n46_0 n46_1 n46_2), fun b j  => (yz38319.2 b j ).trans (hfr.2 b j )⟩
      refine lv_goto (tgt := 58) hx hb dX13_fits_50 (by decide) ?_
      exact t_iret hQ X hT (⟨rg_all _, hfr⟩) (Nat.le_of_ble_eq_true rfl) (Nat.le_of_ble_eq_true rfl) dX13_fits_58
    · have w38320 := cv_nle (by decide : (6 : Int32).toInt = 6) (rfl : z38316.toInt = z38316.toInt) c38317
      refine lv_aload_n hx hb dX13_fits_27 rfl (lv_at hl 0 rfl) ?_
      refine t_get (C := RX13) (T := TX13) (N := 37) X hT m0 g0 rfl rfl 3 (by decide) qw_481 inlX13 rfl dX13_fits_28 (fun v38321 hv38321 ov38321 => ?_)
      obtain rfl : v38321 = .ref x0 := hv38321.symm.trans pf0
      refine lv_aload_n hx hb dX13_fits_31 rfl (lv_at hl 0 rfl) ?_
      refine t_get (C := RX13) (T := TX13) (N := 37) X hT m0 g0 rfl rfl 16 (by decide) qw_112 inlX13 rfl dX13_fits_32 (fun v38322 hv38322 ov38322 => ?_)
      obtain rfl : v38322 = .ref b38314 := hv38322.symm.trans hv38313
      refine lv_iload_n hx hb dX13_fits_35 rfl (lv_at hl 1 rfl) ?_
      refine t_cSi (n := 3) (As := [.ref x0, .ref b38314, .int p1]) (rest := [.ref p0]) X hT (km138_X13_fitsIn l G tag L F hT.2.2.2 x0 b38314 p1 mx0 gx0 mb38314 gb38314 (by omega)) qw_644 qw_645 qw_5 qw_646 ⟨by decide +kernel, by decide +kernel, by decide +kernel⟩ ⟨Nat.le_of_ble_eq_true rfl, Nat.le_of_ble_eq_true rfl⟩ hl rfl rfl (Nat.le_of_ble_eq_true rfl) dX13_fits_36 ⟨Nat.le_of_ble_eq_true rfl, Nat.le_of_ble_eq_true rfl⟩ (fun z38323 F9 H locs hT hz38323 => ?_)
      obtain ⟨fz38323, hz38323⟩ := hz38323
      rw [fz38323] at hT
      refine lv_if_eq (tgt := 46) hx hb dX13_fits_39 (by decide) (fun c38324 => ?_) (fun c38324 => ?_)
      · have w38325 := cv_eq (rfl : z38323.toInt = z38323.toInt) (by decide : (0 : Int32).toInt = 0) c38324
        refine lv_iconst (v := 0) hx hb dX13_fits_46 (by decide) ?_
        refine t_cVi (n := 1) (C := RX13) (T := TX13) (N := 37) (As := [.int 0]) (rest := []) X hT (km93_X13_good l G tag L F hT.2.2.2 p0 0 m0 g0) m0 g0 rfl rfl qw_687 qw_688 qw_689 qw_5 qw_690 ⟨rfl, by decide +kernel, by decide +kernel, by decide +kernel⟩ ⟨Nat.le_of_ble_eq_true rfl, Nat.le_of_ble_eq_true rfl⟩ hl rfl rfl (Nat.le_of_ble_eq_true rfl) dX13_fits_47 ⟨Nat.le_of_ble_eq_true rfl, Nat.le_of_ble_eq_true rfl⟩ (fun z38326 F H locs hT hz38326 => ?_)
        obtain ⟨hz38326, yz38326⟩ := hz38326
        have pf0 := (yz38326.1 _ 3 (Or.inr (by decide)) (Or.inr (by decide))).trans pf0
        have v38306 := (yz38326.1 _ 0 (Or.inr (by decide)) (Or.inr (by decide))).trans v38306
        have hv38313 := (yz38326.1 _ 16 (Or.inr (by decide)) (Or.inr (by decide))).trans hv38313
        have vz38316 := (yz38326.2 _ _ ).trans vz38316
        have hfr : (∀ b j : Nat, (tag b ≠ 46 ∨ j ≠ 0) → (tag b ≠ 46 ∨ j ≠ 1) → (tag b ≠ 46 ∨ j ≠ 2) → fld F b j = fld Fo b j) ∧ (∀ b j : Nat, elm F b j = elm Fo b j) := ⟨fun b j n46_0 n46_1 n46_2 => (yz38326.1 b j n46_1 n46_2).trans (hfr.1 b j n46_0 n46_1 n46_2), fun b j  => (yz38326.2 b j ).trans (hfr.2 b j )⟩
        refine lv_goto (tgt := 58) hx hb dX13_fits_50 (by decide) ?_
        exact t_iret hQ X hT (⟨rg_all _, hfr⟩) (Nat.le_of_ble_eq_true rfl) (Nat.le_of_ble_eq_true rfl) dX13_fits_58
      · have w38327 := cv_ne (rfl : z38323.toInt = z38323.toInt) (by decide : (0 : Int32).toInt = 0) c38324
        refine lv_iconst (v := 1) hx hb dX13_fits_42 (by decide) ?_
        refine lv_goto (tgt := 47) hx hb dX13_fits_43 (by decide) ?_
        refine t_cVi (n := 1) (C := RX13) (T := TX13) (N := 37) (As := [.int 1]) (rest := []) X hT (km93_X13_good l G tag L F hT.2.2.2 p0 1 m0 g0) m0 g0 rfl rfl qw_687 qw_688 qw_689 qw_5 qw_690 ⟨rfl, by decide +kernel, by decide +kernel, by decide +kernel⟩ ⟨Nat.le_of_ble_eq_true rfl, Nat.le_of_ble_eq_true rfl⟩ hl rfl rfl (Nat.le_of_ble_eq_true rfl) dX13_fits_47 ⟨Nat.le_of_ble_eq_true rfl, Nat.le_of_ble_eq_true rfl⟩ (fun z38328 F H locs hT hz38328 => ?_)
        obtain ⟨hz38328, yz38328⟩ := hz38328
        have pf0 := (yz38328.1 _ 3 (Or.inr (by decide)) (Or.inr (by decide))).trans pf0
        have v38306 := (yz38328.1 _ 0 (Or.inr (by decide)) (Or.inr (by decide))).trans v38306
        have hv38313 := (yz38328.1 _ 16 (Or.inr (by decide)) (Or.inr (by decide))).trans hv38313
        have vz38316 := (yz38328.2 _ _ ).trans vz38316
        have hfr : (∀ b j : Nat, (tag b ≠ 46 ∨ j ≠ 0) → (tag b ≠ 46 ∨ j ≠ 1) → (tag b ≠ 46 ∨ j ≠ 2) → fld F b j = fld Fo b j) ∧ (∀ b j : Nat, elm F b j = elm Fo b j) := ⟨fun b j n46_0 n46_1 n46_2 => (yz38328.1 b j n46_1 n46_2).trans (hfr.1 b j n46_0 n46_1 n46_2), fun b j  => (yz38328.2 b j ).trans (hfr.2 b j )⟩
        refine lv_goto (tgt := 58) hx hb dX13_fits_50 (by decide) ?_
        exact t_iret hQ X hT (⟨rg_all _, hfr⟩) (Nat.le_of_ble_eq_true rfl) (Nat.le_of_ble_eq_true rfl) dX13_fits_58
