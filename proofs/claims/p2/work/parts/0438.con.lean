set_option maxHeartbeats 4000000 in
set_option maxRecDepth 100000 in
theorem km274_X13_lock (l : Launch) (G : KG) (tag : Nat → Nat) (L : List Nat) (Fo : Nat → va_E) (ho : okT G ttC tag L Fo) (p0 : Nat) (p1 : Int32) (p2 : Int32) (p3 : Int32) (m0 : p0 ∈ L) (g0 : tag p0 = 46) (pf0 : fld Fo p0 3 = .null) : TMi l yX13_lock cX13_lock 4 (some .boolean) { frames := 2, cells := 0, slots := 0, locals := 43 } G ttC tag L Fo [.ref p0, .int p1, .int p2, .int p3] (fun r F1 => (0 ≤ r.toInt ∧ r.toInt ≤ 1) ∧ ((∀ b j : Nat, (tag b ≠ 46 ∨ j ≠ 0) → (tag b ≠ 46 ∨ j ≠ 1) → (tag b ≠ 46 ∨ j ≠ 2) → (tag b ≠ 46 ∨ j ≠ 20) → fld F1 b j = fld Fo b j) ∧ (∀ b j : Nat, tag b ≠ 37 → tag b ≠ 38 → elm F1 b j = elm Fo b j))) := by
  refine t_bodyi (y := yX13_lock) (cd := cX13_lock) (mL := 4) (rt := (some .boolean)) (rm := { frames := 2, cells := 0, slots := 0, locals := 43 }) (av := [.ref p0, .int p1, .int p2, .int p3]) (by decide) (Nat.le_of_ble_eq_true rfl) ho ?_
  intro p e s m args below meth c ls A Q hQ X hT hl
  have hx := X.1.1
  have hb := X.1.2.1
  have hl : lv_has ls 4 [(0, .ref p0), (1, .int p1), (2, .int p2), (3, .int p3)] := hl
  have rp1 := rg_all p1
  have rp2 := rg_all p2
  have rp3 := rg_all p3
  obtain ⟨F, hFo⟩ : ∃ F : Nat → va_E, F = Fo := ⟨_, rfl⟩
  rw [← hFo] at hT pf0
  have hfr : (∀ b j : Nat, (tag b ≠ 46 ∨ j ≠ 0) → (tag b ≠ 46 ∨ j ≠ 1) → (tag b ≠ 46 ∨ j ≠ 2) → (tag b ≠ 46 ∨ j ≠ 20) → fld F b j = fld Fo b j) ∧ (∀ b j : Nat, tag b ≠ 37 → tag b ≠ 38 → elm F b j = elm Fo b j) := by
    rw [hFo]
    exact ⟨by intros; rfl, by intros; rfl⟩
  refine lv_aload_n hx hb dX13_lock_0 rfl (lv_at hl 0 rfl) ?_
  refine lv_iconst (v := 0) hx hb dX13_lock_1 (by decide) ?_
  refine t_put (C := RX13) (T := TX13) (N := 37) (v := .int 0) X hT m0 g0 rfl tyX13 tyX13_ok nmX13 rfl 0 (by decide) qw_140 inlX13 rfl (by first | rfl | decide) (by first | rfl | decide) rfl (⟨_, rfl, (show (-2147483648) ≤ (0 : Int32).toInt from (by decide)), (show (0 : Int32).toInt ≤ 2147483647 from (by decide))⟩) dX13_lock_2 (fun F H locs hT v82687 h1v82687 h2v82687 => ?_)
  have pf0 := (h1v82687 _ _ (Or.inr (by decide))).trans pf0
  have hfr : (∀ b j : Nat, (tag b ≠ 46 ∨ j ≠ 0) → (tag b ≠ 46 ∨ j ≠ 1) → (tag b ≠ 46 ∨ j ≠ 2) → (tag b ≠ 46 ∨ j ≠ 20) → fld F b j = fld Fo b j) ∧ (∀ b j : Nat, tag b ≠ 37 → tag b ≠ 38 → elm F b j = elm Fo b j) := ⟨fun b j n46_0 n46_1 n46_2 n46_20 => (h1v82687 b j (fr_ne g0 n46_0)).trans (hfr.1 b j n46_0 n46_1 n46_2 n46_20), fun b j a37 a38 => (h2v82687 b j).trans (hfr.2 b j a37 a38)⟩
  refine lv_aload_n hx hb dX13_lock_5 rfl (lv_at hl 0 rfl) ?_
  refine lv_iload_n hx hb dX13_lock_6 rfl (lv_at hl 1 rfl) ?_
  refine lv_iload_n hx hb dX13_lock_7 rfl (lv_at hl 2 rfl) ?_
  refine t_cVi (n := 2) (C := RX13) (T := TX13) (N := 37) (As := [.int p1, .int p2]) (rest := []) X hT (km121_X13_isSkin l G tag L F hT.2.2.2 p0 p1 p2 m0 g0 pf0) m0 g0 rfl rfl qw_836 qw_837 qw_838 qw_5 qw_839 ⟨rfl, by decide +kernel, by decide +kernel, by decide +kernel⟩ ⟨Nat.le_of_ble_eq_true rfl, Nat.le_of_ble_eq_true rfl⟩ hl rfl rfl (Nat.le_of_ble_eq_true rfl) dX13_lock_8 ⟨Nat.le_of_ble_eq_true rfl, Nat.le_of_ble_eq_true rfl⟩ (fun z82688 F9 H locs hT hz82688 => ?_)
  obtain ⟨fz82688, hz82688⟩ := hz82688
  rw [fz82688] at hT
  refine lv_if_ne (tgt := 20) hx hb dX13_lock_11 (by decide) (fun c82689 => ?_) (fun c82689 => ?_)
  · have w82690 := cv_ne (rfl : z82688.toInt = z82688.toInt) (by decide : (0 : Int32).toInt = 0) c82689
    exfalso
    omega
  · have w82691 := cv_eq (rfl : z82688.toInt = z82688.toInt) (by decide : (0 : Int32).toInt = 0) c82689
    refine lv_aload_n hx hb dX13_lock_14 rfl (lv_at hl 0 rfl) ?_
    refine lv_iconst (v := 1) hx hb dX13_lock_15 (by decide) ?_
    refine t_cVi (n := 1) (C := RX13) (T := TX13) (N := 37) (As := [.int 1]) (rest := []) X hT (km268_X13_denied l G tag L F hT.2.2.2 p0 1 m0 g0) m0 g0 rfl rfl qw_1468 qw_1469 qw_1470 qw_5 qw_1471 ⟨rfl, by decide +kernel, by decide +kernel, by decide +kernel⟩ ⟨Nat.le_of_ble_eq_true rfl, Nat.le_of_ble_eq_true rfl⟩ hl rfl rfl (Nat.le_of_ble_eq_true rfl) dX13_lock_16 ⟨Nat.le_of_ble_eq_true rfl, Nat.le_of_ble_eq_true rfl⟩ (fun z82692 F H locs hT hz82692 => ?_)
    obtain ⟨hz82692, yz82692⟩ := hz82692
    have pf0 := (yz82692.1 _ 3 (Or.inr (by decide)) (Or.inr (by decide))).trans pf0
    have v82687 := (yz82692.1 _ 0 (Or.inr (by decide)) (Or.inr (by decide))).trans v82687
    have hfr : (∀ b j : Nat, (tag b ≠ 46 ∨ j ≠ 0) → (tag b ≠ 46 ∨ j ≠ 1) → (tag b ≠ 46 ∨ j ≠ 2) → (tag b ≠ 46 ∨ j ≠ 20) → fld F b j = fld Fo b j) ∧ (∀ b j : Nat, tag b ≠ 37 → tag b ≠ 38 → elm F b j = elm Fo b j) := ⟨fun b j n46_0 n46_1 n46_2 n46_20 => (yz82692.1 b j n46_1 n46_2).trans (hfr.1 b j n46_0 n46_1 n46_2 n46_20), fun b j a37 a38 => (yz82692.2 b j ).trans (hfr.2 b j a37 a38)⟩
    exact t_zret hQ X hT (nar_z (by omega)) (⟨(by omega), hfr⟩) (Nat.le_of_ble_eq_true rfl) (Nat.le_of_ble_eq_true rfl) dX13_lock_19
theorem kp_X13_lock (l : Launch) (G : KG) (tag : Nat → Nat) (L : List Nat) (Fo : Nat → va_E) (ho : okT G ttC tag L Fo) (p0 : Nat) (p1 : Int32) (p2 : Int32) (p3 : Int32) (m0 : p0 ∈ L) (g0 : tag p0 = 46) : TMi l yX13_lock cX13_lock 4 (some .boolean) { frames := 2, cells := 0, slots := 0, locals := 43 } G ttC tag L Fo [.ref p0, .int p1, .int p2, .int p3] (fun r F1 => (0 ≤ r.toInt ∧ r.toInt ≤ 1) ∧ ((∀ b j : Nat, (tag b ≠ 46 ∨ j ≠ 0) → (tag b ≠ 46 ∨ j ≠ 1) → (tag b ≠ 46 ∨ j ≠ 2) → (tag b ≠ 46 ∨ j ≠ 20) → fld F1 b j = fld Fo b j) ∧ (∀ b j : Nat, tag b ≠ 37 → tag b ≠ 38 → elm F1 b j = elm Fo b j))) := by
  rcases t_fldn ho m0 g0 rfl 3 rfl with h9 | ⟨b9, h9, m9, t9⟩
  · exact km274_X13_lock l G tag L Fo ho p0 p1 p2 p3  m0 g0 h9 
  · exact km273_X13_lock l G tag L Fo ho p0 p1 p2 p3 b9  m0 g0 m9 (tg_of t9) h9 
set_option maxHeartbeats 4000000 in
set_option maxRecDepth 100000 in
theorem km276_X13_move (l : Launch) (G : KG) (tag : Nat → Nat) (L : List Nat) (Fo : Nat → va_E) (ho : okT G ttC tag L Fo) (p0 : Nat) (p1 : Int32) (p2 : Int32) (x0 : Nat) (m0 : p0 ∈ L) (g0 : tag p0 = 46) (mx0 : x0 ∈ L) (gx0 : tag x0 = 45) (pf0 : fld Fo p0 3 = .ref x0) : TMi l yX13_move cX13_move 4 (some .boolean) { frames := 2, cells := 0, slots := 0, locals := 43 } G ttC tag L Fo [.ref p0, .int p1, .int p2] (fun r F1 => (0 ≤ r.toInt ∧ r.toInt ≤ 1) ∧ ((∀ b j : Nat, (tag b ≠ 46 ∨ j ≠ 0) → (tag b ≠ 46 ∨ j ≠ 1) → (tag b ≠ 46 ∨ j ≠ 2) → (tag b ≠ 46 ∨ j ≠ 20) → fld F1 b j = fld Fo b j) ∧ (∀ b j : Nat, tag b ≠ 37 → tag b ≠ 38 → elm F1 b j = elm Fo b j))) := by
  refine t_bodyi (y := yX13_move) (cd := cX13_move) (mL := 4) (rt := (some .boolean)) (rm := { frames := 2, cells := 0, slots := 0, locals := 43 }) (av := [.ref p0, .int p1, .int p2]) (by decide) (Nat.le_of_ble_eq_true rfl) ho ?_
  intro p e s m args below meth c ls A Q hQ X hT hl
  have hx := X.1.1
  have hb := X.1.2.1
  have hl : lv_has ls 4 [(0, .ref p0), (1, .int p1), (2, .int p2)] := hl
  have rp1 := rg_all p1
  have rp2 := rg_all p2
  obtain ⟨F, hFo⟩ : ∃ F : Nat → va_E, F = Fo := ⟨_, rfl⟩
  rw [← hFo] at hT pf0
  have hfr : (∀ b j : Nat, (tag b ≠ 46 ∨ j ≠ 0) → (tag b ≠ 46 ∨ j ≠ 1) → (tag b ≠ 46 ∨ j ≠ 2) → (tag b ≠ 46 ∨ j ≠ 20) → fld F b j = fld Fo b j) ∧ (∀ b j : Nat, tag b ≠ 37 → tag b ≠ 38 → elm F b j = elm Fo b j) := by
    rw [hFo]
    exact ⟨by intros; rfl, by intros; rfl⟩
  refine lv_aload_n hx hb dX13_move_0 rfl (lv_at hl 0 rfl) ?_
  refine lv_iconst (v := 0) hx hb dX13_move_1 (by decide) ?_
  refine t_put (C := RX13) (T := TX13) (N := 37) (v := .int 0) X hT m0 g0 rfl tyX13 tyX13_ok nmX13 rfl 0 (by decide) qw_140 inlX13 rfl (by first | rfl | decide) (by first | rfl | decide) rfl (⟨_, rfl, (show (-2147483648) ≤ (0 : Int32).toInt from (by decide)), (show (0 : Int32).toInt ≤ 2147483647 from (by decide))⟩) dX13_move_2 (fun F H locs hT v83331 h1v83331 h2v83331 => ?_)
  have pf0 := (h1v83331 _ _ (Or.inr (by decide))).trans pf0
  have hfr : (∀ b j : Nat, (tag b ≠ 46 ∨ j ≠ 0) → (tag b ≠ 46 ∨ j ≠ 1) → (tag b ≠ 46 ∨ j ≠ 2) → (tag b ≠ 46 ∨ j ≠ 20) → fld F b j = fld Fo b j) ∧ (∀ b j : Nat, tag b ≠ 37 → tag b ≠ 38 → elm F b j = elm Fo b j) := ⟨fun b j n46_0 n46_1 n46_2 n46_20 => (h1v83331 b j (fr_ne g0 n46_0)).trans (hfr.1 b j n46_0 n46_1 n46_2 n46_20), fun b j a37 a38 => (h2v83331 b j).trans (hfr.2 b j a37 a38)⟩
  refine lv_aload_n hx hb dX13_move_5 rfl (lv_at hl 0 rfl) ?_
  refine lv_iload_n hx hb dX13_move_6 rfl (lv_at hl 1 rfl) ?_
  refine t_cVi (n := 1) (C := RX13) (T := TX13) (N := 37) (As := [.int p1]) (rest := []) X hT (km133_X13_isHeir l G tag L F hT.2.2.2 p0 p1 x0 m0 g0 mx0 gx0 pf0) m0 g0 rfl rfl qw_896 qw_897 qw_898 qw_5 qw_899 ⟨rfl, by decide +kernel, by decide +kernel, by decide +kernel⟩ ⟨Nat.le_of_ble_eq_true rfl, Nat.le_of_ble_eq_true rfl⟩ hl rfl rfl (Nat.le_of_ble_eq_true rfl) dX13_move_7 ⟨Nat.le_of_ble_eq_true rfl, Nat.le_of_ble_eq_true rfl⟩ (fun z83332 F9 H locs hT hz83332 => ?_)
  obtain ⟨fz83332, hz83332⟩ := hz83332
  rw [fz83332] at hT
  obtain ⟨hz83332, iz83332⟩ := hz83332
  refine lv_if_eq (tgt := 30) hx hb dX13_move_10 (by decide) (fun c83333 => ?_) (fun c83333 => ?_)
  · have w83334 := cv_eq (rfl : z83332.toInt = z83332.toInt) (by decide : (0 : Int32).toInt = 0) c83333
    refine lv_aload_n hx hb dX13_move_30 rfl (lv_at hl 0 rfl) ?_
    refine lv_iconst (v := 1) hx hb dX13_move_31 (by decide) ?_
    refine t_cVi (n := 1) (C := RX13) (T := TX13) (N := 37) (As := [.int 1]) (rest := []) X hT (km268_X13_denied l G tag L F hT.2.2.2 p0 1 m0 g0) m0 g0 rfl rfl qw_1468 qw_1469 qw_1470 qw_5 qw_1471 ⟨rfl, by decide +kernel, by decide +kernel, by decide +kernel⟩ ⟨Nat.le_of_ble_eq_true rfl, Nat.le_of_ble_eq_true rfl⟩ hl rfl rfl (Nat.le_of_ble_eq_true rfl) dX13_move_32 ⟨Nat.le_of_ble_eq_true rfl, Nat.le_of_ble_eq_true rfl⟩ (fun z83335 F H locs hT hz83335 => ?_)
    obtain ⟨hz83335, yz83335⟩ := hz83335
    have pf0 := (yz83335.1 _ 3 (Or.inr (by decide)) (Or.inr (by decide))).trans pf0
    have v83331 := (yz83335.1 _ 0 (Or.inr (by decide)) (Or.inr (by decide))).trans v83331
    have hfr : (∀ b j : Nat, (tag b ≠ 46 ∨ j ≠ 0) → (tag b ≠ 46 ∨ j ≠ 1) → (tag b ≠ 46 ∨ j ≠ 2) → (tag b ≠ 46 ∨ j ≠ 20) → fld F b j = fld Fo b j) ∧ (∀ b j : Nat, tag b ≠ 37 → tag b ≠ 38 → elm F b j = elm Fo b j) := ⟨fun b j n46_0 n46_1 n46_2 n46_20 => (yz83335.1 b j n46_1 n46_2).trans (hfr.1 b j n46_0 n46_1 n46_2 n46_20), fun b j a37 a38 => (yz83335.2 b j ).trans (hfr.2 b j a37 a38)⟩
    exact t_zret hQ X hT (nar_z (by omega)) (⟨(by omega), hfr⟩) (Nat.le_of_ble_eq_true rfl) (Nat.le_of_ble_eq_true rfl) dX13_move_35
  · have w83336 := cv_ne (rfl : z83332.toInt = z83332.toInt) (by decide : (0 : Int32).toInt = 0) c83333
    have w83337 := (fun h => (iz83332 h)) (by omega)
    refine lv_aload_n hx hb dX13_move_13 rfl (lv_at hl 0 rfl) ?_
    refine lv_aload_n hx hb dX13_move_14 rfl (lv_at hl 0 rfl) ?_
    refine t_get (C := RX13) (T := TX13) (N := 37) X hT m0 g0 rfl rfl 3 (by decide) qw_481 inlX13 rfl dX13_move_15 (fun v83338 hv83338 ov83338 => ?_)
    obtain rfl : v83338 = .ref x0 := hv83338.symm.trans pf0
    refine t_getN (C := RX12) (T := TX12) (N := 31) X hT mx0 gx0 rfl rfl 23 (by decide) (List.mem_of_getElem? (i := 27) rfl) inlX12 rfl dX13_move_18 (fun v83339 hv83339 ov83339 => ?_)
    obtain ⟨b83340, rfl, mb83340, gb83340⟩ := okV_r ov83339
    have gb83340 : tag b83340 = 32 := tg_of gb83340
    refine lv_iload_n hx hb dX13_move_21 rfl (lv_at hl 1 rfl) ?_
    refine t_ild X hT mb83340 gb83340 rfl (by omega) dX13_move_22 (fun z83341 vz83341 rz83341 => ?_)
    have rz83341 : 0 ≤ z83341.toInt ∧ z83341.toInt ≤ 3 := rz83341
    refine lv_iload_n hx hb dX13_move_23 rfl (lv_at hl 2 rfl) ?_
    refine t_cVi (n := 2) (C := RX13) (T := TX13) (N := 37) (As := [.int z83341, .int p2]) (rest := []) X hT (km124_X13_isDepth l G tag L F hT.2.2.2 p0 z83341 p2 x0 m0 g0 mx0 gx0 pf0) m0 g0 rfl rfl qw_865 qw_866 qw_867 qw_5 qw_868 ⟨rfl, by decide +kernel, by decide +kernel, by decide +kernel⟩ ⟨Nat.le_of_ble_eq_true rfl, Nat.le_of_ble_eq_true rfl⟩ hl rfl rfl (Nat.le_of_ble_eq_true rfl) dX13_move_24 ⟨Nat.le_of_ble_eq_true rfl, Nat.le_of_ble_eq_true rfl⟩ (fun z83342 F9 H locs hT hz83342 => ?_)
    obtain ⟨fz83342, hz83342⟩ := hz83342
    rw [fz83342] at hT
    obtain ⟨hz83342, iz83342⟩ := hz83342
    refine lv_if_ne (tgt := 36) hx hb dX13_move_27 (by decide) (fun c83343 => ?_) (fun c83343 => ?_)
    · have w83344 := cv_ne (rfl : z83342.toInt = z83342.toInt) (by decide : (0 : Int32).toInt = 0) c83343
      have w83345 := (fun h => (iz83342 h).1) (by omega)
      have w83346 := (fun h => (iz83342 h).2) (by omega)
      refine lv_aload_n hx hb dX13_move_36 rfl (lv_at hl 0 rfl) ?_
      refine t_get (C := RX13) (T := TX13) (N := 37) X hT m0 g0 rfl rfl 3 (by decide) qw_481 inlX13 rfl dX13_move_37 (fun v83347 hv83347 ov83347 => ?_)
      obtain rfl : v83347 = .ref x0 := hv83347.symm.trans pf0
      refine t_getN (C := RX12) (T := TX12) (N := 31) X hT mx0 gx0 rfl rfl 23 (by decide) (List.mem_of_getElem? (i := 27) rfl) inlX12 rfl dX13_move_40 (fun v83348 hv83348 ov83348 => ?_)
      obtain rfl : v83348 = .ref b83340 := hv83348.symm.trans hv83339
      refine lv_iload_n hx hb dX13_move_43 rfl (lv_at hl 1 rfl) ?_
      refine t_ild X hT mb83340 gb83340 rfl (by omega) dX13_move_44 (fun z83349 vz83349 rz83349 => ?_)
      obtain rfl : z83341 = z83349 := vz83341.symm.trans vz83349
      refine lv_istore_n (lv' := [(3, .int z83341), (0, .ref p0), (1, .int p1), (2, .int p2)]) hx hb dX13_move_45 rfl hl (by decide) rfl (fun ls hl => ?_)
      refine lv_aload_n hx hb dX13_move_46 rfl (lv_at hl 1 rfl) ?_
      refine t_get (C := RX13) (T := TX13) (N := 37) X hT m0 g0 rfl rfl 16 (by decide) qw_112 inlX13 rfl dX13_move_47 (fun v83350 hv83350 ov83350 => ?_)
      obtain ⟨b83351, rfl, mb83351, gb83351⟩ := okV_r ov83350
      have gb83351 : tag b83351 = 37 := tg_of gb83351
      refine lv_sipush (v := 204) hx hb dX13_move_50 (by decide) ?_
      refine lv_iload_n hx hb dX13_move_53 rfl (lv_at hl 2 rfl) ?_
      refine lv_iadd hx hb dX13_move_54 ?_
      refine lv_topi (fun z83352 ez83352 => ?_)
      have hz83352 : z83352.toInt = 204 + p1.toInt := ar_add ez83352 (by decide : (204 : Int32).toInt = 204) (rfl : p1.toInt = p1.toInt) (by omega) (by omega)
      have rz83352 : 204 ≤ z83352.toInt ∧ z83352.toInt ≤ 209 := by omega
      refine t_ild X hT mb83351 gb83351 rfl (by omega) dX13_move_55 (fun z83353 vz83353 rz83353 => ?_)
      have oz83353 := rz83353
      have rz83353 := rg_all z83353
      refine lv_iload_n hx hb dX13_move_56 rfl (lv_at hl 3 rfl) ?_
      refine lv_icmp_eq (tgt := 95) hx hb dX13_move_57 (by decide) (fun c83354 => ?_) (fun c83354 => ?_)
      · have w83355 := cv_eq (rfl : z83353.toInt = z83353.toInt) (rfl : p2.toInt = p2.toInt) c83354
        refine lv_aload_n hx hb dX13_move_95 rfl (lv_at hl 1 rfl) ?_
        refine lv_iconst (v := 5) hx hb dX13_move_96 (by decide) ?_
        refine t_cVi (n := 1) (C := RX13) (T := TX13) (N := 37) (As := [.int 5]) (rest := []) X hT (km268_X13_denied l G tag L F hT.2.2.2 p0 5 m0 g0) m0 g0 rfl rfl qw_1468 qw_1469 qw_1470 qw_5 qw_1471 ⟨rfl, by decide +kernel, by decide +kernel, by decide +kernel⟩ ⟨Nat.le_of_ble_eq_true rfl, Nat.le_of_ble_eq_true rfl⟩ hl rfl rfl (Nat.le_of_ble_eq_true rfl) dX13_move_97 ⟨Nat.le_of_ble_eq_true rfl, Nat.le_of_ble_eq_true rfl⟩ (fun z83356 F H locs hT hz83356 => ?_)
        obtain ⟨hz83356, yz83356⟩ := hz83356
        have pf0 := (yz83356.1 _ 3 (Or.inr (by decide)) (Or.inr (by decide))).trans pf0
        have v83331 := (yz83356.1 _ 0 (Or.inr (by decide)) (Or.inr (by decide))).trans v83331
        have hv83339 := (yz83356.1 _ 23 (Or.inr (by decide)) (Or.inr (by decide))).trans hv83339
        have vz83341 := (yz83356.2 _ _ ).trans vz83341
        have hv83350 := (yz83356.1 _ 16 (Or.inr (by decide)) (Or.inr (by decide))).trans hv83350
        have vz83353 := (yz83356.2 _ _ ).trans vz83353
        have hfr : (∀ b j : Nat, (tag b ≠ 46 ∨ j ≠ 0) → (tag b ≠ 46 ∨ j ≠ 1) → (tag b ≠ 46 ∨ j ≠ 2) → (tag b ≠ 46 ∨ j ≠ 20) → fld F b j = fld Fo b j) ∧ (∀ b j : Nat, tag b ≠ 37 → tag b ≠ 38 → elm F b j = elm Fo b j) := ⟨fun b j n46_0 n46_1 n46_2 n46_20 => (yz83356.1 b j n46_1 n46_2).trans (hfr.1 b j n46_0 n46_1 n46_2 n46_20), fun b j a37 a38 => (yz83356.2 b j ).trans (hfr.2 b j a37 a38)⟩
        exact t_zret hQ X hT (nar_z (by omega)) (⟨(by omega), hfr⟩) (Nat.le_of_ble_eq_true rfl) (Nat.le_of_ble_eq_true rfl) dX13_move_100
      · have w83357 := cv_ne (rfl : z83353.toInt = z83353.toInt) (rfl : p2.toInt = p2.toInt) c83354
        refine lv_iload_n hx hb dX13_move_60 rfl (lv_at hl 3 rfl) ?_
        refine lv_if_le (tgt := 101) hx hb dX13_move_61 (by decide) (fun c83358 => ?_) (fun c83358 => ?_)
        · have w83359 := cv_le (rfl : p2.toInt = p2.toInt) (by decide : (0 : Int32).toInt = 0) c83358
          refine lv_aload_n hx hb dX13_move_101 rfl (lv_at hl 1 rfl) ?_
          refine t_cVv (n := 0) (C := RX13) (T := TX13) (N := 37) (As := []) (rest := []) X hT (km245_X13_keeps l G tag L F hT.2.2.2 p0 m0 g0) m0 g0 rfl rfl qw_1437 qw_1438 qw_1439 qw_5 qw_1440 ⟨rfl, by decide +kernel, by decide +kernel, by decide +kernel⟩ ⟨Nat.le_of_ble_eq_true rfl, Nat.le_of_ble_eq_true rfl⟩ hl rfl rfl (Nat.le_of_ble_eq_true rfl) dX13_move_102 ⟨Nat.le_of_ble_eq_true rfl, Nat.le_of_ble_eq_true rfl⟩ (fun F H locs hT hz83360 => ?_)
          have yz83360 := hz83360
          have pf0 := (yz83360.1 _ 3 (Or.inr (by decide))).trans pf0
          have v83331 := (yz83360.1 _ 0 (Or.inr (by decide))).trans v83331
          have hv83339 := (yz83360.1 _ 23 (Or.inr (by decide))).trans hv83339
          have vz83341 := (yz83360.2 _ _ (by rw [gb83340]; decide)).trans vz83341
          have hv83350 := (yz83360.1 _ 16 (Or.inr (by decide))).trans hv83350
          have vz83353 := (yz83360.2 _ _ (by rw [gb83351]; decide)).trans vz83353
          have hfr : (∀ b j : Nat, (tag b ≠ 46 ∨ j ≠ 0) → (tag b ≠ 46 ∨ j ≠ 1) → (tag b ≠ 46 ∨ j ≠ 2) → (tag b ≠ 46 ∨ j ≠ 20) → fld F b j = fld Fo b j) ∧ (∀ b j : Nat, tag b ≠ 37 → tag b ≠ 38 → elm F b j = elm Fo b j) := ⟨fun b j n46_0 n46_1 n46_2 n46_20 => (yz83360.1 b j n46_20).trans (hfr.1 b j n46_0 n46_1 n46_2 n46_20), fun b j a37 a38 => (yz83360.2 b j a38).trans (hfr.2 b j a37 a38)⟩
          refine lv_aload_n hx hb dX13_move_105 rfl (lv_at hl 1 rfl) ?_
          refine t_get (C := RX13) (T := TX13) (N := 37) X hT m0 g0 rfl rfl 16 (by decide) qw_112 inlX13 rfl dX13_move_106 (fun v83361 hv83361 ov83361 => ?_)
          obtain rfl : v83361 = .ref b83351 := hv83361.symm.trans hv83350
          refine lv_sipush (v := 204) hx hb dX13_move_109 (by decide) ?_
          refine lv_iload_n hx hb dX13_move_112 rfl (lv_at hl 2 rfl) ?_
          refine lv_iadd hx hb dX13_move_113 ?_
          refine lv_topi (fun z83362 ez83362 => ?_)
          have hz83362 : z83362.toInt = 204 + p1.toInt := ar_add ez83362 (by decide : (204 : Int32).toInt = 204) (rfl : p1.toInt = p1.toInt) (by omega) (by omega)
          have rz83362 : 204 ≤ z83362.toInt ∧ z83362.toInt ≤ 209 := by omega
          refine lv_iload_n hx hb dX13_move_114 rfl (lv_at hl 3 rfl) ?_
          refine t_ist X hT mb83351 gb83351 rfl (by omega) (row_fv (by omega) (Or.inr (Or.inl (by omega)))) dX13_move_115 (fun F H locs hT v83363 h1v83363 h2v83363 => ?_)
          have pf0 := (h2v83363 _ _).trans pf0
          have v83331 := (h2v83363 _ _).trans v83331
          have hv83339 := (h2v83363 _ _).trans hv83339
          have vz83341 := (h1v83363 _ _ (Or.inl (tne gb83340 gb83351 (by decide)))).trans vz83341
          have hv83350 := (h2v83363 _ _).trans hv83350
          have hfr : (∀ b j : Nat, (tag b ≠ 46 ∨ j ≠ 0) → (tag b ≠ 46 ∨ j ≠ 1) → (tag b ≠ 46 ∨ j ≠ 2) → (tag b ≠ 46 ∨ j ≠ 20) → fld F b j = fld Fo b j) ∧ (∀ b j : Nat, tag b ≠ 37 → tag b ≠ 38 → elm F b j = elm Fo b j) := ⟨fun b j n46_0 n46_1 n46_2 n46_20 => (h2v83363 b j).trans (hfr.1 b j n46_0 n46_1 n46_2 n46_20), fun b j a37 a38 => (h1v83363 b j (Or.inl (at_ne gb83351 a37))).trans (hfr.2 b j a37 a38)⟩
          refine lv_aload_n hx hb dX13_move_116 rfl (lv_at hl 1 rfl) ?_
          refine t_cVi (n := 0) (C := RX13) (T := TX13) (N := 37) (As := []) (rest := []) X hT (km269_X13_granted l G tag L F hT.2.2.2 p0 m0 g0) m0 g0 rfl rfl qw_1472 qw_1473 qw_1474 qw_5 qw_1475 ⟨rfl, by decide +kernel, by decide +kernel, by decide +kernel⟩ ⟨Nat.le_of_ble_eq_true rfl, Nat.le_of_ble_eq_true rfl⟩ hl rfl rfl (Nat.le_of_ble_eq_true rfl) dX13_move_117 ⟨Nat.le_of_ble_eq_true rfl, Nat.le_of_ble_eq_true rfl⟩ (fun z83364 F H locs hT hz83364 => ?_)
          obtain ⟨hz83364, yz83364⟩ := hz83364
          have pf0 := (yz83364.1 _ 3 (Or.inr (by decide)) (Or.inr (by decide))).trans pf0
          have v83331 := (yz83364.1 _ 0 (Or.inr (by decide)) (Or.inr (by decide))).trans v83331
          have hv83339 := (yz83364.1 _ 23 (Or.inr (by decide)) (Or.inr (by decide))).trans hv83339
          have vz83341 := (yz83364.2 _ _ ).trans vz83341
          have hv83350 := (yz83364.1 _ 16 (Or.inr (by decide)) (Or.inr (by decide))).trans hv83350
          have v83363 := (yz83364.2 _ _ ).trans v83363
          have hfr : (∀ b j : Nat, (tag b ≠ 46 ∨ j ≠ 0) → (tag b ≠ 46 ∨ j ≠ 1) → (tag b ≠ 46 ∨ j ≠ 2) → (tag b ≠ 46 ∨ j ≠ 20) → fld F b j = fld Fo b j) ∧ (∀ b j : Nat, tag b ≠ 37 → tag b ≠ 38 → elm F b j = elm Fo b j) := ⟨fun b j n46_0 n46_1 n46_2 n46_20 => (yz83364.1 b j n46_1 n46_2).trans (hfr.1 b j n46_0 n46_1 n46_2 n46_20), fun b j a37 a38 => (yz83364.2 b j ).trans (hfr.2 b j a37 a38)⟩
          exact t_zret hQ X hT (nar_z (by omega)) (⟨(by omega), hfr⟩) (Nat.le_of_ble_eq_true rfl) (Nat.le_of_ble_eq_true rfl) dX13_move_120
        · have w83365 := cv_nle (rfl : p2.toInt = p2.toInt) (by decide : (0 : Int32).toInt = 0) c83358
          refine lv_aload_n hx hb dX13_move_64 rfl (lv_at hl 1 rfl) ?_
          refine t_get (C := RX13) (T := TX13) (N := 37) X hT m0 g0 rfl rfl 16 (by decide) qw_112 inlX13 rfl dX13_move_65 (fun v83366 hv83366 ov83366 => ?_)
          obtain rfl : v83366 = .ref b83351 := hv83366.symm.trans hv83350
          refine lv_iload_n hx hb dX13_move_68 rfl (lv_at hl 0 rfl) ?_
          refine lv_iload_n hx hb dX13_move_69 rfl (lv_at hl 3 rfl) ?_
          refine lv_iconst (v := 5) hx hb dX13_move_70 (by decide) ?_
          refine t_cSi (n := 3) (As := [.int z83341, .int p2, .int 5]) (rest := [.ref b83351]) X hT (km49_X13_part l G tag L F hT.2.2.2 z83341 p2 5 (by omega) (by omega) (by decide)) qw_661 qw_662 qw_5 qw_663 ⟨by decide +kernel, by decide +kernel, by decide +kernel⟩ ⟨Nat.le_of_ble_eq_true rfl, Nat.le_of_ble_eq_true rfl⟩ hl rfl rfl (Nat.le_of_ble_eq_true rfl) dX13_move_71 ⟨Nat.le_of_ble_eq_true rfl, Nat.le_of_ble_eq_true rfl⟩ (fun z83367 F9 H locs hT hz83367 => ?_)
          obtain ⟨fz83367, hz83367, xz83367_0⟩ := hz83367
          rw [fz83367] at hT
          have k83368 : (5 : Int32).toInt = 5 := by decide
          refine t_ild X hT mb83351 gb83351 rfl (by omega) dX13_move_74 (fun z83369 vz83369 rz83369 => ?_)
          have oz83369 := rz83369
          have rz83369 := rg_all z83369
          refine lv_iconst (v := 1) hx hb dX13_move_75 (by decide) ?_
          refine lv_icmp_eq (tgt := 95) hx hb dX13_move_76 (by decide) (fun c83370 => ?_) (fun c83370 => ?_)
          · have w83371 := cv_eq (rfl : z83369.toInt = z83369.toInt) (by decide : (1 : Int32).toInt = 1) c83370
            refine lv_aload_n hx hb dX13_move_95 rfl (lv_at hl 1 rfl) ?_
            refine lv_iconst (v := 5) hx hb dX13_move_96 (by decide) ?_
            refine t_cVi (n := 1) (C := RX13) (T := TX13) (N := 37) (As := [.int 5]) (rest := []) X hT (km268_X13_denied l G tag L F hT.2.2.2 p0 5 m0 g0) m0 g0 rfl rfl qw_1468 qw_1469 qw_1470 qw_5 qw_1471 ⟨rfl, by decide +kernel, by decide +kernel, by decide +kernel⟩ ⟨Nat.le_of_ble_eq_true rfl, Nat.le_of_ble_eq_true rfl⟩ hl rfl rfl (Nat.le_of_ble_eq_true rfl) dX13_move_97 ⟨Nat.le_of_ble_eq_true rfl, Nat.le_of_ble_eq_true rfl⟩ (fun z83372 F H locs hT hz83372 => ?_)
            obtain ⟨hz83372, yz83372⟩ := hz83372
            have pf0 := (yz83372.1 _ 3 (Or.inr (by decide)) (Or.inr (by decide))).trans pf0
            have v83331 := (yz83372.1 _ 0 (Or.inr (by decide)) (Or.inr (by decide))).trans v83331
            have hv83339 := (yz83372.1 _ 23 (Or.inr (by decide)) (Or.inr (by decide))).trans hv83339
            have vz83341 := (yz83372.2 _ _ ).trans vz83341
            have hv83350 := (yz83372.1 _ 16 (Or.inr (by decide)) (Or.inr (by decide))).trans hv83350
            have vz83353 := (yz83372.2 _ _ ).trans vz83353
            have vz83369 := (yz83372.2 _ _ ).trans vz83369
            have hfr : (∀ b j : Nat, (tag b ≠ 46 ∨ j ≠ 0) → (tag b ≠ 46 ∨ j ≠ 1) → (tag b ≠ 46 ∨ j ≠ 2) → (tag b ≠ 46 ∨ j ≠ 20) → fld F b j = fld Fo b j) ∧ (∀ b j : Nat, tag b ≠ 37 → tag b ≠ 38 → elm F b j = elm Fo b j) := ⟨fun b j n46_0 n46_1 n46_2 n46_20 => (yz83372.1 b j n46_1 n46_2).trans (hfr.1 b j n46_0 n46_1 n46_2 n46_20), fun b j a37 a38 => (yz83372.2 b j ).trans (hfr.2 b j a37 a38)⟩
            exact t_zret hQ X hT (nar_z (by omega)) (⟨(by omega), hfr⟩) (Nat.le_of_ble_eq_true rfl) (Nat.le_of_ble_eq_true rfl) dX13_move_100
          · have w83373 := cv_ne (rfl : z83369.toInt = z83369.toInt) (by decide : (1 : Int32).toInt = 1) c83370
            refine lv_aload_n hx hb dX13_move_79 rfl (lv_at hl 1 rfl) ?_
            refine t_get (C := RX13) (T := TX13) (N := 37) X hT m0 g0 rfl rfl 16 (by decide) qw_112 inlX13 rfl dX13_move_80 (fun v83374 hv83374 ov83374 => ?_)
            obtain rfl : v83374 = .ref b83351 := hv83374.symm.trans hv83350
            refine lv_iload_n hx hb dX13_move_83 rfl (lv_at hl 0 rfl) ?_
            refine lv_iload_n hx hb dX13_move_84 rfl (lv_at hl 3 rfl) ?_
            refine lv_bipush (v := 6) hx hb dX13_move_85 (by decide) ?_
            refine t_cSi (n := 3) (As := [.int z83341, .int p2, .int 6]) (rest := [.ref b83351]) X hT (km49_X13_part l G tag L F hT.2.2.2 z83341 p2 6 (by omega) (by omega) (by decide)) qw_661 qw_662 qw_5 qw_663 ⟨by decide +kernel, by decide +kernel, by decide +kernel⟩ ⟨Nat.le_of_ble_eq_true rfl, Nat.le_of_ble_eq_true rfl⟩ hl rfl rfl (Nat.le_of_ble_eq_true rfl) dX13_move_87 ⟨Nat.le_of_ble_eq_true rfl, Nat.le_of_ble_eq_true rfl⟩ (fun z83375 F9 H locs hT hz83375 => ?_)
            obtain ⟨fz83375, hz83375, xz83375_0⟩ := hz83375
            rw [fz83375] at hT
            have k83376 : (6 : Int32).toInt = 6 := by decide
            refine t_ild X hT mb83351 gb83351 rfl (by omega) dX13_move_90 (fun z83377 vz83377 rz83377 => ?_)
            have oz83377 := rz83377
            have rz83377 := rg_all z83377
            refine lv_iconst (v := 1) hx hb dX13_move_91 (by decide) ?_
            refine lv_icmp_ne (tgt := 101) hx hb dX13_move_92 (by decide) (fun c83378 => ?_) (fun c83378 => ?_)
            · have w83379 := cv_ne (rfl : z83377.toInt = z83377.toInt) (by decide : (1 : Int32).toInt = 1) c83378
              refine lv_aload_n hx hb dX13_move_101 rfl (lv_at hl 1 rfl) ?_
              refine t_cVv (n := 0) (C := RX13) (T := TX13) (N := 37) (As := []) (rest := []) X hT (km245_X13_keeps l G tag L F hT.2.2.2 p0 m0 g0) m0 g0 rfl rfl qw_1437 qw_1438 qw_1439 qw_5 qw_1440 ⟨rfl, by decide +kernel, by decide +kernel, by decide +kernel⟩ ⟨Nat.le_of_ble_eq_true rfl, Nat.le_of_ble_eq_true rfl⟩ hl rfl rfl (Nat.le_of_ble_eq_true rfl) dX13_move_102 ⟨Nat.le_of_ble_eq_true rfl, Nat.le_of_ble_eq_true rfl⟩ (fun F H locs hT hz83380 => ?_)
              have yz83380 := hz83380
              have pf0 := (yz83380.1 _ 3 (Or.inr (by decide))).trans pf0
              have v83331 := (yz83380.1 _ 0 (Or.inr (by decide))).trans v83331
              have hv83339 := (yz83380.1 _ 23 (Or.inr (by decide))).trans hv83339
              have vz83341 := (yz83380.2 _ _ (by rw [gb83340]; decide)).trans vz83341
              have hv83350 := (yz83380.1 _ 16 (Or.inr (by decide))).trans hv83350
              have vz83353 := (yz83380.2 _ _ (by rw [gb83351]; decide)).trans vz83353
              have vz83369 := (yz83380.2 _ _ (by rw [gb83351]; decide)).trans vz83369
              have vz83377 := (yz83380.2 _ _ (by rw [gb83351]; decide)).trans vz83377
              have hfr : (∀ b j : Nat, (tag b ≠ 46 ∨ j ≠ 0) → (tag b ≠ 46 ∨ j ≠ 1) → (tag b ≠ 46 ∨ j ≠ 2) → (tag b ≠ 46 ∨ j ≠ 20) → fld F b j = fld Fo b j) ∧ (∀ b j : Nat, tag b ≠ 37 → tag b ≠ 38 → elm F b j = elm Fo b j) := ⟨fun b j n46_0 n46_1 n46_2 n46_20 => (yz83380.1 b j n46_20).trans (hfr.1 b j n46_0 n46_1 n46_2 n46_20), fun b j a37 a38 => (yz83380.2 b j a38).trans (hfr.2 b j a37 a38)⟩
              refine lv_aload_n hx hb dX13_move_105 rfl (lv_at hl 1 rfl) ?_
              refine t_get (C := RX13) (T := TX13) (N := 37) X hT m0 g0 rfl rfl 16 (by decide) qw_112 inlX13 rfl dX13_move_106 (fun v83381 hv83381 ov83381 => ?_)
              obtain rfl : v83381 = .ref b83351 := hv83381.symm.trans hv83350
              refine lv_sipush (v := 204) hx hb dX13_move_109 (by decide) ?_
              refine lv_iload_n hx hb dX13_move_112 rfl (lv_at hl 2 rfl) ?_
              refine lv_iadd hx hb dX13_move_113 ?_
              refine lv_topi (fun z83382 ez83382 => ?_)
              have hz83382 : z83382.toInt = 204 + p1.toInt := ar_add ez83382 (by decide : (204 : Int32).toInt = 204) (rfl : p1.toInt = p1.toInt) (by omega) (by omega)
              have rz83382 : 204 ≤ z83382.toInt ∧ z83382.toInt ≤ 209 := by omega
              refine lv_iload_n hx hb dX13_move_114 rfl (lv_at hl 3 rfl) ?_
              refine t_ist X hT mb83351 gb83351 rfl (by omega) (row_fv (by omega) (Or.inr (Or.inl (by omega)))) dX13_move_115 (fun F H locs hT v83383 h1v83383 h2v83383 => ?_)
              have pf0 := (h2v83383 _ _).trans pf0
              have v83331 := (h2v83383 _ _).trans v83331
              have hv83339 := (h2v83383 _ _).trans hv83339
              have vz83341 := (h1v83383 _ _ (Or.inl (tne gb83340 gb83351 (by decide)))).trans vz83341
              have hv83350 := (h2v83383 _ _).trans hv83350
              have vz83369 := (h1v83383 _ _ (Or.inr (ine (by omega) (by omega) (by omega)))).trans vz83369
              have vz83377 := (h1v83383 _ _ (Or.inr (ine (by omega) (by omega) (by omega)))).trans vz83377
              have hfr : (∀ b j : Nat, (tag b ≠ 46 ∨ j ≠ 0) → (tag b ≠ 46 ∨ j ≠ 1) → (tag b ≠ 46 ∨ j ≠ 2) → (tag b ≠ 46 ∨ j ≠ 20) → fld F b j = fld Fo b j) ∧ (∀ b j : Nat, tag b ≠ 37 → tag b ≠ 38 → elm F b j = elm Fo b j) := ⟨fun b j n46_0 n46_1 n46_2 n46_20 => (h2v83383 b j).trans (hfr.1 b j n46_0 n46_1 n46_2 n46_20), fun b j a37 a38 => (h1v83383 b j (Or.inl (at_ne gb83351 a37))).trans (hfr.2 b j a37 a38)⟩
              refine lv_aload_n hx hb dX13_move_116 rfl (lv_at hl 1 rfl) ?_
              refine t_cVi (n := 0) (C := RX13) (T := TX13) (N := 37) (As := []) (rest := []) X hT (km269_X13_granted l G tag L F hT.2.2.2 p0 m0 g0) m0 g0 rfl rfl qw_1472 qw_1473 qw_1474 qw_5 qw_1475 ⟨rfl, by decide +kernel, by decide +kernel, by decide +kernel⟩ ⟨Nat.le_of_ble_eq_true rfl, Nat.le_of_ble_eq_true rfl⟩ hl rfl rfl (Nat.le_of_ble_eq_true rfl) dX13_move_117 ⟨Nat.le_of_ble_eq_true rfl, Nat.le_of_ble_eq_true rfl⟩ (fun z83384 F H locs hT hz83384 => ?_)
              obtain ⟨hz83384, yz83384⟩ := hz83384
              have pf0 := (yz83384.1 _ 3 (Or.inr (by decide)) (Or.inr (by decide))).trans pf0
              have v83331 := (yz83384.1 _ 0 (Or.inr (by decide)) (Or.inr (by decide))).trans v83331
              have hv83339 := (yz83384.1 _ 23 (Or.inr (by decide)) (Or.inr (by decide))).trans hv83339
              have vz83341 := (yz83384.2 _ _ ).trans vz83341
              have hv83350 := (yz83384.1 _ 16 (Or.inr (by decide)) (Or.inr (by decide))).trans hv83350
              have vz83369 := (yz83384.2 _ _ ).trans vz83369
              have vz83377 := (yz83384.2 _ _ ).trans vz83377
              have v83383 := (yz83384.2 _ _ ).trans v83383
              have hfr : (∀ b j : Nat, (tag b ≠ 46 ∨ j ≠ 0) → (tag b ≠ 46 ∨ j ≠ 1) → (tag b ≠ 46 ∨ j ≠ 2) → (tag b ≠ 46 ∨ j ≠ 20) → fld F b j = fld Fo b j) ∧ (∀ b j : Nat, tag b ≠ 37 → tag b ≠ 38 → elm F b j = elm Fo b j) := ⟨fun b j n46_0 n46_1 n46_2 n46_20 => (yz83384.1 b j n46_1 n46_2).trans (hfr.1 b j n46_0 n46_1 n46_2 n46_20), fun b j a37 a38 => (yz83384.2 b j ).trans (hfr.2 b j a37 a38)⟩
              exact t_zret hQ X hT (nar_z (by omega)) (⟨(by omega), hfr⟩) (Nat.le_of_ble_eq_true rfl) (Nat.le_of_ble_eq_true rfl) dX13_move_120
            · have w83385 := cv_eq (rfl : z83377.toInt = z83377.toInt) (by decide : (1 : Int32).toInt = 1) c83378
              refine lv_aload_n hx hb dX13_move_95 rfl (lv_at hl 1 rfl) ?_
              refine lv_iconst (v := 5) hx hb dX13_move_96 (by decide) ?_
              refine t_cVi (n := 1) (C := RX13) (T := TX13) (N := 37) (As := [.int 5]) (rest := []) X hT (km268_X13_denied l G tag L F hT.2.2.2 p0 5 m0 g0) m0 g0 rfl rfl qw_1468 qw_1469 qw_1470 qw_5 qw_1471 ⟨rfl, by decide +kernel, by decide +kernel, by decide +kernel⟩ ⟨Nat.le_of_ble_eq_true rfl, Nat.le_of_ble_eq_true rfl⟩ hl rfl rfl (Nat.le_of_ble_eq_true rfl) dX13_move_97 ⟨Nat.le_of_ble_eq_true rfl, Nat.le_of_ble_eq_true rfl⟩ (fun z83386 F H locs hT hz83386 => ?_)
              obtain ⟨hz83386, yz83386⟩ := hz83386
              have pf0 := (yz83386.1 _ 3 (Or.inr (by decide)) (Or.inr (by decide))).trans pf0
              have v83331 := (yz83386.1 _ 0 (Or.inr (by decide)) (Or.inr (by decide))).trans v83331
              have hv83339 := (yz83386.1 _ 23 (Or.inr (by decide)) (Or.inr (by decide))).trans hv83339
              have vz83341 := (yz83386.2 _ _ ).trans vz83341
              have hv83350 := (yz83386.1 _ 16 (Or.inr (by decide)) (Or.inr (by decide))).trans hv83350
              have vz83353 := (yz83386.2 _ _ ).trans vz83353
              have vz83369 := (yz83386.2 _ _ ).trans vz83369
              have vz83377 := (yz83386.2 _ _ ).trans vz83377
              have hfr : (∀ b j : Nat, (tag b ≠ 46 ∨ j ≠ 0) → (tag b ≠ 46 ∨ j ≠ 1) → (tag b ≠ 46 ∨ j ≠ 2) → (tag b ≠ 46 ∨ j ≠ 20) → fld F b j = fld Fo b j) ∧ (∀ b j : Nat, tag b ≠ 37 → tag b ≠ 38 → elm F b j = elm Fo b j) := ⟨fun b j n46_0 n46_1 n46_2 n46_20 => (yz83386.1 b j n46_1 n46_2).trans (hfr.1 b j n46_0 n46_1 n46_2 n46_20), fun b j a37 a38 => (yz83386.2 b j ).trans (hfr.2 b j a37 a38)⟩
              exact t_zret hQ X hT (nar_z (by omega)) (⟨(by omega), hfr⟩) (Nat.le_of_ble_eq_true rfl) (Nat.le_of_ble_eq_true rfl) dX13_move_100
    · have w83387 := cv_eq (rfl : z83342.toInt = z83342.toInt) (by decide : (0 : Int32).toInt = 0) c83343
      refine lv_aload_n hx hb dX13_move_30 rfl (lv_at hl 0 rfl) ?_
      refine lv_iconst (v := 1) hx hb dX13_move_31 (by decide) ?_
      refine t_cVi (n := 1) (C := RX13) (T := TX13) (N := 37) (As := [.int 1]) (rest := []) X hT (km268_X13_denied l G tag L F hT.2.2.2 p0 1 m0 g0) m0 g0 rfl rfl qw_1468 qw_1469 qw_1470 qw_5 qw_1471 ⟨rfl, by decide +kernel, by decide +kernel, by decide +kernel⟩ ⟨Nat.le_of_ble_eq_true rfl, Nat.le_of_ble_eq_true rfl⟩ hl rfl rfl (Nat.le_of_ble_eq_true rfl) dX13_move_32 ⟨Nat.le_of_ble_eq_true rfl, Nat.le_of_ble_eq_true rfl⟩ (fun z83388 F H locs hT hz83388 => ?_)
      obtain ⟨hz83388, yz83388⟩ := hz83388
      have pf0 := (yz83388.1 _ 3 (Or.inr (by decide)) (Or.inr (by decide))).trans pf0
      have v83331 := (yz83388.1 _ 0 (Or.inr (by decide)) (Or.inr (by decide))).trans v83331
      have hv83339 := (yz83388.1 _ 23 (Or.inr (by decide)) (Or.inr (by decide))).trans hv83339
      have vz83341 := (yz83388.2 _ _ ).trans vz83341
      have hfr : (∀ b j : Nat, (tag b ≠ 46 ∨ j ≠ 0) → (tag b ≠ 46 ∨ j ≠ 1) → (tag b ≠ 46 ∨ j ≠ 2) → (tag b ≠ 46 ∨ j ≠ 20) → fld F b j = fld Fo b j) ∧ (∀ b j : Nat, tag b ≠ 37 → tag b ≠ 38 → elm F b j = elm Fo b j) := ⟨fun b j n46_0 n46_1 n46_2 n46_20 => (yz83388.1 b j n46_1 n46_2).trans (hfr.1 b j n46_0 n46_1 n46_2 n46_20), fun b j a37 a38 => (yz83388.2 b j ).trans (hfr.2 b j a37 a38)⟩
      exact t_zret hQ X hT (nar_z (by omega)) (⟨(by omega), hfr⟩) (Nat.le_of_ble_eq_true rfl) (Nat.le_of_ble_eq_true rfl) dX13_move_35
set_option maxHeartbeats 4000000 in
set_option maxRecDepth 100000 in
theorem km277_X13_move (l : Launch) (G : KG) (tag : Nat → Nat) (L : List Nat) (Fo : Nat → va_E) (ho : okT G ttC tag L Fo) (p0 : Nat) (p1 : Int32) (p2 : Int32) (m0 : p0 ∈ L) (g0 : tag p0 = 46) (pf0 : fld Fo p0 3 = .null) : TMi l yX13_move cX13_move 4 (some .boolean) { frames := 2, cells := 0, slots := 0, locals := 43 } G ttC tag L Fo [.ref p0, .int p1, .int p2] (fun r F1 => (0 ≤ r.toInt ∧ r.toInt ≤ 1) ∧ ((∀ b j : Nat, (tag b ≠ 46 ∨ j ≠ 0) → (tag b ≠ 46 ∨ j ≠ 1) → (tag b ≠ 46 ∨ j ≠ 2) → (tag b ≠ 46 ∨ j ≠ 20) → fld F1 b j = fld Fo b j) ∧ (∀ b j : Nat, tag b ≠ 37 → tag b ≠ 38 → elm F1 b j = elm Fo b j))) := by
  refine t_bodyi (y := yX13_move) (cd := cX13_move) (mL := 4) (rt := (some .boolean)) (rm := { frames := 2, cells := 0, slots := 0, locals := 43 }) (av := [.ref p0, .int p1, .int p2]) (by decide) (Nat.le_of_ble_eq_true rfl) ho ?_
  intro p e s m args below meth c ls A Q hQ X hT hl
  have hx := X.1.1
  have hb := X.1.2.1
  have hl : lv_has ls 4 [(0, .ref p0), (1, .int p1), (2, .int p2)] := hl
  have rp1 := rg_all p1
  have rp2 := rg_all p2
  obtain ⟨F, hFo⟩ : ∃ F : Nat → va_E, F = Fo := ⟨_, rfl⟩
  rw [← hFo] at hT pf0
  have hfr : (∀ b j : Nat, (tag b ≠ 46 ∨ j ≠ 0) → (tag b ≠ 46 ∨ j ≠ 1) → (tag b ≠ 46 ∨ j ≠ 2) → (tag b ≠ 46 ∨ j ≠ 20) → fld F b j = fld Fo b j) ∧ (∀ b j : Nat, tag b ≠ 37 → tag b ≠ 38 → elm F b j = elm Fo b j) := by
    rw [hFo]
    exact ⟨by intros; rfl, by intros; rfl⟩
  refine lv_aload_n hx hb dX13_move_0 rfl (lv_at hl 0 rfl) ?_
  refine lv_iconst (v := 0) hx hb dX13_move_1 (by decide) ?_
  refine t_put (C := RX13) (T := TX13) (N := 37) (v := .int 0) X hT m0 g0 rfl tyX13 tyX13_ok nmX13 rfl 0 (by decide) qw_140 inlX13 rfl (by first | rfl | decide) (by first | rfl | decide) rfl (⟨_, rfl, (show (-2147483648) ≤ (0 : Int32).toInt from (by decide)), (show (0 : Int32).toInt ≤ 2147483647 from (by decide))⟩) dX13_move_2 (fun F H locs hT v83455 h1v83455 h2v83455 => ?_)
  have pf0 := (h1v83455 _ _ (Or.inr (by decide))).trans pf0
  have hfr : (∀ b j : Nat, (tag b ≠ 46 ∨ j ≠ 0) → (tag b ≠ 46 ∨ j ≠ 1) → (tag b ≠ 46 ∨ j ≠ 2) → (tag b ≠ 46 ∨ j ≠ 20) → fld F b j = fld Fo b j) ∧ (∀ b j : Nat, tag b ≠ 37 → tag b ≠ 38 → elm F b j = elm Fo b j) := ⟨fun b j n46_0 n46_1 n46_2 n46_20 => (h1v83455 b j (fr_ne g0 n46_0)).trans (hfr.1 b j n46_0 n46_1 n46_2 n46_20), fun b j a37 a38 => (h2v83455 b j).trans (hfr.2 b j a37 a38)⟩
  refine lv_aload_n hx hb dX13_move_5 rfl (lv_at hl 0 rfl) ?_
  refine lv_iload_n hx hb dX13_move_6 rfl (lv_at hl 1 rfl) ?_
  refine t_cVi (n := 1) (C := RX13) (T := TX13) (N := 37) (As := [.int p1]) (rest := []) X hT (km135_X13_isHeir l G tag L F hT.2.2.2 p0 p1 m0 g0 pf0) m0 g0 rfl rfl qw_896 qw_897 qw_898 qw_5 qw_899 ⟨rfl, by decide +kernel, by decide +kernel, by decide +kernel⟩ ⟨Nat.le_of_ble_eq_true rfl, Nat.le_of_ble_eq_true rfl⟩ hl rfl rfl (Nat.le_of_ble_eq_true rfl) dX13_move_7 ⟨Nat.le_of_ble_eq_true rfl, Nat.le_of_ble_eq_true rfl⟩ (fun z83456 F9 H locs hT hz83456 => ?_)
  obtain ⟨fz83456, hz83456⟩ := hz83456
  rw [fz83456] at hT
  refine lv_if_eq (tgt := 30) hx hb dX13_move_10 (by decide) (fun c83457 => ?_) (fun c83457 => ?_)
  · have w83458 := cv_eq (rfl : z83456.toInt = z83456.toInt) (by decide : (0 : Int32).toInt = 0) c83457
    refine lv_aload_n hx hb dX13_move_30 rfl (lv_at hl 0 rfl) ?_
    refine lv_iconst (v := 1) hx hb dX13_move_31 (by decide) ?_
    refine t_cVi (n := 1) (C := RX13) (T := TX13) (N := 37) (As := [.int 1]) (rest := []) X hT (km268_X13_denied l G tag L F hT.2.2.2 p0 1 m0 g0) m0 g0 rfl rfl qw_1468 qw_1469 qw_1470 qw_5 qw_1471 ⟨rfl, by decide +kernel, by decide +kernel, by decide +kernel⟩ ⟨Nat.le_of_ble_eq_true rfl, Nat.le_of_ble_eq_true rfl⟩ hl rfl rfl (Nat.le_of_ble_eq_true rfl) dX13_move_32 ⟨Nat.le_of_ble_eq_true rfl, Nat.le_of_ble_eq_true rfl⟩ (fun z83459 F H locs hT hz83459 => ?_)
    obtain ⟨hz83459, yz83459⟩ := hz83459
    have pf0 := (yz83459.1 _ 3 (Or.inr (by decide)) (Or.inr (by decide))).trans pf0
    have v83455 := (yz83459.1 _ 0 (Or.inr (by decide)) (Or.inr (by decide))).trans v83455
    have hfr : (∀ b j : Nat, (tag b ≠ 46 ∨ j ≠ 0) → (tag b ≠ 46 ∨ j ≠ 1) → (tag b ≠ 46 ∨ j ≠ 2) → (tag b ≠ 46 ∨ j ≠ 20) → fld F b j = fld Fo b j) ∧ (∀ b j : Nat, tag b ≠ 37 → tag b ≠ 38 → elm F b j = elm Fo b j) := ⟨fun b j n46_0 n46_1 n46_2 n46_20 => (yz83459.1 b j n46_1 n46_2).trans (hfr.1 b j n46_0 n46_1 n46_2 n46_20), fun b j a37 a38 => (yz83459.2 b j ).trans (hfr.2 b j a37 a38)⟩
    exact t_zret hQ X hT (nar_z (by omega)) (⟨(by omega), hfr⟩) (Nat.le_of_ble_eq_true rfl) (Nat.le_of_ble_eq_true rfl) dX13_move_35
  · have w83460 := cv_ne (rfl : z83456.toInt = z83456.toInt) (by decide : (0 : Int32).toInt = 0) c83457
    exfalso
    omega
theorem kp_X13_move (l : Launch) (G : KG) (tag : Nat → Nat) (L : List Nat) (Fo : Nat → va_E) (ho : okT G ttC tag L Fo) (p0 : Nat) (p1 : Int32) (p2 : Int32) (m0 : p0 ∈ L) (g0 : tag p0 = 46) : TMi l yX13_move cX13_move 4 (some .boolean) { frames := 2, cells := 0, slots := 0, locals := 43 } G ttC tag L Fo [.ref p0, .int p1, .int p2] (fun r F1 => (0 ≤ r.toInt ∧ r.toInt ≤ 1) ∧ ((∀ b j : Nat, (tag b ≠ 46 ∨ j ≠ 0) → (tag b ≠ 46 ∨ j ≠ 1) → (tag b ≠ 46 ∨ j ≠ 2) → (tag b ≠ 46 ∨ j ≠ 20) → fld F1 b j = fld Fo b j) ∧ (∀ b j : Nat, tag b ≠ 37 → tag b ≠ 38 → elm F1 b j = elm Fo b j))) := by
  rcases t_fldn ho m0 g0 rfl 3 rfl with h9 | ⟨b9, h9, m9, t9⟩
  · exact km277_X13_move l G tag L Fo ho p0 p1 p2  m0 g0 h9 
  · exact km276_X13_move l G tag L Fo ho p0 p1 p2 b9  m0 g0 m9 (tg_of t9) h9 
set_option maxHeartbeats 4000000 in
set_option maxRecDepth 100000 in
theorem km279_X13_give (l : Launch) (G : KG) (tag : Nat → Nat) (L : List Nat) (Fo : Nat → va_E) (ho : okT G ttC tag L Fo) (p0 : Nat) (p1 : Int32) (p2 : Int32) (p3 : Int32) (x0 : Nat) (m0 : p0 ∈ L) (g0 : tag p0 = 46) (mx0 : x0 ∈ L) (gx0 : tag x0 = 45) (pf0 : fld Fo p0 3 = .ref x0) : TMi l yX13_give cX13_give 4 (some .boolean) { frames := 2, cells := 0, slots := 0, locals := 42 } G ttC tag L Fo [.ref p0, .int p1, .int p2, .int p3] (fun r F1 => (0 ≤ r.toInt ∧ r.toInt ≤ 1) ∧ ((∀ b j : Nat, (tag b ≠ 46 ∨ j ≠ 0) → (tag b ≠ 46 ∨ j ≠ 1) → (tag b ≠ 46 ∨ j ≠ 2) → (tag b ≠ 46 ∨ j ≠ 20) → fld F1 b j = fld Fo b j) ∧ (∀ b j : Nat, tag b ≠ 37 → tag b ≠ 38 → elm F1 b j = elm Fo b j))) := by
  refine t_bodyi (y := yX13_give) (cd := cX13_give) (mL := 4) (rt := (some .boolean)) (rm := { frames := 2, cells := 0, slots := 0, locals := 42 }) (av := [.ref p0, .int p1, .int p2, .int p3]) (by decide) (Nat.le_of_ble_eq_true rfl) ho ?_
  intro p e s m args below meth c ls A Q hQ X hT hl
  have hx := X.1.1
  have hb := X.1.2.1
  have hl : lv_has ls 4 [(0, .ref p0), (1, .int p1), (2, .int p2), (3, .int p3)] := hl
  have rp1 := rg_all p1
  have rp2 := rg_all p2
  have rp3 := rg_all p3
  obtain ⟨F, hFo⟩ : ∃ F : Nat → va_E, F = Fo := ⟨_, rfl⟩
  rw [← hFo] at hT pf0
  have hfr : (∀ b j : Nat, (tag b ≠ 46 ∨ j ≠ 0) → (tag b ≠ 46 ∨ j ≠ 1) → (tag b ≠ 46 ∨ j ≠ 2) → (tag b ≠ 46 ∨ j ≠ 20) → fld F b j = fld Fo b j) ∧ (∀ b j : Nat, tag b ≠ 37 → tag b ≠ 38 → elm F b j = elm Fo b j) := by
    rw [hFo]
    exact ⟨by intros; rfl, by intros; rfl⟩
  refine lv_aload_n hx hb dX13_give_0 rfl (lv_at hl 0 rfl) ?_
  refine lv_iconst (v := 0) hx hb dX13_give_1 (by decide) ?_
  refine t_put (C := RX13) (T := TX13) (N := 37) (v := .int 0) X hT m0 g0 rfl tyX13 tyX13_ok nmX13 rfl 0 (by decide) qw_140 inlX13 rfl (by first | rfl | decide) (by first | rfl | decide) rfl (⟨_, rfl, (show (-2147483648) ≤ (0 : Int32).toInt from (by decide)), (show (0 : Int32).toInt ≤ 2147483647 from (by decide))⟩) dX13_give_2 (fun F H locs hT v83989 h1v83989 h2v83989 => ?_)
  have pf0 := (h1v83989 _ _ (Or.inr (by decide))).trans pf0
  have hfr : (∀ b j : Nat, (tag b ≠ 46 ∨ j ≠ 0) → (tag b ≠ 46 ∨ j ≠ 1) → (tag b ≠ 46 ∨ j ≠ 2) → (tag b ≠ 46 ∨ j ≠ 20) → fld F b j = fld Fo b j) ∧ (∀ b j : Nat, tag b ≠ 37 → tag b ≠ 38 → elm F b j = elm Fo b j) := ⟨fun b j n46_0 n46_1 n46_2 n46_20 => (h1v83989 b j (fr_ne g0 n46_0)).trans (hfr.1 b j n46_0 n46_1 n46_2 n46_20), fun b j a37 a38 => (h2v83989 b j).trans (hfr.2 b j a37 a38)⟩
  refine lv_aload_n hx hb dX13_give_5 rfl (lv_at hl 0 rfl) ?_
  refine lv_iload_n hx hb dX13_give_6 rfl (lv_at hl 1 rfl) ?_
  refine t_cVi (n := 1) (C := RX13) (T := TX13) (N := 37) (As := [.int p1]) (rest := []) X hT (km107_X13_isHouse l G tag L F hT.2.2.2 p0 p1 x0 m0 g0 mx0 gx0 pf0) m0 g0 rfl rfl qw_796 qw_797 qw_798 qw_5 qw_799 ⟨rfl, by decide +kernel, by decide +kernel, by decide +kernel⟩ ⟨Nat.le_of_ble_eq_true rfl, Nat.le_of_ble_eq_true rfl⟩ hl rfl rfl (Nat.le_of_ble_eq_true rfl) dX13_give_7 ⟨Nat.le_of_ble_eq_true rfl, Nat.le_of_ble_eq_true rfl⟩ (fun z83990 F9 H locs hT hz83990 => ?_)
  obtain ⟨fz83990, hz83990⟩ := hz83990
  rw [fz83990] at hT
  obtain ⟨hz83990, iz83990⟩ := hz83990
  refine lv_if_eq (tgt := 26) hx hb dX13_give_10 (by decide) (fun c83991 => ?_) (fun c83991 => ?_)
  · have w83992 := cv_eq (rfl : z83990.toInt = z83990.toInt) (by decide : (0 : Int32).toInt = 0) c83991
    refine lv_aload_n hx hb dX13_give_26 rfl (lv_at hl 0 rfl) ?_
    refine lv_iconst (v := 1) hx hb dX13_give_27 (by decide) ?_
    refine t_cVi (n := 1) (C := RX13) (T := TX13) (N := 37) (As := [.int 1]) (rest := []) X hT (km268_X13_denied l G tag L F hT.2.2.2 p0 1 m0 g0) m0 g0 rfl rfl qw_1468 qw_1469 qw_1470 qw_5 qw_1471 ⟨rfl, by decide +kernel, by decide +kernel, by decide +kernel⟩ ⟨Nat.le_of_ble_eq_true rfl, Nat.le_of_ble_eq_true rfl⟩ hl rfl rfl (Nat.le_of_ble_eq_true rfl) dX13_give_28 ⟨Nat.le_of_ble_eq_true rfl, Nat.le_of_ble_eq_true rfl⟩ (fun z83993 F H locs hT hz83993 => ?_)
    obtain ⟨hz83993, yz83993⟩ := hz83993
    have pf0 := (yz83993.1 _ 3 (Or.inr (by decide)) (Or.inr (by decide))).trans pf0
    have v83989 := (yz83993.1 _ 0 (Or.inr (by decide)) (Or.inr (by decide))).trans v83989
    have hfr : (∀ b j : Nat, (tag b ≠ 46 ∨ j ≠ 0) → (tag b ≠ 46 ∨ j ≠ 1) → (tag b ≠ 46 ∨ j ≠ 2) → (tag b ≠ 46 ∨ j ≠ 20) → fld F b j = fld Fo b j) ∧ (∀ b j : Nat, tag b ≠ 37 → tag b ≠ 38 → elm F b j = elm Fo b j) := ⟨fun b j n46_0 n46_1 n46_2 n46_20 => (yz83993.1 b j n46_1 n46_2).trans (hfr.1 b j n46_0 n46_1 n46_2 n46_20), fun b j a37 a38 => (yz83993.2 b j ).trans (hfr.2 b j a37 a38)⟩
    exact t_zret hQ X hT (nar_z (by omega)) (⟨(by omega), hfr⟩) (Nat.le_of_ble_eq_true rfl) (Nat.le_of_ble_eq_true rfl) dX13_give_31
  · have w83994 := cv_ne (rfl : z83990.toInt = z83990.toInt) (by decide : (0 : Int32).toInt = 0) c83991
    have w83995 := (fun h => (iz83990 h)) (by omega)
    refine lv_aload_n hx hb dX13_give_13 rfl (lv_at hl 0 rfl) ?_
    refine lv_iload_n hx hb dX13_give_14 rfl (lv_at hl 2 rfl) ?_
    refine t_cVi (n := 1) (C := RX13) (T := TX13) (N := 37) (As := [.int p2]) (rest := []) X hT (km107_X13_isHouse l G tag L F hT.2.2.2 p0 p2 x0 m0 g0 mx0 gx0 pf0) m0 g0 rfl rfl qw_796 qw_797 qw_798 qw_5 qw_799 ⟨rfl, by decide +kernel, by decide +kernel, by decide +kernel⟩ ⟨Nat.le_of_ble_eq_true rfl, Nat.le_of_ble_eq_true rfl⟩ hl rfl rfl (Nat.le_of_ble_eq_true rfl) dX13_give_15 ⟨Nat.le_of_ble_eq_true rfl, Nat.le_of_ble_eq_true rfl⟩ (fun z83996 F9 H locs hT hz83996 => ?_)
    obtain ⟨fz83996, hz83996⟩ := hz83996
    rw [fz83996] at hT
    obtain ⟨hz83996, iz83996⟩ := hz83996
    refine lv_if_eq (tgt := 26) hx hb dX13_give_18 (by decide) (fun c83997 => ?_) (fun c83997 => ?_)
    · have w83998 := cv_eq (rfl : z83996.toInt = z83996.toInt) (by decide : (0 : Int32).toInt = 0) c83997
      refine lv_aload_n hx hb dX13_give_26 rfl (lv_at hl 0 rfl) ?_
      refine lv_iconst (v := 1) hx hb dX13_give_27 (by decide) ?_
      refine t_cVi (n := 1) (C := RX13) (T := TX13) (N := 37) (As := [.int 1]) (rest := []) X hT (km268_X13_denied l G tag L F hT.2.2.2 p0 1 m0 g0) m0 g0 rfl rfl qw_1468 qw_1469 qw_1470 qw_5 qw_1471 ⟨rfl, by decide +kernel, by decide +kernel, by decide +kernel⟩ ⟨Nat.le_of_ble_eq_true rfl, Nat.le_of_ble_eq_true rfl⟩ hl rfl rfl (Nat.le_of_ble_eq_true rfl) dX13_give_28 ⟨Nat.le_of_ble_eq_true rfl, Nat.le_of_ble_eq_true rfl⟩ (fun z83999 F H locs hT hz83999 => ?_)
      obtain ⟨hz83999, yz83999⟩ := hz83999
      have pf0 := (yz83999.1 _ 3 (Or.inr (by decide)) (Or.inr (by decide))).trans pf0
      have v83989 := (yz83999.1 _ 0 (Or.inr (by decide)) (Or.inr (by decide))).trans v83989
      have hfr : (∀ b j : Nat, (tag b ≠ 46 ∨ j ≠ 0) → (tag b ≠ 46 ∨ j ≠ 1) → (tag b ≠ 46 ∨ j ≠ 2) → (tag b ≠ 46 ∨ j ≠ 20) → fld F b j = fld Fo b j) ∧ (∀ b j : Nat, tag b ≠ 37 → tag b ≠ 38 → elm F b j = elm Fo b j) := ⟨fun b j n46_0 n46_1 n46_2 n46_20 => (yz83999.1 b j n46_1 n46_2).trans (hfr.1 b j n46_0 n46_1 n46_2 n46_20), fun b j a37 a38 => (yz83999.2 b j ).trans (hfr.2 b j a37 a38)⟩
      exact t_zret hQ X hT (nar_z (by omega)) (⟨(by omega), hfr⟩) (Nat.le_of_ble_eq_true rfl) (Nat.le_of_ble_eq_true rfl) dX13_give_31
    · have w84000 := cv_ne (rfl : z83996.toInt = z83996.toInt) (by decide : (0 : Int32).toInt = 0) c83997
      have w84001 := (fun h => (iz83996 h)) (by omega)
      refine lv_iload_n hx hb dX13_give_21 rfl (lv_at hl 1 rfl) ?_
      refine lv_iload_n hx hb dX13_give_22 rfl (lv_at hl 2 rfl) ?_
      refine lv_icmp_ne (tgt := 32) hx hb dX13_give_23 (by decide) (fun c84002 => ?_) (fun c84002 => ?_)
      · have w84003 := cv_ne (rfl : p1.toInt = p1.toInt) (rfl : p2.toInt = p2.toInt) c84002
        refine lv_iload_n hx hb dX13_give_32 rfl (lv_at hl 3 rfl) ?_
        refine lv_iconst (v := 1) hx hb dX13_give_33 (by decide) ?_
        refine lv_aload_n hx hb dX13_give_34 rfl (lv_at hl 0 rfl) ?_
        refine t_get (C := RX13) (T := TX13) (N := 37) X hT m0 g0 rfl rfl 16 (by decide) qw_112 inlX13 rfl dX13_give_35 (fun v84004 hv84004 ov84004 => ?_)
        obtain ⟨b84005, rfl, mb84005, gb84005⟩ := okV_r ov84004
        have gb84005 : tag b84005 = 37 := tg_of gb84005
        refine lv_bipush (v := 8) hx hb dX13_give_38 (by decide) ?_
        refine lv_iload_n hx hb dX13_give_40 rfl (lv_at hl 1 rfl) ?_
        refine lv_iadd hx hb dX13_give_41 ?_
        refine lv_topi (fun z84006 ez84006 => ?_)
        have hz84006 : z84006.toInt = 8 + p1.toInt := ar_add ez84006 (by decide : (8 : Int32).toInt = 8) (rfl : p1.toInt = p1.toInt) (by omega) (by omega)
        have rz84006 : 8 ≤ z84006.toInt ∧ z84006.toInt ≤ 11 := by omega
        refine t_ild X hT mb84005 gb84005 rfl (by omega) dX13_give_42 (fun z84007 vz84007 rz84007 => ?_)
        have oz84007 := rz84007
        have rz84007 := rg_all z84007
        refine t_cSi (n := 3) (As := [.int p3, .int 1, .int z84007]) (rest := []) X hT (km19_X13_within l G tag L F hT.2.2.2 p3 1 z84007 ) qw_568 qw_569 qw_5 qw_570 ⟨by decide +kernel, by decide +kernel, by decide +kernel⟩ ⟨Nat.le_of_ble_eq_true rfl, Nat.le_of_ble_eq_true rfl⟩ hl rfl rfl (Nat.le_of_ble_eq_true rfl) dX13_give_43 ⟨Nat.le_of_ble_eq_true rfl, Nat.le_of_ble_eq_true rfl⟩ (fun z84008 F9 H locs hT hz84008 => ?_)
        obtain ⟨fz84008, hz84008, xz84008_0⟩ := hz84008
        rw [fz84008] at hT
        have k84009 : (1 : Int32).toInt = 1 := by decide
        refine lv_if_eq (tgt := 66) hx hb dX13_give_46 (by decide) (fun c84010 => ?_) (fun c84010 => ?_)
        · have w84011 := cv_eq (rfl : z84008.toInt = z84008.toInt) (by decide : (0 : Int32).toInt = 0) c84010
          refine lv_aload_n hx hb dX13_give_66 rfl (lv_at hl 0 rfl) ?_
          refine lv_iconst (v := 2) hx hb dX13_give_67 (by decide) ?_
          refine t_cVi (n := 1) (C := RX13) (T := TX13) (N := 37) (As := [.int 2]) (rest := []) X hT (km268_X13_denied l G tag L F hT.2.2.2 p0 2 m0 g0) m0 g0 rfl rfl qw_1468 qw_1469 qw_1470 qw_5 qw_1471 ⟨rfl, by decide +kernel, by decide +kernel, by decide +kernel⟩ ⟨Nat.le_of_ble_eq_true rfl, Nat.le_of_ble_eq_true rfl⟩ hl rfl rfl (Nat.le_of_ble_eq_true rfl) dX13_give_68 ⟨Nat.le_of_ble_eq_true rfl, Nat.le_of_ble_eq_true rfl⟩ (fun z84012 F H locs hT hz84012 => ?_)
          obtain ⟨hz84012, yz84012⟩ := hz84012
          have pf0 := (yz84012.1 _ 3 (Or.inr (by decide)) (Or.inr (by decide))).trans pf0
          have v83989 := (yz84012.1 _ 0 (Or.inr (by decide)) (Or.inr (by decide))).trans v83989
          have hv84004 := (yz84012.1 _ 16 (Or.inr (by decide)) (Or.inr (by decide))).trans hv84004
          have vz84007 := (yz84012.2 _ _ ).trans vz84007
          have hfr : (∀ b j : Nat, (tag b ≠ 46 ∨ j ≠ 0) → (tag b ≠ 46 ∨ j ≠ 1) → (tag b ≠ 46 ∨ j ≠ 2) → (tag b ≠ 46 ∨ j ≠ 20) → fld F b j = fld Fo b j) ∧ (∀ b j : Nat, tag b ≠ 37 → tag b ≠ 38 → elm F b j = elm Fo b j) := ⟨fun b j n46_0 n46_1 n46_2 n46_20 => (yz84012.1 b j n46_1 n46_2).trans (hfr.1 b j n46_0 n46_1 n46_2 n46_20), fun b j a37 a38 => (yz84012.2 b j ).trans (hfr.2 b j a37 a38)⟩
          exact t_zret hQ X hT (nar_z (by omega)) (⟨(by omega), hfr⟩) (Nat.le_of_ble_eq_true rfl) (Nat.le_of_ble_eq_true rfl) dX13_give_71
        · have w84013 := cv_ne (rfl : z84008.toInt = z84008.toInt) (by decide : (0 : Int32).toInt = 0) c84010
          have w84014 := xz84008_0 (by omega)
          refine lv_aload_n hx hb dX13_give_49 rfl (lv_at hl 0 rfl) ?_
          refine t_get (C := RX13) (T := TX13) (N := 37) X hT m0 g0 rfl rfl 16 (by decide) qw_112 inlX13 rfl dX13_give_50 (fun v84015 hv84015 ov84015 => ?_)
          obtain rfl : v84015 = .ref b84005 := hv84015.symm.trans hv84004
          refine lv_bipush (v := 8) hx hb dX13_give_53 (by decide) ?_
          refine lv_iload_n hx hb dX13_give_55 rfl (lv_at hl 2 rfl) ?_
          refine lv_iadd hx hb dX13_give_56 ?_
          refine lv_topi (fun z84016 ez84016 => ?_)
          have hz84016 : z84016.toInt = 8 + p2.toInt := ar_add ez84016 (by decide : (8 : Int32).toInt = 8) (rfl : p2.toInt = p2.toInt) (by omega) (by omega)
          have rz84016 : 8 ≤ z84016.toInt ∧ z84016.toInt ≤ 11 := by omega
          refine t_ild X hT mb84005 gb84005 rfl (by omega) dX13_give_57 (fun z84017 vz84017 rz84017 => ?_)
          have oz84017 := rz84017
          have rz84017 := rg_all z84017
          refine lv_iload_n hx hb dX13_give_58 rfl (lv_at hl 3 rfl) ?_
          refine lv_iadd hx hb dX13_give_59 ?_
          refine lv_topi (fun z84018 ez84018 => ?_)
          have rz84018 := rg_all z84018
          refine lv_sipush (v := 999) hx hb dX13_give_60 (by decide) ?_
          refine lv_icmp_le (tgt := 72) hx hb dX13_give_63 (by decide) (fun c84019 => ?_) (fun c84019 => ?_)
          · have w84020 := cv_le (rfl : z84018.toInt = z84018.toInt) (by decide : (999 : Int32).toInt = 999) c84019
            refine lv_aload_n hx hb dX13_give_72 rfl (lv_at hl 0 rfl) ?_
            refine t_cVv (n := 0) (C := RX13) (T := TX13) (N := 37) (As := []) (rest := []) X hT (km245_X13_keeps l G tag L F hT.2.2.2 p0 m0 g0) m0 g0 rfl rfl qw_1437 qw_1438 qw_1439 qw_5 qw_1440 ⟨rfl, by decide +kernel, by decide +kernel, by decide +kernel⟩ ⟨Nat.le_of_ble_eq_true rfl, Nat.le_of_ble_eq_true rfl⟩ hl rfl rfl (Nat.le_of_ble_eq_true rfl) dX13_give_73 ⟨Nat.le_of_ble_eq_true rfl, Nat.le_of_ble_eq_true rfl⟩ (fun F H locs hT hz84021 => ?_)
            have yz84021 := hz84021
            have pf0 := (yz84021.1 _ 3 (Or.inr (by decide))).trans pf0
            have v83989 := (yz84021.1 _ 0 (Or.inr (by decide))).trans v83989
            have hv84004 := (yz84021.1 _ 16 (Or.inr (by decide))).trans hv84004
            have vz84007 := (yz84021.2 _ _ (by rw [gb84005]; decide)).trans vz84007
            have vz84017 := (yz84021.2 _ _ (by rw [gb84005]; decide)).trans vz84017
            have hfr : (∀ b j : Nat, (tag b ≠ 46 ∨ j ≠ 0) → (tag b ≠ 46 ∨ j ≠ 1) → (tag b ≠ 46 ∨ j ≠ 2) → (tag b ≠ 46 ∨ j ≠ 20) → fld F b j = fld Fo b j) ∧ (∀ b j : Nat, tag b ≠ 37 → tag b ≠ 38 → elm F b j = elm Fo b j) := ⟨fun b j n46_0 n46_1 n46_2 n46_20 => (yz84021.1 b j n46_20).trans (hfr.1 b j n46_0 n46_1 n46_2 n46_20), fun b j a37 a38 => (yz84021.2 b j a38).trans (hfr.2 b j a37 a38)⟩
            refine lv_aload_n hx hb dX13_give_76 rfl (lv_at hl 0 rfl) ?_
            refine t_get (C := RX13) (T := TX13) (N := 37) X hT m0 g0 rfl rfl 16 (by decide) qw_112 inlX13 rfl dX13_give_77 (fun v84022 hv84022 ov84022 => ?_)
            obtain rfl : v84022 = .ref b84005 := hv84022.symm.trans hv84004
            refine lv_bipush (v := 8) hx hb dX13_give_80 (by decide) ?_
            refine lv_iload_n hx hb dX13_give_82 rfl (lv_at hl 1 rfl) ?_
            refine lv_iadd hx hb dX13_give_83 ?_
            refine lv_topi (fun z84023 ez84023 => ?_)
            have hz84023 : z84023.toInt = 8 + p1.toInt := ar_add ez84023 (by decide : (8 : Int32).toInt = 8) (rfl : p1.toInt = p1.toInt) (by omega) (by omega)
            have rz84023 : 8 ≤ z84023.toInt ∧ z84023.toInt ≤ 11 := by omega
            refine lv_dup2_11 hx hb dX13_give_84 rfl rfl ?_
            refine t_ild X hT mb84005 gb84005 rfl (by omega) dX13_give_85 (fun z84024 vz84024 rz84024 => ?_)
            have oz84024 := rz84024
            have rz84024 := rg_all z84024
            refine lv_iload_n hx hb dX13_give_86 rfl (lv_at hl 3 rfl) ?_
            refine lv_isub hx hb dX13_give_87 ?_
            refine lv_topi (fun z84025 ez84025 => ?_)
            have rz84025 := rg_all z84025
            refine t_ist X hT mb84005 gb84005 rfl (by omega) (row_fv (by omega) (Or.inl (by omega))) dX13_give_88 (fun F H locs hT v84026 h1v84026 h2v84026 => ?_)
            have pf0 := (h2v84026 _ _).trans pf0
            have v83989 := (h2v84026 _ _).trans v83989
            have hv84004 := (h2v84026 _ _).trans hv84004
            have hfr : (∀ b j : Nat, (tag b ≠ 46 ∨ j ≠ 0) → (tag b ≠ 46 ∨ j ≠ 1) → (tag b ≠ 46 ∨ j ≠ 2) → (tag b ≠ 46 ∨ j ≠ 20) → fld F b j = fld Fo b j) ∧ (∀ b j : Nat, tag b ≠ 37 → tag b ≠ 38 → elm F b j = elm Fo b j) := ⟨fun b j n46_0 n46_1 n46_2 n46_20 => (h2v84026 b j).trans (hfr.1 b j n46_0 n46_1 n46_2 n46_20), fun b j a37 a38 => (h1v84026 b j (Or.inl (at_ne gb84005 a37))).trans (hfr.2 b j a37 a38)⟩
            refine lv_aload_n hx hb dX13_give_89 rfl (lv_at hl 0 rfl) ?_
            refine t_get (C := RX13) (T := TX13) (N := 37) X hT m0 g0 rfl rfl 16 (by decide) qw_112 inlX13 rfl dX13_give_90 (fun v84027 hv84027 ov84027 => ?_)
            obtain rfl : v84027 = .ref b84005 := hv84027.symm.trans hv84004
            refine lv_bipush (v := 8) hx hb dX13_give_93 (by decide) ?_
            refine lv_iload_n hx hb dX13_give_95 rfl (lv_at hl 2 rfl) ?_
            refine lv_iadd hx hb dX13_give_96 ?_
            refine lv_topi (fun z84028 ez84028 => ?_)
            have hz84028 : z84028.toInt = 8 + p2.toInt := ar_add ez84028 (by decide : (8 : Int32).toInt = 8) (rfl : p2.toInt = p2.toInt) (by omega) (by omega)
            have rz84028 : 8 ≤ z84028.toInt ∧ z84028.toInt ≤ 11 := by omega
            refine lv_dup2_11 hx hb dX13_give_97 rfl rfl ?_
            refine t_ild X hT mb84005 gb84005 rfl (by omega) dX13_give_98 (fun z84029 vz84029 rz84029 => ?_)
            have oz84029 := rz84029
            have rz84029 := rg_all z84029
            refine lv_iload_n hx hb dX13_give_99 rfl (lv_at hl 3 rfl) ?_
            refine lv_iadd hx hb dX13_give_100 ?_
            refine lv_topi (fun z84030 ez84030 => ?_)
            have rz84030 := rg_all z84030
            refine t_ist X hT mb84005 gb84005 rfl (by omega) (row_fv (by omega) (Or.inl (by omega))) dX13_give_101 (fun F H locs hT v84031 h1v84031 h2v84031 => ?_)
            have pf0 := (h2v84031 _ _).trans pf0
            have v83989 := (h2v84031 _ _).trans v83989
            have hv84004 := (h2v84031 _ _).trans hv84004
            have hfr : (∀ b j : Nat, (tag b ≠ 46 ∨ j ≠ 0) → (tag b ≠ 46 ∨ j ≠ 1) → (tag b ≠ 46 ∨ j ≠ 2) → (tag b ≠ 46 ∨ j ≠ 20) → fld F b j = fld Fo b j) ∧ (∀ b j : Nat, tag b ≠ 37 → tag b ≠ 38 → elm F b j = elm Fo b j) := ⟨fun b j n46_0 n46_1 n46_2 n46_20 => (h2v84031 b j).trans (hfr.1 b j n46_0 n46_1 n46_2 n46_20), fun b j a37 a38 => (h1v84031 b j (Or.inl (at_ne gb84005 a37))).trans (hfr.2 b j a37 a38)⟩
            refine lv_aload_n hx hb dX13_give_102 rfl (lv_at hl 0 rfl) ?_
            refine t_cVi (n := 0) (C := RX13) (T := TX13) (N := 37) (As := []) (rest := []) X hT (km269_X13_granted l G tag L F hT.2.2.2 p0 m0 g0) m0 g0 rfl rfl qw_1472 qw_1473 qw_1474 qw_5 qw_1475 ⟨rfl, by decide +kernel, by decide +kernel, by decide +kernel⟩ ⟨Nat.le_of_ble_eq_true rfl, Nat.le_of_ble_eq_true rfl⟩ hl rfl rfl (Nat.le_of_ble_eq_true rfl) dX13_give_103 ⟨Nat.le_of_ble_eq_true rfl, Nat.le_of_ble_eq_true rfl⟩ (fun z84032 F H locs hT hz84032 => ?_)
            obtain ⟨hz84032, yz84032⟩ := hz84032
            have pf0 := (yz84032.1 _ 3 (Or.inr (by decide)) (Or.inr (by decide))).trans pf0
            have v83989 := (yz84032.1 _ 0 (Or.inr (by decide)) (Or.inr (by decide))).trans v83989
            have hv84004 := (yz84032.1 _ 16 (Or.inr (by decide)) (Or.inr (by decide))).trans hv84004
            have v84031 := (yz84032.2 _ _ ).trans v84031
            have hfr : (∀ b j : Nat, (tag b ≠ 46 ∨ j ≠ 0) → (tag b ≠ 46 ∨ j ≠ 1) → (tag b ≠ 46 ∨ j ≠ 2) → (tag b ≠ 46 ∨ j ≠ 20) → fld F b j = fld Fo b j) ∧ (∀ b j : Nat, tag b ≠ 37 → tag b ≠ 38 → elm F b j = elm Fo b j) := ⟨fun b j n46_0 n46_1 n46_2 n46_20 => (yz84032.1 b j n46_1 n46_2).trans (hfr.1 b j n46_0 n46_1 n46_2 n46_20), fun b j a37 a38 => (yz84032.2 b j ).trans (hfr.2 b j a37 a38)⟩
            exact t_zret hQ X hT (nar_z (by omega)) (⟨(by omega), hfr⟩) (Nat.le_of_ble_eq_true rfl) (Nat.le_of_ble_eq_true rfl) dX13_give_106
          · have w84033 := cv_nle (rfl : z84018.toInt = z84018.toInt) (by decide : (999 : Int32).toInt = 999) c84019
            refine lv_aload_n hx hb dX13_give_66 rfl (lv_at hl 0 rfl) ?_
            refine lv_iconst (v := 2) hx hb dX13_give_67 (by decide) ?_
            refine t_cVi (n := 1) (C := RX13) (T := TX13) (N := 37) (As := [.int 2]) (rest := []) X hT (km268_X13_denied l G tag L F hT.2.2.2 p0 2 m0 g0) m0 g0 rfl rfl qw_1468 qw_1469 qw_1470 qw_5 qw_1471 ⟨rfl, by decide +kernel, by decide +kernel, by decide +kernel⟩ ⟨Nat.le_of_ble_eq_true rfl, Nat.le_of_ble_eq_true rfl⟩ hl rfl rfl (Nat.le_of_ble_eq_true rfl) dX13_give_68 ⟨Nat.le_of_ble_eq_true rfl, Nat.le_of_ble_eq_true rfl⟩ (fun z84034 F H locs hT hz84034 => ?_)
            obtain ⟨hz84034, yz84034⟩ := hz84034
            have pf0 := (yz84034.1 _ 3 (Or.inr (by decide)) (Or.inr (by decide))).trans pf0
            have v83989 := (yz84034.1 _ 0 (Or.inr (by decide)) (Or.inr (by decide))).trans v83989
            have hv84004 := (yz84034.1 _ 16 (Or.inr (by decide)) (Or.inr (by decide))).trans hv84004
            have vz84007 := (yz84034.2 _ _ ).trans vz84007
            have vz84017 := (yz84034.2 _ _ ).trans vz84017
            have hfr : (∀ b j : Nat, (tag b ≠ 46 ∨ j ≠ 0) → (tag b ≠ 46 ∨ j ≠ 1) → (tag b ≠ 46 ∨ j ≠ 2) → (tag b ≠ 46 ∨ j ≠ 20) → fld F b j = fld Fo b j) ∧ (∀ b j : Nat, tag b ≠ 37 → tag b ≠ 38 → elm F b j = elm Fo b j) := ⟨fun b j n46_0 n46_1 n46_2 n46_20 => (yz84034.1 b j n46_1 n46_2).trans (hfr.1 b j n46_0 n46_1 n46_2 n46_20), fun b j a37 a38 => (yz84034.2 b j ).trans (hfr.2 b j a37 a38)⟩
            exact t_zret hQ X hT (nar_z (by omega)) (⟨(by omega), hfr⟩) (Nat.le_of_ble_eq_true rfl) (Nat.le_of_ble_eq_true rfl) dX13_give_71
      · have w84035 := cv_eq (rfl : p1.toInt = p1.toInt) (rfl : p2.toInt = p2.toInt) c84002
        refine lv_aload_n hx hb dX13_give_26 rfl (lv_at hl 0 rfl) ?_
        refine lv_iconst (v := 1) hx hb dX13_give_27 (by decide) ?_
        refine t_cVi (n := 1) (C := RX13) (T := TX13) (N := 37) (As := [.int 1]) (rest := []) X hT (km268_X13_denied l G tag L F hT.2.2.2 p0 1 m0 g0) m0 g0 rfl rfl qw_1468 qw_1469 qw_1470 qw_5 qw_1471 ⟨rfl, by decide +kernel, by decide +kernel, by decide +kernel⟩ ⟨Nat.le_of_ble_eq_true rfl, Nat.le_of_ble_eq_true rfl⟩ hl rfl rfl (Nat.le_of_ble_eq_true rfl) dX13_give_28 ⟨Nat.le_of_ble_eq_true rfl, Nat.le_of_ble_eq_true rfl⟩ (fun z84036 F H locs hT hz84036 => ?_)
        obtain ⟨hz84036, yz84036⟩ := hz84036
        have pf0 := (yz84036.1 _ 3 (Or.inr (by decide)) (Or.inr (by decide))).trans pf0
        have v83989 := (yz84036.1 _ 0 (Or.inr (by decide)) (Or.inr (by decide))).trans v83989
        have hfr : (∀ b j : Nat, (tag b ≠ 46 ∨ j ≠ 0) → (tag b ≠ 46 ∨ j ≠ 1) → (tag b ≠ 46 ∨ j ≠ 2) → (tag b ≠ 46 ∨ j ≠ 20) → fld F b j = fld Fo b j) ∧ (∀ b j : Nat, tag b ≠ 37 → tag b ≠ 38 → elm F b j = elm Fo b j) := ⟨fun b j n46_0 n46_1 n46_2 n46_20 => (yz84036.1 b j n46_1 n46_2).trans (hfr.1 b j n46_0 n46_1 n46_2 n46_20), fun b j a37 a38 => (yz84036.2 b j ).trans (hfr.2 b j a37 a38)⟩
        exact t_zret hQ X hT (nar_z (by omega)) (⟨(by omega), hfr⟩) (Nat.le_of_ble_eq_true rfl) (Nat.le_of_ble_eq_true rfl) dX13_give_31
