set_option maxHeartbeats 4000000 in
set_option maxRecDepth 100000 in
theorem km274_X13_lock (l : Launch) (G : KG) (tag : Nat → Nat) (L : List Nat) (Fo : Nat → va_E) (ho : okT G ttC tag L Fo) (p0 : Nat) (p1 : Int32) (p2 : Int32) (p3 : Int32) (m0 : p0 ∈ L) (g0 : tag p0 = 46) (pf0 : fld Fo p0 3 = .null) : TMi l yX13_lock cX13_lock 4 (some .boolean) { frames := 2, cells := 0, slots := 0, locals := 43 } G ttC tag L Fo [.ref p0, .int p1, .int p2, .int p3] (fun r F1 => (0 ≤ r.toInt ∧ r.toInt ≤ 1) ∧ ((∀ b j : Nat, (tag b ≠ 46 ∨ j ≠ 0) → (tag b ≠ 46 ∨ j ≠ 1) → (tag b ≠ 46 ∨ j ≠ 2) → (tag b ≠ 46 ∨ j ≠ 20) → fld F1 b j = fld Fo b j) ∧ (∀ b j : Nat, tag b ≠ 37 → tag b ≠ 38 → elm F1 b j = elm Fo b j))) := by
  refine t_bodyi (y := yX13_lock) (cd := cX13_lock) (mL := 4) (rt := (some .boolean)) (rm := { frames := 2, cells := 0, slots := 0, locals := 43 }) (av := [.ref p0, .int p1, .int p2, .int p3]) (by decide) (Nat.le_of_ble_eq_true rfl) ho ?_
  intro p e s m args below meth c ls A Q hQ X hT hl
  have hx := X.1.1
  have hb := X.1.2.1
  have hl : lv_has ls 4 [(0, .ref p0), (1, .int p1), (2, .int p2), (3, .int p3)] := hl
  have rp1 := rg_all p1
  have rp2 := rg_all p2
  have rp3 := rg_all p3
  obtain ⟨F, hFo⟩ : ∃ F : Nat → va_E, F = Fo := ⟨_, rfl⟩
  rw [← hFo] at hT pf0
  have hfr : (∀ b j : Nat, (tag b ≠ 46 ∨ j ≠ 0) → (tag b ≠ 46 ∨ j ≠ 1) → (tag b ≠ 46 ∨ j ≠ 2) → (tag b ≠ 46 ∨ j ≠ 20) → fld F b j = fld Fo b j) ∧ (∀ b j : Nat, tag b ≠ 37 → tag b ≠ 38 → elm F b j = elm Fo b j) := by
    rw [hFo]
    exact ⟨by intros; rfl, by intros; rfl⟩
  refine lv_aload_n hx hb dX13_lock_0 rfl (lv_at hl 0 rfl) ?_
  refine lv_iconst (v := 0) hx hb dX13_lock_1 (by decide) ?_
  refine t_put (C := RX13) (T := TX13) (N := 37) (v := .int 0) X hT m0 g0 rfl tyX13 tyX13_ok nmX13 rfl 0 (by decide) qw_140 inlX13 rfl (by first | rfl | decide) (by first | rfl | decide) rfl (⟨_, rfl, (show (-2147483648) ≤ (0 : Int32).toInt from (by decide)), (show (0 : Int32).toInt ≤ 2147483647 from (by decide))⟩) dX13_lock_2 (fun F H locs hT v82864 h1v82864 h2v82864 => ?_)
  have pf0 := (h1v82864 _ _ (Or.inr (by decide))).trans pf0
  have hfr : (∀ b j : Nat, (tag b ≠ 46 ∨ j ≠ 0) → (tag b ≠ 46 ∨ j ≠ 1) → (tag b ≠ 46 ∨ j ≠ 2) → (tag b ≠ 46 ∨ j ≠ 20) → fld F b j = fld Fo b j) ∧ (∀ b j : Nat, tag b ≠ 37 → tag b ≠ 38 → elm F b j = elm Fo b j) := ⟨fun b j n46_0 n46_1 n46_2 n46_20 => (h1v82864 b j (fr_ne g0 n46_0)).trans (hfr.1 b j n46_0 n46_1 n46_2 n46_20), fun b j a37 a38 => (h2v82864 b j).trans (hfr.2 b j a37 a38)⟩
  refine lv_aload_n hx hb dX13_lock_5 rfl (lv_at hl 0 rfl) ?_
  refine lv_iload_n hx hb dX13_lock_6 rfl (lv_at hl 1 rfl) ?_
  refine lv_iload_n hx hb dX13_lock_7 rfl (lv_at hl 2 rfl) ?_
  refine t_cVi (n := 2) (C := RX13) (T := TX13) (N := 37) (As := [.int p1, .int p2]) (rest := []) X hT (km121_X13_isSkin l G tag L F hT.2.2.2 p0 p1 p2 m0 g0 pf0) m0 g0 rfl rfl qw_836 qw_837 qw_838 qw_5 qw_839 ⟨rfl, by decide +kernel, by decide +kernel, by decide +kernel⟩ ⟨Nat.le_of_ble_eq_true rfl, Nat.le_of_ble_eq_true rfl⟩ hl rfl rfl (Nat.le_of_ble_eq_true rfl) dX13_lock_8 ⟨Nat.le_of_ble_eq_true rfl, Nat.le_of_ble_eq_true rfl⟩ (fun z82865 F9 H locs hT hz82865 => ?_)
  obtain ⟨fz82865, hz82865⟩ := hz82865
  rw [fz82865] at hT
  refine lv_if_ne (tgt := 20) hx hb dX13_lock_11 (by decide) (fun c82866 => ?_) (fun c82866 => ?_)
  · have w82867 := cv_ne (rfl : z82865.toInt = z82865.toInt) (by decide : (0 : Int32).toInt = 0) c82866
    exfalso
    omega
  · have w82868 := cv_eq (rfl : z82865.toInt = z82865.toInt) (by decide : (0 : Int32).toInt = 0) c82866
    refine lv_aload_n hx hb dX13_lock_14 rfl (lv_at hl 0 rfl) ?_
    refine lv_iconst (v := 1) hx hb dX13_lock_15 (by decide) ?_
    refine t_cVi (n := 1) (C := RX13) (T := TX13) (N := 37) (As := [.int 1]) (rest := []) X hT (km268_X13_denied l G tag L F hT.2.2.2 p0 1 m0 g0) m0 g0 rfl rfl qw_1468 qw_1469 qw_1470 qw_5 qw_1471 ⟨rfl, by decide +kernel, by decide +kernel, by decide +kernel⟩ ⟨Nat.le_of_ble_eq_true rfl, Nat.le_of_ble_eq_true rfl⟩ hl rfl rfl (Nat.le_of_ble_eq_true rfl) dX13_lock_16 ⟨Nat.le_of_ble_eq_true rfl, Nat.le_of_ble_eq_true rfl⟩ (fun z82869 F H locs hT hz82869 => ?_)
    obtain ⟨hz82869, yz82869⟩ := hz82869
    have pf0 := (yz82869.1 _ 3 (Or.inr (by decide)) (Or.inr (by decide))).trans pf0
    have v82864 := (yz82869.1 _ 0 (Or.inr (by decide)) (Or.inr (by decide))).trans v82864
    have hfr : (∀ b j : Nat, (tag b ≠ 46 ∨ j ≠ 0) → (tag b ≠ 46 ∨ j ≠ 1) → (tag b ≠ 46 ∨ j ≠ 2) → (tag b ≠ 46 ∨ j ≠ 20) → fld F b j = fld Fo b j) ∧ (∀ b j : Nat, tag b ≠ 37 → tag b ≠ 38 → elm F b j = elm Fo b j) := ⟨fun b j n46_0 n46_1 n46_2 n46_20 => (yz82869.1 b j n46_1 n46_2).trans (hfr.1 b j n46_0 n46_1 n46_2 n46_20), fun b j a37 a38 => (yz82869.2 b j ).trans (hfr.2 b j a37 a38)⟩
    exact t_zret hQ X hT (nar_z (by omega)) (⟨(by omega), hfr⟩) (Nat.le_of_ble_eq_true rfl) (Nat.le_of_ble_eq_true rfl) dX13_lock_19
theorem kp_X13_lock (l : Launch) (G : KG) (tag : Nat → Nat) (L : List Nat) (Fo : Nat → va_E) (ho : okT G ttC tag L Fo) (p0 : Nat) (p1 : Int32) (p2 : Int32) (p3 : Int32) (m0 : p0 ∈ L) (g0 : tag p0 = 46) : TMi l yX13_lock cX13_lock 4 (some .boolean) { frames := 2, cells := 0, slots := 0, locals := 43 } G ttC tag L Fo [.ref p0, .int p1, .int p2, .int p3] (fun r F1 => (0 ≤ r.toInt ∧ r.toInt ≤ 1) ∧ ((∀ b j : Nat, (tag b ≠ 46 ∨ j ≠ 0) → (tag b ≠ 46 ∨ j ≠ 1) → (tag b ≠ 46 ∨ j ≠ 2) → (tag b ≠ 46 ∨ j ≠ 20) → fld F1 b j = fld Fo b j) ∧ (∀ b j : Nat, tag b ≠ 37 → tag b ≠ 38 → elm F1 b j = elm Fo b j))) := by
  rcases t_fldn ho m0 g0 rfl 3 rfl with h9 | ⟨b9, h9, m9, t9⟩
  · exact km274_X13_lock l G tag L Fo ho p0 p1 p2 p3  m0 g0 h9 
  · exact km273_X13_lock l G tag L Fo ho p0 p1 p2 p3 b9  m0 g0 m9 (tg_of t9) h9 
set_option maxHeartbeats 4000000 in
set_option maxRecDepth 100000 in
theorem km276_X13_move (l : Launch) (G : KG) (tag : Nat → Nat) (L : List Nat) (Fo : Nat → va_E) (ho : okT G ttC tag L Fo) (p0 : Nat) (p1 : Int32) (p2 : Int32) (x0 : Nat) (m0 : p0 ∈ L) (g0 : tag p0 = 46) (mx0 : x0 ∈ L) (gx0 : tag x0 = 45) (pf0 : fld Fo p0 3 = .ref x0) : TMi l yX13_move cX13_move 4 (some .boolean) { frames := 2, cells := 0, slots := 0, locals := 43 } G ttC tag L Fo [.ref p0, .int p1, .int p2] (fun r F1 => (0 ≤ r.toInt ∧ r.toInt ≤ 1) ∧ ((∀ b j : Nat, (tag b ≠ 46 ∨ j ≠ 0) → (tag b ≠ 46 ∨ j ≠ 1) → (tag b ≠ 46 ∨ j ≠ 2) → (tag b ≠ 46 ∨ j ≠ 20) → fld F1 b j = fld Fo b j) ∧ (∀ b j : Nat, tag b ≠ 37 → tag b ≠ 38 → elm F1 b j = elm Fo b j))) := by
  refine t_bodyi (y := yX13_move) (cd := cX13_move) (mL := 4) (rt := (some .boolean)) (rm := { frames := 2, cells := 0, slots := 0, locals := 43 }) (av := [.ref p0, .int p1, .int p2]) (by decide) (Nat.le_of_ble_eq_true rfl) ho ?_
  intro p e s m args below meth c ls A Q hQ X hT hl
  have hx := X.1.1
  have hb := X.1.2.1
  have hl : lv_has ls 4 [(0, .ref p0), (1, .int p1), (2, .int p2)] := hl
  have rp1 := rg_all p1
  have rp2 := rg_all p2
  obtain ⟨F, hFo⟩ : ∃ F : Nat → va_E, F = Fo := ⟨_, rfl⟩
  rw [← hFo] at hT pf0
  have hfr : (∀ b j : Nat, (tag b ≠ 46 ∨ j ≠ 0) → (tag b ≠ 46 ∨ j ≠ 1) → (tag b ≠ 46 ∨ j ≠ 2) → (tag b ≠ 46 ∨ j ≠ 20) → fld F b j = fld Fo b j) ∧ (∀ b j : Nat, tag b ≠ 37 → tag b ≠ 38 → elm F b j = elm Fo b j) := by
    rw [hFo]
    exact ⟨by intros; rfl, by intros; rfl⟩
  refine lv_aload_n hx hb dX13_move_0 rfl (lv_at hl 0 rfl) ?_
  refine lv_iconst (v := 0) hx hb dX13_move_1 (by decide) ?_
  refine t_put (C := RX13) (T := TX13) (N := 37) (v := .int 0) X hT m0 g0 rfl tyX13 tyX13_ok nmX13 rfl 0 (by decide) qw_140 inlX13 rfl (by first | rfl | decide) (by first | rfl | decide) rfl (⟨_, rfl, (show (-2147483648) ≤ (0 : Int32).toInt from (by decide)), (show (0 : Int32).toInt ≤ 2147483647 from (by decide))⟩) dX13_move_2 (fun F H locs hT v83508 h1v83508 h2v83508 => ?_)
  have pf0 := (h1v83508 _ _ (Or.inr (by decide))).trans pf0
  have hfr : (∀ b j : Nat, (tag b ≠ 46 ∨ j ≠ 0) → (tag b ≠ 46 ∨ j ≠ 1) → (tag b ≠ 46 ∨ j ≠ 2) → (tag b ≠ 46 ∨ j ≠ 20) → fld F b j = fld Fo b j) ∧ (∀ b j : Nat, tag b ≠ 37 → tag b ≠ 38 → elm F b j = elm Fo b j) := ⟨fun b j n46_0 n46_1 n46_2 n46_20 => (h1v83508 b j (fr_ne g0 n46_0)).trans (hfr.1 b j n46_0 n46_1 n46_2 n46_20), fun b j a37 a38 => (h2v83508 b j).trans (hfr.2 b j a37 a38)⟩
  refine lv_aload_n hx hb dX13_move_5 rfl (lv_at hl 0 rfl) ?_
  refine lv_iload_n hx hb dX13_move_6 rfl (lv_at hl 1 rfl) ?_
  refine t_cVi (n := 1) (C := RX13) (T := TX13) (N := 37) (As := [.int p1]) (rest := []) X hT (km133_X13_isHeir l G tag L F hT.2.2.2 p0 p1 x0 m0 g0 mx0 gx0 pf0) m0 g0 rfl rfl qw_896 qw_897 qw_898 qw_5 qw_899 ⟨rfl, by decide +kernel, by decide +kernel, by decide +kernel⟩ ⟨Nat.le_of_ble_eq_true rfl, Nat.le_of_ble_eq_true rfl⟩ hl rfl rfl (Nat.le_of_ble_eq_true rfl) dX13_move_7 ⟨Nat.le_of_ble_eq_true rfl, Nat.le_of_ble_eq_true rfl⟩ (fun z83509 F9 H locs hT hz83509 => ?_)
  obtain ⟨fz83509, hz83509⟩ := hz83509
  rw [fz83509] at hT
  obtain ⟨hz83509, iz83509⟩ := hz83509
  refine lv_if_eq (tgt := 30) hx hb dX13_move_10 (by decide) (fun c83510 => ?_) (fun c83510 => ?_)
  · have w83511 := cv_eq (rfl : z83509.toInt = z83509.toInt) (by decide : (0 : Int32).toInt = 0) c83510
    refine lv_aload_n hx hb dX13_move_30 rfl (lv_at hl 0 rfl) ?_
    refine lv_iconst (v := 1) hx hb dX13_move_31 (by decide) ?_
    refine t_cVi (n := 1) (C := RX13) (T := TX13) (N := 37) (As := [.int 1]) (rest := []) X hT (km268_X13_denied l G tag L F hT.2.2.2 p0 1 m0 g0) m0 g0 rfl rfl qw_1468 qw_1469 qw_1470 qw_5 qw_1471 ⟨rfl, by decide +kernel, by decide +kernel, by decide +kernel⟩ ⟨Nat.le_of_ble_eq_true rfl, Nat.le_of_ble_eq_true rfl⟩ hl rfl rfl (Nat.le_of_ble_eq_true rfl) dX13_move_32 ⟨Nat.le_of_ble_eq_true rfl, Nat.le_of_ble_eq_true rfl⟩ (fun z83512 F H locs hT hz83512 => ?_)
    obtain ⟨hz83512, yz83512⟩ := hz83512
    have pf0 := (yz83512.1 _ 3 (Or.inr (by decide)) (Or.inr (by decide))).trans pf0
    have v83508 := (yz83512.1 _ 0 (Or.inr (by decide)) (Or.inr (by decide))).trans v83508
    have hfr : (∀ b j : Nat, (tag b ≠ 46 ∨ j ≠ 0) → (tag b ≠ 46 ∨ j ≠ 1) → (tag b ≠ 46 ∨ j ≠ 2) → (tag b ≠ 46 ∨ j ≠ 20) → fld F b j = fld Fo b j) ∧ (∀ b j : Nat, tag b ≠ 37 → tag b ≠ 38 → elm F b j = elm Fo b j) := ⟨fun b j n46_0 n46_1 n46_2 n46_20 => (yz83512.1 b j n46_1 n46_2).trans (hfr.1 b j n46_0 n46_1 n46_2 n46_20), fun b j a37 a38 => (yz83512.2 b j ).trans (hfr.2 b j a37 a38)⟩
    exact t_zret hQ X hT (nar_z (by omega)) (⟨(by omega), hfr⟩) (Nat.le_of_ble_eq_true rfl) (Nat.le_of_ble_eq_true rfl) dX13_move_35
  · have w83513 := cv_ne (rfl : z83509.toInt = z83509.toInt) (by decide : (0 : Int32).toInt = 0) c83510
    have w83514 := (fun h => (iz83509 h)) (by omega)
    refine lv_aload_n hx hb dX13_move_13 rfl (lv_at hl 0 rfl) ?_
    refine lv_aload_n hx hb dX13_move_14 rfl (lv_at hl 0 rfl) ?_
    refine t_get (C := RX13) (T := TX13) (N := 37) X hT m0 g0 rfl rfl 3 (by decide) qw_481 inlX13 rfl dX13_move_15 (fun v83515 hv83515 ov83515 => ?_)
    obtain rfl : v83515 = .ref x0 := hv83515.symm.trans pf0
    refine t_getN (C := RX12) (T := TX12) (N := 31) X hT mx0 gx0 rfl rfl 23 (by decide) (List.mem_of_getElem? (i := 27) rfl) inlX12 rfl dX13_move_18 (fun v83516 hv83516 ov83516 => ?_)
    obtain ⟨b83517, rfl, mb83517, gb83517⟩ := okV_r ov83516
    have gb83517 : tag b83517 = 32 := tg_of gb83517
    refine lv_iload_n hx hb dX13_move_21 rfl (lv_at hl 1 rfl) ?_
    refine t_ild X hT mb83517 gb83517 rfl (by omega) dX13_move_22 (fun z83518 vz83518 rz83518 => ?_)
    have rz83518 : 0 ≤ z83518.toInt ∧ z83518.toInt ≤ 3 := rz83518
    refine lv_iload_n hx hb dX13_move_23 rfl (lv_at hl 2 rfl) ?_
    refine t_cVi (n := 2) (C := RX13) (T := TX13) (N := 37) (As := [.int z83518, .int p2]) (rest := []) X hT (km124_X13_isDepth l G tag L F hT.2.2.2 p0 z83518 p2 x0 m0 g0 mx0 gx0 pf0) m0 g0 rfl rfl qw_865 qw_866 qw_867 qw_5 qw_868 ⟨rfl, by decide +kernel, by decide +kernel, by decide +kernel⟩ ⟨Nat.le_of_ble_eq_true rfl, Nat.le_of_ble_eq_true rfl⟩ hl rfl rfl (Nat.le_of_ble_eq_true rfl) dX13_move_24 ⟨Nat.le_of_ble_eq_true rfl, Nat.le_of_ble_eq_true rfl⟩ (fun z83519 F9 H locs hT hz83519 => ?_)
    obtain ⟨fz83519, hz83519⟩ := hz83519
    rw [fz83519] at hT
    obtain ⟨hz83519, iz83519⟩ := hz83519
    refine lv_if_ne (tgt := 36) hx hb dX13_move_27 (by decide) (fun c83520 => ?_) (fun c83520 => ?_)
    · have w83521 := cv_ne (rfl : z83519.toInt = z83519.toInt) (by decide : (0 : Int32).toInt = 0) c83520
      have w83522 := (fun h => (iz83519 h).1) (by omega)
      have w83523 := (fun h => (iz83519 h).2) (by omega)
      refine lv_aload_n hx hb dX13_move_36 rfl (lv_at hl 0 rfl) ?_
      refine t_get (C := RX13) (T := TX13) (N := 37) X hT m0 g0 rfl rfl 3 (by decide) qw_481 inlX13 rfl dX13_move_37 (fun v83524 hv83524 ov83524 => ?_)
      obtain rfl : v83524 = .ref x0 := hv83524.symm.trans pf0
      refine t_getN (C := RX12) (T := TX12) (N := 31) X hT mx0 gx0 rfl rfl 23 (by decide) (List.mem_of_getElem? (i := 27) rfl) inlX12 rfl dX13_move_40 (fun v83525 hv83525 ov83525 => ?_)
      obtain rfl : v83525 = .ref b83517 := hv83525.symm.trans hv83516
      refine lv_iload_n hx hb dX13_move_43 rfl (lv_at hl 1 rfl) ?_
      refine t_ild X hT mb83517 gb83517 rfl (by omega) dX13_move_44 (fun z83526 vz83526 rz83526 => ?_)
      obtain rfl : z83518 = z83526 := vz83518.symm.trans vz83526
      refine lv_istore_n (lv' := [(3, .int z83518), (0, .ref p0), (1, .int p1), (2, .int p2)]) hx hb dX13_move_45 rfl hl (by decide) rfl (fun ls hl => ?_)
      refine lv_aload_n hx hb dX13_move_46 rfl (lv_at hl 1 rfl) ?_
      refine t_get (C := RX13) (T := TX13) (N := 37) X hT m0 g0 rfl rfl 16 (by decide) qw_112 inlX13 rfl dX13_move_47 (fun v83527 hv83527 ov83527 => ?_)
      obtain ⟨b83528, rfl, mb83528, gb83528⟩ := okV_r ov83527
      have gb83528 : tag b83528 = 37 := tg_of gb83528
      refine lv_sipush (v := 204) hx hb dX13_move_50 (by decide) ?_
      refine lv_iload_n hx hb dX13_move_53 rfl (lv_at hl 2 rfl) ?_
      refine lv_iadd hx hb dX13_move_54 ?_
      refine lv_topi (fun z83529 ez83529 => ?_)
      have hz83529 : z83529.toInt = 204 + p1.toInt := ar_add ez83529 (by decide : (204 : Int32).toInt = 204) (rfl : p1.toInt = p1.toInt) (by omega) (by omega)
      have rz83529 : 204 ≤ z83529.toInt ∧ z83529.toInt ≤ 209 := by omega
      refine t_ild X hT mb83528 gb83528 rfl (by omega) dX13_move_55 (fun z83530 vz83530 rz83530 => ?_)
      have oz83530 := rz83530
      have rz83530 := rg_all z83530
      refine lv_iload_n hx hb dX13_move_56 rfl (lv_at hl 3 rfl) ?_
      refine lv_icmp_eq (tgt := 95) hx hb dX13_move_57 (by decide) (fun c83531 => ?_) (fun c83531 => ?_)
      · have w83532 := cv_eq (rfl : z83530.toInt = z83530.toInt) (rfl : p2.toInt = p2.toInt) c83531
        refine lv_aload_n hx hb dX13_move_95 rfl (lv_at hl 1 rfl) ?_
        refine lv_iconst (v := 5) hx hb dX13_move_96 (by decide) ?_
        refine t_cVi (n := 1) (C := RX13) (T := TX13) (N := 37) (As := [.int 5]) (rest := []) X hT (km268_X13_denied l G tag L F hT.2.2.2 p0 5 m0 g0) m0 g0 rfl rfl qw_1468 qw_1469 qw_1470 qw_5 qw_1471 ⟨rfl, by decide +kernel, by decide +kernel, by decide +kernel⟩ ⟨Nat.le_of_ble_eq_true rfl, Nat.le_of_ble_eq_true rfl⟩ hl rfl rfl (Nat.le_of_ble_eq_true rfl) dX13_move_97 ⟨Nat.le_of_ble_eq_true rfl, Nat.le_of_ble_eq_true rfl⟩ (fun z83533 F H locs hT hz83533 => ?_)
        obtain ⟨hz83533, yz83533⟩ := hz83533
        have pf0 := (yz83533.1 _ 3 (Or.inr (by decide)) (Or.inr (by decide))).trans pf0
        have v83508 := (yz83533.1 _ 0 (Or.inr (by decide)) (Or.inr (by decide))).trans v83508
        have hv83516 := (yz83533.1 _ 23 (Or.inr (by decide)) (Or.inr (by decide))).trans hv83516
        have vz83518 := (yz83533.2 _ _ ).trans vz83518
        have hv83527 := (yz83533.1 _ 16 (Or.inr (by decide)) (Or.inr (by decide))).trans hv83527
        have vz83530 := (yz83533.2 _ _ ).trans vz83530
        have hfr : (∀ b j : Nat, (tag b ≠ 46 ∨ j ≠ 0) → (tag b ≠ 46 ∨ j ≠ 1) → (tag b ≠ 46 ∨ j ≠ 2) → (tag b ≠ 46 ∨ j ≠ 20) → fld F b j = fld Fo b j) ∧ (∀ b j : Nat, tag b ≠ 37 → tag b ≠ 38 → elm F b j = elm Fo b j) := ⟨fun b j n46_0 n46_1 n46_2 n46_20 => (yz83533.1 b j n46_1 n46_2).trans (hfr.1 b j n46_0 n46_1 n46_2 n46_20), fun b j a37 a38 => (yz83533.2 b j ).trans (hfr.2 b j a37 a38)⟩
        exact t_zret hQ X hT (nar_z (by omega)) (⟨(by omega), hfr⟩) (Nat.le_of_ble_eq_true rfl) (Nat.le_of_ble_eq_true rfl) dX13_move_100
      · have w83534 := cv_ne (rfl : z83530.toInt = z83530.toInt) (rfl : p2.toInt = p2.toInt) c83531
        refine lv_iload_n hx hb dX13_move_60 rfl (lv_at hl 3 rfl) ?_
        refine lv_if_le (tgt := 101) hx hb dX13_move_61 (by decide) (fun c83535 => ?_) (fun c83535 => ?_)
        · have w83536 := cv_le (rfl : p2.toInt = p2.toInt) (by decide : (0 : Int32).toInt = 0) c83535
          refine lv_aload_n hx hb dX13_move_101 rfl (lv_at hl 1 rfl) ?_
          refine t_cVv (n := 0) (C := RX13) (T := TX13) (N := 37) (As := []) (rest := []) X hT (km245_X13_keeps l G tag L F hT.2.2.2 p0 m0 g0) m0 g0 rfl rfl qw_1437 qw_1438 qw_1439 qw_5 qw_1440 ⟨rfl, by decide +kernel, by decide +kernel, by decide +kernel⟩ ⟨Nat.le_of_ble_eq_true rfl, Nat.le_of_ble_eq_true rfl⟩ hl rfl rfl (Nat.le_of_ble_eq_true rfl) dX13_move_102 ⟨Nat.le_of_ble_eq_true rfl, Nat.le_of_ble_eq_true rfl⟩ (fun F H locs hT hz83537 => ?_)
          have yz83537 := hz83537
          have pf0 := (yz83537.1 _ 3 (Or.inr (by decide))).trans pf0
          have v83508 := (yz83537.1 _ 0 (Or.inr (by decide))).trans v83508
          have hv83516 := (yz83537.1 _ 23 (Or.inr (by decide))).trans hv83516
          have vz83518 := (yz83537.2 _ _ (by rw [gb83517]; decide)).trans vz83518
          have hv83527 := (yz83537.1 _ 16 (Or.inr (by decide))).trans hv83527
          have vz83530 := (yz83537.2 _ _ (by rw [gb83528]; decide)).trans vz83530
          have hfr : (∀ b j : Nat, (tag b ≠ 46 ∨ j ≠ 0) → (tag b ≠ 46 ∨ j ≠ 1) → (tag b ≠ 46 ∨ j ≠ 2) → (tag b ≠ 46 ∨ j ≠ 20) → fld F b j = fld Fo b j) ∧ (∀ b j : Nat, tag b ≠ 37 → tag b ≠ 38 → elm F b j = elm Fo b j) := ⟨fun b j n46_0 n46_1 n46_2 n46_20 => (yz83537.1 b j n46_20).trans (hfr.1 b j n46_0 n46_1 n46_2 n46_20), fun b j a37 a38 => (yz83537.2 b j a38).trans (hfr.2 b j a37 a38)⟩
          refine lv_aload_n hx hb dX13_move_105 rfl (lv_at hl 1 rfl) ?_
          refine t_get (C := RX13) (T := TX13) (N := 37) X hT m0 g0 rfl rfl 16 (by decide) qw_112 inlX13 rfl dX13_move_106 (fun v83538 hv83538 ov83538 => ?_)
          obtain rfl : v83538 = .ref b83528 := hv83538.symm.trans hv83527
          refine lv_sipush (v := 204) hx hb dX13_move_109 (by decide) ?_
          refine lv_iload_n hx hb dX13_move_112 rfl (lv_at hl 2 rfl) ?_
          refine lv_iadd hx hb dX13_move_113 ?_
          refine lv_topi (fun z83539 ez83539 => ?_)
          have hz83539 : z83539.toInt = 204 + p1.toInt := ar_add ez83539 (by decide : (204 : Int32).toInt = 204) (rfl : p1.toInt = p1.toInt) (by omega) (by omega)
          have rz83539 : 204 ≤ z83539.toInt ∧ z83539.toInt ≤ 209 := by omega
          refine lv_iload_n hx hb dX13_move_114 rfl (lv_at hl 3 rfl) ?_
          refine t_ist X hT mb83528 gb83528 rfl (by omega) (row_fv (by omega) (Or.inr (Or.inl (by omega)))) dX13_move_115 (fun F H locs hT v83540 h1v83540 h2v83540 => ?_)
          have pf0 := (h2v83540 _ _).trans pf0
          have v83508 := (h2v83540 _ _).trans v83508
          have hv83516 := (h2v83540 _ _).trans hv83516
          have vz83518 := (h1v83540 _ _ (Or.inl (tne gb83517 gb83528 (by decide)))).trans vz83518
          have hv83527 := (h2v83540 _ _).trans hv83527
          have hfr : (∀ b j : Nat, (tag b ≠ 46 ∨ j ≠ 0) → (tag b ≠ 46 ∨ j ≠ 1) → (tag b ≠ 46 ∨ j ≠ 2) → (tag b ≠ 46 ∨ j ≠ 20) → fld F b j = fld Fo b j) ∧ (∀ b j : Nat, tag b ≠ 37 → tag b ≠ 38 → elm F b j = elm Fo b j) := ⟨fun b j n46_0 n46_1 n46_2 n46_20 => (h2v83540 b j).trans (hfr.1 b j n46_0 n46_1 n46_2 n46_20), fun b j a37 a38 => (h1v83540 b j (Or.inl (at_ne gb83528 a37))).trans (hfr.2 b j a37 a38)⟩
          refine lv_aload_n hx hb dX13_move_116 rfl (lv_at hl 1 rfl) ?_
          refine t_cVi (n := 0) (C := RX13) (T := TX13) (N := 37) (As := []) (rest := []) X hT (km269_X13_granted l G tag L F hT.2.2.2 p0 m0 g0) m0 g0 rfl rfl qw_1472 qw_1473 qw_1474 qw_5 qw_1475 ⟨rfl, by decide +kernel, by decide +kernel, by decide +kernel⟩ ⟨Nat.le_of_ble_eq_true rfl, Nat.le_of_ble_eq_true rfl⟩ hl rfl rfl (Nat.le_of_ble_eq_true rfl) dX13_move_117 ⟨Nat.le_of_ble_eq_true rfl, Nat.le_of_ble_eq_true rfl⟩ (fun z83541 F H locs hT hz83541 => ?_)
          obtain ⟨hz83541, yz83541⟩ := hz83541
          have pf0 := (yz83541.1 _ 3 (Or.inr (by decide)) (Or.inr (by decide))).trans pf0
          have v83508 := (yz83541.1 _ 0 (Or.inr (by decide)) (Or.inr (by decide))).trans v83508
          have hv83516 := (yz83541.1 _ 23 (Or.inr (by decide)) (Or.inr (by decide))).trans hv83516
          have vz83518 := (yz83541.2 _ _ ).trans vz83518
          have hv83527 := (yz83541.1 _ 16 (Or.inr (by decide)) (Or.inr (by decide))).trans hv83527
          have v83540 := (yz83541.2 _ _ ).trans v83540
          have hfr : (∀ b j : Nat, (tag b ≠ 46 ∨ j ≠ 0) → (tag b ≠ 46 ∨ j ≠ 1) → (tag b ≠ 46 ∨ j ≠ 2) → (tag b ≠ 46 ∨ j ≠ 20) → fld F b j = fld Fo b j) ∧ (∀ b j : Nat, tag b ≠ 37 → tag b ≠ 38 → elm F b j = elm Fo b j) := ⟨fun b j n46_0 n46_1 n46_2 n46_20 => (yz83541.1 b j n46_1 n46_2).trans (hfr.1 b j n46_0 n46_1 n46_2 n46_20), fun b j a37 a38 => (yz83541.2 b j ).trans (hfr.2 b j a37 a38)⟩
          exact t_zret hQ X hT (nar_z (by omega)) (⟨(by omega), hfr⟩) (Nat.le_of_ble_eq_true rfl) (Nat.le_of_ble_eq_true rfl) dX13_move_120
        · have w83542 := cv_nle (rfl : p2.toInt = p2.toInt) (by decide : (0 : Int32).toInt = 0) c83535
          refine lv_aload_n hx hb dX13_move_64 rfl (lv_at hl 1 rfl) ?_
          refine t_get (C := RX13) (T := TX13) (N := 37) X hT m0 g0 rfl rfl 16 (by decide) qw_112 inlX13 rfl dX13_move_65 (fun v83543 hv83543 ov83543 => ?_)
          obtain rfl : v83543 = .ref b83528 := hv83543.symm.trans hv83527
          refine lv_iload_n hx hb dX13_move_68 rfl (lv_at hl 0 rfl) ?_
          refine lv_iload_n hx hb dX13_move_69 rfl (lv_at hl 3 rfl) ?_
          refine lv_iconst (v := 5) hx hb dX13_move_70 (by decide) ?_
          refine t_cSi (n := 3) (As := [.int z83518, .int p2, .int 5]) (rest := [.ref b83528]) X hT (km49_X13_part l G tag L F hT.2.2.2 z83518 p2 5 (by omega) (by omega) (by decide)) qw_661 qw_662 qw_5 qw_663 ⟨by decide +kernel, by decide +kernel, by decide +kernel⟩ ⟨Nat.le_of_ble_eq_true rfl, Nat.le_of_ble_eq_true rfl⟩ hl rfl rfl (Nat.le_of_ble_eq_true rfl) dX13_move_71 ⟨Nat.le_of_ble_eq_true rfl, Nat.le_of_ble_eq_true rfl⟩ (fun z83544 F9 H locs hT hz83544 => ?_)
          obtain ⟨fz83544, hz83544, xz83544_0⟩ := hz83544
          rw [fz83544] at hT
          have k83545 : (5 : Int32).toInt = 5 := by decide
          refine t_ild X hT mb83528 gb83528 rfl (by omega) dX13_move_74 (fun z83546 vz83546 rz83546 => ?_)
          have oz83546 := rz83546
          have rz83546 := rg_all z83546
          refine lv_iconst (v := 1) hx hb dX13_move_75 (by decide) ?_
          refine lv_icmp_eq (tgt := 95) hx hb dX13_move_76 (by decide) (fun c83547 => ?_) (fun c83547 => ?_)
          · have w83548 := cv_eq (rfl : z83546.toInt = z83546.toInt) (by decide : (1 : Int32).toInt = 1) c83547
            refine lv_aload_n hx hb dX13_move_95 rfl (lv_at hl 1 rfl) ?_
            refine lv_iconst (v := 5) hx hb dX13_move_96 (by decide) ?_
            refine t_cVi (n := 1) (C := RX13) (T := TX13) (N := 37) (As := [.int 5]) (rest := []) X hT (km268_X13_denied l G tag L F hT.2.2.2 p0 5 m0 g0) m0 g0 rfl rfl qw_1468 qw_1469 qw_1470 qw_5 qw_1471 ⟨rfl, by decide +kernel, by decide +kernel, by decide +kernel⟩ ⟨Nat.le_of_ble_eq_true rfl, Nat.le_of_ble_eq_true rfl⟩ hl rfl rfl (Nat.le_of_ble_eq_true rfl) dX13_move_97 ⟨Nat.le_of_ble_eq_true rfl, Nat.le_of_ble_eq_true rfl⟩ (fun z83549 F H locs hT hz83549 => ?_)
            obtain ⟨hz83549, yz83549⟩ := hz83549
            have pf0 := (yz83549.1 _ 3 (Or.inr (by decide)) (Or.inr (by decide))).trans pf0
            have v83508 := (yz83549.1 _ 0 (Or.inr (by decide)) (Or.inr (by decide))).trans v83508
            have hv83516 := (yz83549.1 _ 23 (Or.inr (by decide)) (Or.inr (by decide))).trans hv83516
            have vz83518 := (yz83549.2 _ _ ).trans vz83518
            have hv83527 := (yz83549.1 _ 16 (Or.inr (by decide)) (Or.inr (by decide))).trans hv83527
            have vz83530 := (yz83549.2 _ _ ).trans vz83530
            have vz83546 := (yz83549.2 _ _ ).trans vz83546
            have hfr : (∀ b j : Nat, (tag b ≠ 46 ∨ j ≠ 0) → (tag b ≠ 46 ∨ j ≠ 1) → (tag b ≠ 46 ∨ j ≠ 2) → (tag b ≠ 46 ∨ j ≠ 20) → fld F b j = fld Fo b j) ∧ (∀ b j : Nat, tag b ≠ 37 → tag b ≠ 38 → elm F b j = elm Fo b j) := ⟨fun b j n46_0 n46_1 n46_2 n46_20 => (yz83549.1 b j n46_1 n46_2).trans (hfr.1 b j n46_0 n46_1 n46_2 n46_20), fun b j a37 a38 => (yz83549.2 b j ).trans (hfr.2 b j a37 a38)⟩
            exact t_zret hQ X hT (nar_z (by omega)) (⟨(by omega), hfr⟩) (Nat.le_of_ble_eq_true rfl) (Nat.le_of_ble_eq_true rfl) dX13_move_100
          · have w83550 := cv_ne (rfl : z83546.toInt = z83546.toInt) (by decide : (1 : Int32).toInt = 1) c83547
            refine lv_aload_n hx hb dX13_move_79 rfl (lv_at hl 1 rfl) ?_
            refine t_get (C := RX13) (T := TX13) (N := 37) X hT m0 g0 rfl rfl 16 (by decide) qw_112 inlX13 rfl dX13_move_80 (fun v83551 hv83551 ov83551 => ?_)
            obtain rfl : v83551 = .ref b83528 := hv83551.symm.trans hv83527
            refine lv_iload_n hx hb dX13_move_83 rfl (lv_at hl 0 rfl) ?_
            refine lv_iload_n hx hb dX13_move_84 rfl (lv_at hl 3 rfl) ?_
            refine lv_bipush (v := 6) hx hb dX13_move_85 (by decide) ?_
            refine t_cSi (n := 3) (As := [.int z83518, .int p2, .int 6]) (rest := [.ref b83528]) X hT (km49_X13_part l G tag L F hT.2.2.2 z83518 p2 6 (by omega) (by omega) (by decide)) qw_661 qw_662 qw_5 qw_663 ⟨by decide +kernel, by decide +kernel, by decide +kernel⟩ ⟨Nat.le_of_ble_eq_true rfl, Nat.le_of_ble_eq_true rfl⟩ hl rfl rfl (Nat.le_of_ble_eq_true rfl) dX13_move_87 ⟨Nat.le_of_ble_eq_true rfl, Nat.le_of_ble_eq_true rfl⟩ (fun z83552 F9 H locs hT hz83552 => ?_)
            obtain ⟨fz83552, hz83552, xz83552_0⟩ := hz83552
            rw [fz83552] at hT
            have k83553 : (6 : Int32).toInt = 6 := by decide
            refine t_ild X hT mb83528 gb83528 rfl (by omega) dX13_move_90 (fun z83554 vz83554 rz83554 => ?_)
            have oz83554 := rz83554
            have rz83554 := rg_all z83554
            refine lv_iconst (v := 1) hx hb dX13_move_91 (by decide) ?_
            refine lv_icmp_ne (tgt := 101) hx hb dX13_move_92 (by decide) (fun c83555 => ?_) (fun c83555 => ?_)
            · have w83556 := cv_ne (rfl : z83554.toInt = z83554.toInt) (by decide : (1 : Int32).toInt = 1) c83555
              refine lv_aload_n hx hb dX13_move_101 rfl (lv_at hl 1 rfl) ?_
              refine t_cVv (n := 0) (C := RX13) (T := TX13) (N := 37) (As := []) (rest := []) X hT (km245_X13_keeps l G tag L F hT.2.2.2 p0 m0 g0) m0 g0 rfl rfl qw_1437 qw_1438 qw_1439 qw_5 qw_1440 ⟨rfl, by decide +kernel, by decide +kernel, by decide +kernel⟩ ⟨Nat.le_of_ble_eq_true rfl, Nat.le_of_ble_eq_true rfl⟩ hl rfl rfl (Nat.le_of_ble_eq_true rfl) dX13_move_102 ⟨Nat.le_of_ble_eq_true rfl, Nat.le_of_ble_eq_true rfl⟩ (fun F H locs hT hz83557 => ?_)
              have yz83557 := hz83557
              have pf0 := (yz83557.1 _ 3 (Or.inr (by decide))).trans pf0
              have v83508 := (yz83557.1 _ 0 (Or.inr (by decide))).trans v83508
              have hv83516 := (yz83557.1 _ 23 (Or.inr (by decide))).trans hv83516
              have vz83518 := (yz83557.2 _ _ (by rw [gb83517]; decide)).trans vz83518
              have hv83527 := (yz83557.1 _ 16 (Or.inr (by decide))).trans hv83527
              have vz83530 := (yz83557.2 _ _ (by rw [gb83528]; decide)).trans vz83530
              have vz83546 := (yz83557.2 _ _ (by rw [gb83528]; decide)).trans vz83546
              have vz83554 := (yz83557.2 _ _ (by rw [gb83528]; decide)).trans vz83554
              have hfr : (∀ b j : Nat, (tag b ≠ 46 ∨ j ≠ 0) → (tag b ≠ 46 ∨ j ≠ 1) → (tag b ≠ 46 ∨ j ≠ 2) → (tag b ≠ 46 ∨ j ≠ 20) → fld F b j = fld Fo b j) ∧ (∀ b j : Nat, tag b ≠ 37 → tag b ≠ 38 → elm F b j = elm Fo b j) := ⟨fun b j n46_0 n46_1 n46_2 n46_20 => (yz83557.1 b j n46_20).trans (hfr.1 b j n46_0 n46_1 n46_2 n46_20), fun b j a37 a38 => (yz83557.2 b j a38).trans (hfr.2 b j a37 a38)⟩
              refine lv_aload_n hx hb dX13_move_105 rfl (lv_at hl 1 rfl) ?_
              refine t_get (C := RX13) (T := TX13) (N := 37) X hT m0 g0 rfl rfl 16 (by decide) qw_112 inlX13 rfl dX13_move_106 (fun v83558 hv83558 ov83558 => ?_)
              obtain rfl : v83558 = .ref b83528 := hv83558.symm.trans hv83527
              refine lv_sipush (v := 204) hx hb dX13_move_109 (by decide) ?_
              refine lv_iload_n hx hb dX13_move_112 rfl (lv_at hl 2 rfl) ?_
              refine lv_iadd hx hb dX13_move_113 ?_
              refine lv_topi (fun z83559 ez83559 => ?_)
              have hz83559 : z83559.toInt = 204 + p1.toInt := ar_add ez83559 (by decide : (204 : Int32).toInt = 204) (rfl : p1.toInt = p1.toInt) (by omega) (by omega)
              have rz83559 : 204 ≤ z83559.toInt ∧ z83559.toInt ≤ 209 := by omega
              refine lv_iload_n hx hb dX13_move_114 rfl (lv_at hl 3 rfl) ?_
              refine t_ist X hT mb83528 gb83528 rfl (by omega) (row_fv (by omega) (Or.inr (Or.inl (by omega)))) dX13_move_115 (fun F H locs hT v83560 h1v83560 h2v83560 => ?_)
              have pf0 := (h2v83560 _ _).trans pf0
              have v83508 := (h2v83560 _ _).trans v83508
              have hv83516 := (h2v83560 _ _).trans hv83516
              have vz83518 := (h1v83560 _ _ (Or.inl (tne gb83517 gb83528 (by decide)))).trans vz83518
              have hv83527 := (h2v83560 _ _).trans hv83527
              have vz83546 := (h1v83560 _ _ (Or.inr (ine (by omega) (by omega) (by omega)))).trans vz83546
              have vz83554 := (h1v83560 _ _ (Or.inr (ine (by omega) (by omega) (by omega)))).trans vz83554
              have hfr : (∀ b j : Nat, (tag b ≠ 46 ∨ j ≠ 0) → (tag b ≠ 46 ∨ j ≠ 1) → (tag b ≠ 46 ∨ j ≠ 2) → (tag b ≠ 46 ∨ j ≠ 20) → fld F b j = fld Fo b j) ∧ (∀ b j : Nat, tag b ≠ 37 → tag b ≠ 38 → elm F b j = elm Fo b j) := ⟨fun b j n46_0 n46_1 n46_2 n46_20 => (h2v83560 b j).trans (hfr.1 b j n46_0 n46_1 n46_2 n46_20), fun b j a37 a38 => (h1v83560 b j (Or.inl (at_ne gb83528 a37))).trans (hfr.2 b j a37 a38)⟩
              refine lv_aload_n hx hb dX13_move_116 rfl (lv_at hl 1 rfl) ?_
              refine t_cVi (n := 0) (C := RX13) (T := TX13) (N := 37) (As := []) (rest := []) X hT (km269_X13_granted l G tag L F hT.2.2.2 p0 m0 g0) m0 g0 rfl rfl qw_1472 qw_1473 qw_1474 qw_5 qw_1475 ⟨rfl, by decide +kernel, by decide +kernel, by decide +kernel⟩ ⟨Nat.le_of_ble_eq_true rfl, Nat.le_of_ble_eq_true rfl⟩ hl rfl rfl (Nat.le_of_ble_eq_true rfl) dX13_move_117 ⟨Nat.le_of_ble_eq_true rfl, Nat.le_of_ble_eq_true rfl⟩ (fun z83561 F H locs hT hz83561 => ?_)
              obtain ⟨hz83561, yz83561⟩ := hz83561
              have pf0 := (yz83561.1 _ 3 (Or.inr (by decide)) (Or.inr (by decide))).trans pf0
              have v83508 := (yz83561.1 _ 0 (Or.inr (by decide)) (Or.inr (by decide))).trans v83508
              have hv83516 := (yz83561.1 _ 23 (Or.inr (by decide)) (Or.inr (by decide))).trans hv83516
              have vz83518 := (yz83561.2 _ _ ).trans vz83518
              have hv83527 := (yz83561.1 _ 16 (Or.inr (by decide)) (Or.inr (by decide))).trans hv83527
              have vz83546 := (yz83561.2 _ _ ).trans vz83546
              have vz83554 := (yz83561.2 _ _ ).trans vz83554
              have v83560 := (yz83561.2 _ _ ).trans v83560
              have hfr : (∀ b j : Nat, (tag b ≠ 46 ∨ j ≠ 0) → (tag b ≠ 46 ∨ j ≠ 1) → (tag b ≠ 46 ∨ j ≠ 2) → (tag b ≠ 46 ∨ j ≠ 20) → fld F b j = fld Fo b j) ∧ (∀ b j : Nat, tag b ≠ 37 → tag b ≠ 38 → elm F b j = elm Fo b j) := ⟨fun b j n46_0 n46_1 n46_2 n46_20 => (yz83561.1 b j n46_1 n46_2).trans (hfr.1 b j n46_0 n46_1 n46_2 n46_20), fun b j a37 a38 => (yz83561.2 b j ).trans (hfr.2 b j a37 a38)⟩
              exact t_zret hQ X hT (nar_z (by omega)) (⟨(by omega), hfr⟩) (Nat.le_of_ble_eq_true rfl) (Nat.le_of_ble_eq_true rfl) dX13_move_120
            · have w83562 := cv_eq (rfl : z83554.toInt = z83554.toInt) (by decide : (1 : Int32).toInt = 1) c83555
              refine lv_aload_n hx hb dX13_move_95 rfl (lv_at hl 1 rfl) ?_
              refine lv_iconst (v := 5) hx hb dX13_move_96 (by decide) ?_
              refine t_cVi (n := 1) (C := RX13) (T := TX13) (N := 37) (As := [.int 5]) (rest := []) X hT (km268_X13_denied l G tag L F hT.2.2.2 p0 5 m0 g0) m0 g0 rfl rfl qw_1468 qw_1469 qw_1470 qw_5 qw_1471 ⟨rfl, by decide +kernel, by decide +kernel, by decide +kernel⟩ ⟨Nat.le_of_ble_eq_true rfl, Nat.le_of_ble_eq_true rfl⟩ hl rfl rfl (Nat.le_of_ble_eq_true rfl) dX13_move_97 ⟨Nat.le_of_ble_eq_true rfl, Nat.le_of_ble_eq_true rfl⟩ (fun z83563 F H locs hT hz83563 => ?_)
              obtain ⟨hz83563, yz83563⟩ := hz83563
              have pf0 := (yz83563.1 _ 3 (Or.inr (by decide)) (Or.inr (by decide))).trans pf0
              have v83508 := (yz83563.1 _ 0 (Or.inr (by decide)) (Or.inr (by decide))).trans v83508
              have hv83516 := (yz83563.1 _ 23 (Or.inr (by decide)) (Or.inr (by decide))).trans hv83516
              have vz83518 := (yz83563.2 _ _ ).trans vz83518
              have hv83527 := (yz83563.1 _ 16 (Or.inr (by decide)) (Or.inr (by decide))).trans hv83527
              have vz83530 := (yz83563.2 _ _ ).trans vz83530
              have vz83546 := (yz83563.2 _ _ ).trans vz83546
              have vz83554 := (yz83563.2 _ _ ).trans vz83554
              have hfr : (∀ b j : Nat, (tag b ≠ 46 ∨ j ≠ 0) → (tag b ≠ 46 ∨ j ≠ 1) → (tag b ≠ 46 ∨ j ≠ 2) → (tag b ≠ 46 ∨ j ≠ 20) → fld F b j = fld Fo b j) ∧ (∀ b j : Nat, tag b ≠ 37 → tag b ≠ 38 → elm F b j = elm Fo b j) := ⟨fun b j n46_0 n46_1 n46_2 n46_20 => (yz83563.1 b j n46_1 n46_2).trans (hfr.1 b j n46_0 n46_1 n46_2 n46_20), fun b j a37 a38 => (yz83563.2 b j ).trans (hfr.2 b j a37 a38)⟩
              exact t_zret hQ X hT (nar_z (by omega)) (⟨(by omega), hfr⟩) (Nat.le_of_ble_eq_true rfl) (Nat.le_of_ble_eq_true rfl) dX13_move_100
    · have w83564 := cv_eq (rfl : z83519.toInt = z83519.toInt) (by decide : (0 : Int32).toInt = 0) c83520
      refine lv_aload_n hx hb dX13_move_30 rfl (lv_at hl 0 rfl) ?_
      refine lv_iconst (v := 1) hx hb dX13_move_31 (by decide) ?_
      refine t_cVi (n := 1) (C := RX13) (T := TX13) (N := 37) (As := [.int 1]) (rest := []) X hT (km268_X13_denied l G tag L F hT.2.2.2 p0 1 m0 g0) m0 g0 rfl rfl qw_1468 qw_1469 qw_1470 qw_5 qw_1471 ⟨rfl, by decide +kernel, by decide +kernel, by decide +kernel⟩ ⟨Nat.le_of_ble_eq_true rfl, Nat.le_of_ble_eq_true rfl⟩ hl rfl rfl (Nat.le_of_ble_eq_true rfl) dX13_move_32 ⟨Nat.le_of_ble_eq_true rfl, Nat.le_of_ble_eq_true rfl⟩ (fun z83565 F H locs hT hz83565 => ?_)
      obtain ⟨hz83565, yz83565⟩ := hz83565
      have pf0 := (yz83565.1 _ 3 (Or.inr (by decide)) (Or.inr (by decide))).trans pf0
      have v83508 := (yz83565.1 _ 0 (Or.inr (by decide)) (Or.inr (by decide))).trans v83508
      have hv83516 := (yz83565.1 _ 23 (Or.inr (by decide)) (Or.inr (by decide))).trans hv83516
      have vz83518 := (yz83565.2 _ _ ).trans vz83518
      have hfr : (∀ b j : Nat, (tag b ≠ 46 ∨ j ≠ 0) → (tag b ≠ 46 ∨ j ≠ 1) → (tag b ≠ 46 ∨ j ≠ 2) → (tag b ≠ 46 ∨ j ≠ 20) → fld F b j = fld Fo b j) ∧ (∀ b j : Nat, tag b ≠ 37 → tag b ≠ 38 → elm F b j = elm Fo b j) := ⟨fun b j n46_0 n46_1 n46_2 n46_20 => (yz83565.1 b j n46_1 n46_2).trans (hfr.1 b j n46_0 n46_1 n46_2 n46_20), fun b j a37 a38 => (yz83565.2 b j ).trans (hfr.2 b j a37 a38)⟩
      exact t_zret hQ X hT (nar_z (by omega)) (⟨(by omega), hfr⟩) (Nat.le_of_ble_eq_true rfl) (Nat.le_of_ble_eq_true rfl) dX13_move_35
set_option maxHeartbeats 4000000 in
set_option maxRecDepth 100000 in
theorem km277_X13_move (l : Launch) (G : KG) (tag : Nat → Nat) (L : List Nat) (Fo : Nat → va_E) (ho : okT G ttC tag L Fo) (p0 : Nat) (p1 : Int32) (p2 : Int32) (m0 : p0 ∈ L) (g0 : tag p0 = 46) (pf0 : fld Fo p0 3 = .null) : TMi l yX13_move cX13_move 4 (some .boolean) { frames := 2, cells := 0, slots := 0, locals := 43 } G ttC tag L Fo [.ref p0, .int p1, .int p2] (fun r F1 => (0 ≤ r.toInt ∧ r.toInt ≤ 1) ∧ ((∀ b j : Nat, (tag b ≠ 46 ∨ j ≠ 0) → (tag b ≠ 46 ∨ j ≠ 1) → (tag b ≠ 46 ∨ j ≠ 2) → (tag b ≠ 46 ∨ j ≠ 20) → fld F1 b j = fld Fo b j) ∧ (∀ b j : Nat, tag b ≠ 37 → tag b ≠ 38 → elm F1 b j = elm Fo b j))) := by
  refine t_bodyi (y := yX13_move) (cd := cX13_move) (mL := 4) (rt := (some .boolean)) (rm := { frames := 2, cells := 0, slots := 0, locals := 43 }) (av := [.ref p0, .int p1, .int p2]) (by decide) (Nat.le_of_ble_eq_true rfl) ho ?_
  intro p e s m args below meth c ls A Q hQ X hT hl
  have hx := X.1.1
  have hb := X.1.2.1
  have hl : lv_has ls 4 [(0, .ref p0), (1, .int p1), (2, .int p2)] := hl
  have rp1 := rg_all p1
  have rp2 := rg_all p2
  obtain ⟨F, hFo⟩ : ∃ F : Nat → va_E, F = Fo := ⟨_, rfl⟩
  rw [← hFo] at hT pf0
  have hfr : (∀ b j : Nat, (tag b ≠ 46 ∨ j ≠ 0) → (tag b ≠ 46 ∨ j ≠ 1) → (tag b ≠ 46 ∨ j ≠ 2) → (tag b ≠ 46 ∨ j ≠ 20) → fld F b j = fld Fo b j) ∧ (∀ b j : Nat, tag b ≠ 37 → tag b ≠ 38 → elm F b j = elm Fo b j) := by
    rw [hFo]
    exact ⟨by intros; rfl, by intros; rfl⟩
  refine lv_aload_n hx hb dX13_move_0 rfl (lv_at hl 0 rfl) ?_
  refine lv_iconst (v := 0) hx hb dX13_move_1 (by decide) ?_
  refine t_put (C := RX13) (T := TX13) (N := 37) (v := .int 0) X hT m0 g0 rfl tyX13 tyX13_ok nmX13 rfl 0 (by decide) qw_140 inlX13 rfl (by first | rfl | decide) (by first | rfl | decide) rfl (⟨_, rfl, (show (-2147483648) ≤ (0 : Int32).toInt from (by decide)), (show (0 : Int32).toInt ≤ 2147483647 from (by decide))⟩) dX13_move_2 (fun F H locs hT v83632 h1v83632 h2v83632 => ?_)
  have pf0 := (h1v83632 _ _ (Or.inr (by decide))).trans pf0
  have hfr : (∀ b j : Nat, (tag b ≠ 46 ∨ j ≠ 0) → (tag b ≠ 46 ∨ j ≠ 1) → (tag b ≠ 46 ∨ j ≠ 2) → (tag b ≠ 46 ∨ j ≠ 20) → fld F b j = fld Fo b j) ∧ (∀ b j : Nat, tag b ≠ 37 → tag b ≠ 38 → elm F b j = elm Fo b j) := ⟨fun b j n46_0 n46_1 n46_2 n46_20 => (h1v83632 b j (fr_ne g0 n46_0)).trans (hfr.1 b j n46_0 n46_1 n46_2 n46_20), fun b j a37 a38 => (h2v83632 b j).trans (hfr.2 b j a37 a38)⟩
  refine lv_aload_n hx hb dX13_move_5 rfl (lv_at hl 0 rfl) ?_
  refine lv_iload_n hx hb dX13_move_6 rfl (lv_at hl 1 rfl) ?_
  refine t_cVi (n := 1) (C := RX13) (T := TX13) (N := 37) (As := [.int p1]) (rest := []) X hT (km135_X13_isHeir l G tag L F hT.2.2.2 p0 p1 m0 g0 pf0) m0 g0 rfl rfl qw_896 qw_897 qw_898 qw_5 qw_899 ⟨rfl, by decide +kernel, by decide +kernel, by decide +kernel⟩ ⟨Nat.le_of_ble_eq_true rfl, Nat.le_of_ble_eq_true rfl⟩ hl rfl rfl (Nat.le_of_ble_eq_true rfl) dX13_move_7 ⟨Nat.le_of_ble_eq_true rfl, Nat.le_of_ble_eq_true rfl⟩ (fun z83633 F9 H locs hT hz83633 => ?_)
  obtain ⟨fz83633, hz83633⟩ := hz83633
  rw [fz83633] at hT
  refine lv_if_eq (tgt := 30) hx hb dX13_move_10 (by decide) (fun c83634 => ?_) (fun c83634 => ?_)
  · have w83635 := cv_eq (rfl : z83633.toInt = z83633.toInt) (by decide : (0 : Int32).toInt = 0) c83634
    refine lv_aload_n hx hb dX13_move_30 rfl (lv_at hl 0 rfl) ?_
    refine lv_iconst (v := 1) hx hb dX13_move_31 (by decide) ?_
    refine t_cVi (n := 1) (C := RX13) (T := TX13) (N := 37) (As := [.int 1]) (rest := []) X hT (km268_X13_denied l G tag L F hT.2.2.2 p0 1 m0 g0) m0 g0 rfl rfl qw_1468 qw_1469 qw_1470 qw_5 qw_1471 ⟨rfl, by decide +kernel, by decide +kernel, by decide +kernel⟩ ⟨Nat.le_of_ble_eq_true rfl, Nat.le_of_ble_eq_true rfl⟩ hl rfl rfl (Nat.le_of_ble_eq_true rfl) dX13_move_32 ⟨Nat.le_of_ble_eq_true rfl, Nat.le_of_ble_eq_true rfl⟩ (fun z83636 F H locs hT hz83636 => ?_)
    obtain ⟨hz83636, yz83636⟩ := hz83636
    have pf0 := (yz83636.1 _ 3 (Or.inr (by decide)) (Or.inr (by decide))).trans pf0
    have v83632 := (yz83636.1 _ 0 (Or.inr (by decide)) (Or.inr (by decide))).trans v83632
    have hfr : (∀ b j : Nat, (tag b ≠ 46 ∨ j ≠ 0) → (tag b ≠ 46 ∨ j ≠ 1) → (tag b ≠ 46 ∨ j ≠ 2) → (tag b ≠ 46 ∨ j ≠ 20) → fld F b j = fld Fo b j) ∧ (∀ b j : Nat, tag b ≠ 37 → tag b ≠ 38 → elm F b j = elm Fo b j) := ⟨fun b j n46_0 n46_1 n46_2 n46_20 => (yz83636.1 b j n46_1 n46_2).trans (hfr.1 b j n46_0 n46_1 n46_2 n46_20), fun b j a37 a38 => (yz83636.2 b j ).trans (hfr.2 b j a37 a38)⟩
    exact t_zret hQ X hT (nar_z (by omega)) (⟨(by omega), hfr⟩) (Nat.le_of_ble_eq_true rfl) (Nat.le_of_ble_eq_true rfl) dX13_move_35
  · have w83637 := cv_ne (rfl : z83633.toInt = z83633.toInt) (by decide : (0 : Int32).toInt = 0) c83634
    exfalso
    omega
theorem kp_X13_move (l : Launch) (G : KG) (tag : Nat → Nat) (L : List Nat) (Fo : Nat → va_E) (ho : okT G ttC tag L Fo) (p0 : Nat) (p1 : Int32) (p2 : Int32) (m0 : p0 ∈ L) (g0 : tag p0 = 46) : TMi l yX13_move cX13_move 4 (some .boolean) { frames := 2, cells := 0, slots := 0, locals := 43 } G ttC tag L Fo [.ref p0, .int p1, .int p2] (fun r F1 => (0 ≤ r.toInt ∧ r.toInt ≤ 1) ∧ ((∀ b j : Nat, (tag b ≠ 46 ∨ j ≠ 0) → (tag b ≠ 46 ∨ j ≠ 1) → (tag b ≠ 46 ∨ j ≠ 2) → (tag b ≠ 46 ∨ j ≠ 20) → fld F1 b j = fld Fo b j) ∧ (∀ b j : Nat, tag b ≠ 37 → tag b ≠ 38 → elm F1 b j = elm Fo b j))) := by
  rcases t_fldn ho m0 g0 rfl 3 rfl with h9 | ⟨b9, h9, m9, t9⟩
  · exact km277_X13_move l G tag L Fo ho p0 p1 p2  m0 g0 h9 
  · exact km276_X13_move l G tag L Fo ho p0 p1 p2 b9  m0 g0 m9 (tg_of t9) h9 
set_option maxHeartbeats 4000000 in
set_option maxRecDepth 100000 in
theorem km279_X13_give (l : Launch) (G : KG) (tag : Nat → Nat) (L : List Nat) (Fo : Nat → va_E) (ho : okT G ttC tag L Fo) (p0 : Nat) (p1 : Int32) (p2 : Int32) (p3 : Int32) (x0 : Nat) (m0 : p0 ∈ L) (g0 : tag p0 = 46) (mx0 : x0 ∈ L) (gx0 : tag x0 = 45) (pf0 : fld Fo p0 3 = .ref x0) : TMi l yX13_give cX13_give 4 (some .boolean) { frames := 2, cells := 0, slots := 0, locals := 42 } G ttC tag L Fo [.ref p0, .int p1, .int p2, .int p3] (fun r F1 => (0 ≤ r.toInt ∧ r.toInt ≤ 1) ∧ ((∀ b j : Nat, (tag b ≠ 46 ∨ j ≠ 0) → (tag b ≠ 46 ∨ j ≠ 1) → (tag b ≠ 46 ∨ j ≠ 2) → (tag b ≠ 46 ∨ j ≠ 20) → fld F1 b j = fld Fo b j) ∧ (∀ b j : Nat, tag b ≠ 37 → tag b ≠ 38 → elm F1 b j = elm Fo b j))) := by
  refine t_bodyi (y := yX13_give) (cd := cX13_give) (mL := 4) (rt := (some .boolean)) (rm := { frames := 2, cells := 0, slots := 0, locals := 42 }) (av := [.ref p0, .int p1, .int p2, .int p3]) (by decide) (Nat.le_of_ble_eq_true rfl) ho ?_
  intro p e s m args below meth c ls A Q hQ X hT hl
  have hx := X.1.1
  have hb := X.1.2.1
  have hl : lv_has ls 4 [(0, .ref p0), (1, .int p1), (2, .int p2), (3, .int p3)] := hl
  have rp1 := rg_all p1
  have rp2 := rg_all p2
  have rp3 := rg_all p3
  obtain ⟨F, hFo⟩ : ∃ F : Nat → va_E, F = Fo := ⟨_, rfl⟩
  rw [← hFo] at hT pf0
  have hfr : (∀ b j : Nat, (tag b ≠ 46 ∨ j ≠ 0) → (tag b ≠ 46 ∨ j ≠ 1) → (tag b ≠ 46 ∨ j ≠ 2) → (tag b ≠ 46 ∨ j ≠ 20) → fld F b j = fld Fo b j) ∧ (∀ b j : Nat, tag b ≠ 37 → tag b ≠ 38 → elm F b j = elm Fo b j) := by
    rw [hFo]
    exact ⟨by intros; rfl, by intros; rfl⟩
  refine lv_aload_n hx hb dX13_give_0 rfl (lv_at hl 0 rfl) ?_
  refine lv_iconst (v := 0) hx hb dX13_give_1 (by decide) ?_
  refine t_put (C := RX13) (T := TX13) (N := 37) (v := .int 0) X hT m0 g0 rfl tyX13 tyX13_ok nmX13 rfl 0 (by decide) qw_140 inlX13 rfl (by first | rfl | decide) (by first | rfl | decide) rfl (⟨_, rfl, (show (-2147483648) ≤ (0 : Int32).toInt from (by decide)), (show (0 : Int32).toInt ≤ 2147483647 from (by decide))⟩) dX13_give_2 (fun F H locs hT v84166 h1v84166 h2v84166 => ?_)
  have pf0 := (h1v84166 _ _ (Or.inr (by decide))).trans pf0
  have hfr : (∀ b j : Nat, (tag b ≠ 46 ∨ j ≠ 0) → (tag b ≠ 46 ∨ j ≠ 1) → (tag b ≠ 46 ∨ j ≠ 2) → (tag b ≠ 46 ∨ j ≠ 20) → fld F b j = fld Fo b j) ∧ (∀ b j : Nat, tag b ≠ 37 → tag b ≠ 38 → elm F b j = elm Fo b j) := ⟨fun b j n46_0 n46_1 n46_2 n46_20 => (h1v84166 b j (fr_ne g0 n46_0)).trans (hfr.1 b j n46_0 n46_1 n46_2 n46_20), fun b j a37 a38 => (h2v84166 b j).trans (hfr.2 b j a37 a38)⟩
  refine lv_aload_n hx hb dX13_give_5 rfl (lv_at hl 0 rfl) ?_
  refine lv_iload_n hx hb dX13_give_6 rfl (lv_at hl 1 rfl) ?_
  refine t_cVi (n := 1) (C := RX13) (T := TX13) (N := 37) (As := [.int p1]) (rest := []) X hT (km107_X13_isHouse l G tag L F hT.2.2.2 p0 p1 x0 m0 g0 mx0 gx0 pf0) m0 g0 rfl rfl qw_796 qw_797 qw_798 qw_5 qw_799 ⟨rfl, by decide +kernel, by decide +kernel, by decide +kernel⟩ ⟨Nat.le_of_ble_eq_true rfl, Nat.le_of_ble_eq_true rfl⟩ hl rfl rfl (Nat.le_of_ble_eq_true rfl) dX13_give_7 ⟨Nat.le_of_ble_eq_true rfl, Nat.le_of_ble_eq_true rfl⟩ (fun z84167 F9 H locs hT hz84167 => ?_)
  obtain ⟨fz84167, hz84167⟩ := hz84167
  rw [fz84167] at hT
  obtain ⟨hz84167, iz84167⟩ := hz84167
  refine lv_if_eq (tgt := 26) hx hb dX13_give_10 (by decide) (fun c84168 => ?_) (fun c84168 => ?_)
  · have w84169 := cv_eq (rfl : z84167.toInt = z84167.toInt) (by decide : (0 : Int32).toInt = 0) c84168
    refine lv_aload_n hx hb dX13_give_26 rfl (lv_at hl 0 rfl) ?_
    refine lv_iconst (v := 1) hx hb dX13_give_27 (by decide) ?_
    refine t_cVi (n := 1) (C := RX13) (T := TX13) (N := 37) (As := [.int 1]) (rest := []) X hT (km268_X13_denied l G tag L F hT.2.2.2 p0 1 m0 g0) m0 g0 rfl rfl qw_1468 qw_1469 qw_1470 qw_5 qw_1471 ⟨rfl, by decide +kernel, by decide +kernel, by decide +kernel⟩ ⟨Nat.le_of_ble_eq_true rfl, Nat.le_of_ble_eq_true rfl⟩ hl rfl rfl (Nat.le_of_ble_eq_true rfl) dX13_give_28 ⟨Nat.le_of_ble_eq_true rfl, Nat.le_of_ble_eq_true rfl⟩ (fun z84170 F H locs hT hz84170 => ?_)
    obtain ⟨hz84170, yz84170⟩ := hz84170
    have pf0 := (yz84170.1 _ 3 (Or.inr (by decide)) (Or.inr (by decide))).trans pf0
    have v84166 := (yz84170.1 _ 0 (Or.inr (by decide)) (Or.inr (by decide))).trans v84166
    have hfr : (∀ b j : Nat, (tag b ≠ 46 ∨ j ≠ 0) → (tag b ≠ 46 ∨ j ≠ 1) → (tag b ≠ 46 ∨ j ≠ 2) → (tag b ≠ 46 ∨ j ≠ 20) → fld F b j = fld Fo b j) ∧ (∀ b j : Nat, tag b ≠ 37 → tag b ≠ 38 → elm F b j = elm Fo b j) := ⟨fun b j n46_0 n46_1 n46_2 n46_20 => (yz84170.1 b j n46_1 n46_2).trans (hfr.1 b j n46_0 n46_1 n46_2 n46_20), fun b j a37 a38 => (yz84170.2 b j ).trans (hfr.2 b j a37 a38)⟩
    exact t_zret hQ X hT (nar_z (by omega)) (⟨(by omega), hfr⟩) (Nat.le_of_ble_eq_true rfl) (Nat.le_of_ble_eq_true rfl) dX13_give_31
  · have w84171 := cv_ne (rfl : z84167.toInt = z84167.toInt) (by decide : (0 : Int32).toInt = 0) c84168
    have w84172 := (fun h => (iz84167 h)) (by omega)
    refine lv_aload_n hx hb dX13_give_13 rfl (lv_at hl 0 rfl) ?_
    refine lv_iload_n hx hb dX13_give_14 rfl (lv_at hl 2 rfl) ?_
    refine t_cVi (n := 1) (C := RX13) (T := TX13) (N := 37) (As := [.int p2]) (rest := []) X hT (km107_X13_isHouse l G tag L F hT.2.2.2 p0 p2 x0 m0 g0 mx0 gx0 pf0) m0 g0 rfl rfl qw_796 qw_797 qw_798 qw_5 qw_799 ⟨rfl, by decide +kernel, by decide +kernel, by decide +kernel⟩ ⟨Nat.le_of_ble_eq_true rfl, Nat.le_of_ble_eq_true rfl⟩ hl rfl rfl (Nat.le_of_ble_eq_true rfl) dX13_give_15 ⟨Nat.le_of_ble_eq_true rfl, Nat.le_of_ble_eq_true rfl⟩ (fun z84173 F9 H locs hT hz84173 => ?_)
    obtain ⟨fz84173, hz84173⟩ := hz84173
    rw [fz84173] at hT
    obtain ⟨hz84173, iz84173⟩ := hz84173
    refine lv_if_eq (tgt := 26) hx hb dX13_give_18 (by decide) (fun c84174 => ?_) (fun c84174 => ?_)
    · have w84175 := cv_eq (rfl : z84173.toInt = z84173.toInt) (by decide : (0 : Int32).toInt = 0) c84174
      refine lv_aload_n hx hb dX13_give_26 rfl (lv_at hl 0 rfl) ?_
      refine lv_iconst (v := 1) hx hb dX13_give_27 (by decide) ?_
      refine t_cVi (n := 1) (C := RX13) (T := TX13) (N := 37) (As := [.int 1]) (rest := []) X hT (km268_X13_denied l G tag L F hT.2.2.2 p0 1 m0 g0) m0 g0 rfl rfl qw_1468 qw_1469 qw_1470 qw_5 qw_1471 ⟨rfl, by decide +kernel, by decide +kernel, by decide +kernel⟩ ⟨Nat.le_of_ble_eq_true rfl, Nat.le_of_ble_eq_true rfl⟩ hl rfl rfl (Nat.le_of_ble_eq_true rfl) dX13_give_28 ⟨Nat.le_of_ble_eq_true rfl, Nat.le_of_ble_eq_true rfl⟩ (fun z84176 F H locs hT hz84176 => ?_)
      obtain ⟨hz84176, yz84176⟩ := hz84176
      have pf0 := (yz84176.1 _ 3 (Or.inr (by decide)) (Or.inr (by decide))).trans pf0
      have v84166 := (yz84176.1 _ 0 (Or.inr (by decide)) (Or.inr (by decide))).trans v84166
      have hfr : (∀ b j : Nat, (tag b ≠ 46 ∨ j ≠ 0) → (tag b ≠ 46 ∨ j ≠ 1) → (tag b ≠ 46 ∨ j ≠ 2) → (tag b ≠ 46 ∨ j ≠ 20) → fld F b j = fld Fo b j) ∧ (∀ b j : Nat, tag b ≠ 37 → tag b ≠ 38 → elm F b j = elm Fo b j) := ⟨fun b j n46_0 n46_1 n46_2 n46_20 => (yz84176.1 b j n46_1 n46_2).trans (hfr.1 b j n46_0 n46_1 n46_2 n46_20), fun b j a37 a38 => (yz84176.2 b j ).trans (hfr.2 b j a37 a38)⟩
      exact t_zret hQ X hT (nar_z (by omega)) (⟨(by omega), hfr⟩) (Nat.le_of_ble_eq_true rfl) (Nat.le_of_ble_eq_true rfl) dX13_give_31
    · have w84177 := cv_ne (rfl : z84173.toInt = z84173.toInt) (by decide : (0 : Int32).toInt = 0) c84174
      have w84178 := (fun h => (iz84173 h)) (by omega)
      refine lv_iload_n hx hb dX13_give_21 rfl (lv_at hl 1 rfl) ?_
      refine lv_iload_n hx hb dX13_give_22 rfl (lv_at hl 2 rfl) ?_
      refine lv_icmp_ne (tgt := 32) hx hb dX13_give_23 (by decide) (fun c84179 => ?_) (fun c84179 => ?_)
      · have w84180 := cv_ne (rfl : p1.toInt = p1.toInt) (rfl : p2.toInt = p2.toInt) c84179
        refine lv_iload_n hx hb dX13_give_32 rfl (lv_at hl 3 rfl) ?_
        refine lv_iconst (v := 1) hx hb dX13_give_33 (by decide) ?_
        refine lv_aload_n hx hb dX13_give_34 rfl (lv_at hl 0 rfl) ?_
        refine t_get (C := RX13) (T := TX13) (N := 37) X hT m0 g0 rfl rfl 16 (by decide) qw_112 inlX13 rfl dX13_give_35 (fun v84181 hv84181 ov84181 => ?_)
        obtain ⟨b84182, rfl, mb84182, gb84182⟩ := okV_r ov84181
        have gb84182 : tag b84182 = 37 := tg_of gb84182
        refine lv_bipush (v := 8) hx hb dX13_give_38 (by decide) ?_
        refine lv_iload_n hx hb dX13_give_40 rfl (lv_at hl 1 rfl) ?_
        refine lv_iadd hx hb dX13_give_41 ?_
        refine lv_topi (fun z84183 ez84183 => ?_)
        have hz84183 : z84183.toInt = 8 + p1.toInt := ar_add ez84183 (by decide : (8 : Int32).toInt = 8) (rfl : p1.toInt = p1.toInt) (by omega) (by omega)
        have rz84183 : 8 ≤ z84183.toInt ∧ z84183.toInt ≤ 11 := by omega
        refine t_ild X hT mb84182 gb84182 rfl (by omega) dX13_give_42 (fun z84184 vz84184 rz84184 => ?_)
        have oz84184 := rz84184
        have rz84184 := rg_all z84184
        refine t_cSi (n := 3) (As := [.int p3, .int 1, .int z84184]) (rest := []) X hT (km19_X13_within l G tag L F hT.2.2.2 p3 1 z84184 ) qw_568 qw_569 qw_5 qw_570 ⟨by decide +kernel, by decide +kernel, by decide +kernel⟩ ⟨Nat.le_of_ble_eq_true rfl, Nat.le_of_ble_eq_true rfl⟩ hl rfl rfl (Nat.le_of_ble_eq_true rfl) dX13_give_43 ⟨Nat.le_of_ble_eq_true rfl, Nat.le_of_ble_eq_true rfl⟩ (fun z84185 F9 H locs hT hz84185 => ?_)
        obtain ⟨fz84185, hz84185, xz84185_0⟩ := hz84185
        rw [fz84185] at hT
        have k84186 : (1 : Int32).toInt = 1 := by decide
        refine lv_if_eq (tgt := 66) hx hb dX13_give_46 (by decide) (fun c84187 => ?_) (fun c84187 => ?_)
        · have w84188 := cv_eq (rfl : z84185.toInt = z84185.toInt) (by decide : (0 : Int32).toInt = 0) c84187
          refine lv_aload_n hx hb dX13_give_66 rfl (lv_at hl 0 rfl) ?_
          refine lv_iconst (v := 2) hx hb dX13_give_67 (by decide) ?_
          refine t_cVi (n := 1) (C := RX13) (T := TX13) (N := 37) (As := [.int 2]) (rest := []) X hT (km268_X13_denied l G tag L F hT.2.2.2 p0 2 m0 g0) m0 g0 rfl rfl qw_1468 qw_1469 qw_1470 qw_5 qw_1471 ⟨rfl, by decide +kernel, by decide +kernel, by decide +kernel⟩ ⟨Nat.le_of_ble_eq_true rfl, Nat.le_of_ble_eq_true rfl⟩ hl rfl rfl (Nat.le_of_ble_eq_true rfl) dX13_give_68 ⟨Nat.le_of_ble_eq_true rfl, Nat.le_of_ble_eq_true rfl⟩ (fun z84189 F H locs hT hz84189 => ?_)
          obtain ⟨hz84189, yz84189⟩ := hz84189
          have pf0 := (yz84189.1 _ 3 (Or.inr (by decide)) (Or.inr (by decide))).trans pf0
          have v84166 := (yz84189.1 _ 0 (Or.inr (by decide)) (Or.inr (by decide))).trans v84166
          have hv84181 := (yz84189.1 _ 16 (Or.inr (by decide)) (Or.inr (by decide))).trans hv84181
          have vz84184 := (yz84189.2 _ _ ).trans vz84184
          have hfr : (∀ b j : Nat, (tag b ≠ 46 ∨ j ≠ 0) → (tag b ≠ 46 ∨ j ≠ 1) → (tag b ≠ 46 ∨ j ≠ 2) → (tag b ≠ 46 ∨ j ≠ 20) → fld F b j = fld Fo b j) ∧ (∀ b j : Nat, tag b ≠ 37 → tag b ≠ 38 → elm F b j = elm Fo b j) := ⟨fun b j n46_0 n46_1 n46_2 n46_20 => (yz84189.1 b j n46_1 n46_2).trans (hfr.1 b j n46_0 n46_1 n46_2 n46_20), fun b j a37 a38 => (yz84189.2 b j ).trans (hfr.2 b j a37 a38)⟩
          exact t_zret hQ X hT (nar_z (by omega)) (⟨(by omega), hfr⟩) (Nat.le_of_ble_eq_true rfl) (Nat.le_of_ble_eq_true rfl) dX13_give_71
        · have w84190 := cv_ne (rfl : z84185.toInt = z84185.toInt) (by decide : (0 : Int32).toInt = 0) c84187
          have w84191 := xz84185_0 (by omega)
          refine lv_aload_n hx hb dX13_give_49 rfl (lv_at hl 0 rfl) ?_
          refine t_get (C := RX13) (T := TX13) (N := 37) X hT m0 g0 rfl rfl 16 (by decide) qw_112 inlX13 rfl dX13_give_50 (fun v84192 hv84192 ov84192 => ?_)
          obtain rfl : v84192 = .ref b84182 := hv84192.symm.trans hv84181
          refine lv_bipush (v := 8) hx hb dX13_give_53 (by decide) ?_
          refine lv_iload_n hx hb dX13_give_55 rfl (lv_at hl 2 rfl) ?_
          refine lv_iadd hx hb dX13_give_56 ?_
          refine lv_topi (fun z84193 ez84193 => ?_)
          have hz84193 : z84193.toInt = 8 + p2.toInt := ar_add ez84193 (by decide : (8 : Int32).toInt = 8) (rfl : p2.toInt = p2.toInt) (by omega) (by omega)
          have rz84193 : 8 ≤ z84193.toInt ∧ z84193.toInt ≤ 11 := by omega
          refine t_ild X hT mb84182 gb84182 rfl (by omega) dX13_give_57 (fun z84194 vz84194 rz84194 => ?_)
          have oz84194 := rz84194
          have rz84194 := rg_all z84194
          refine lv_iload_n hx hb dX13_give_58 rfl (lv_at hl 3 rfl) ?_
          refine lv_iadd hx hb dX13_give_59 ?_
          refine lv_topi (fun z84195 ez84195 => ?_)
          have rz84195 := rg_all z84195
          refine lv_sipush (v := 999) hx hb dX13_give_60 (by decide) ?_
          refine lv_icmp_le (tgt := 72) hx hb dX13_give_63 (by decide) (fun c84196 => ?_) (fun c84196 => ?_)
          · have w84197 := cv_le (rfl : z84195.toInt = z84195.toInt) (by decide : (999 : Int32).toInt = 999) c84196
            refine lv_aload_n hx hb dX13_give_72 rfl (lv_at hl 0 rfl) ?_
            refine t_cVv (n := 0) (C := RX13) (T := TX13) (N := 37) (As := []) (rest := []) X hT (km245_X13_keeps l G tag L F hT.2.2.2 p0 m0 g0) m0 g0 rfl rfl qw_1437 qw_1438 qw_1439 qw_5 qw_1440 ⟨rfl, by decide +kernel, by decide +kernel, by decide +kernel⟩ ⟨Nat.le_of_ble_eq_true rfl, Nat.le_of_ble_eq_true rfl⟩ hl rfl rfl (Nat.le_of_ble_eq_true rfl) dX13_give_73 ⟨Nat.le_of_ble_eq_true rfl, Nat.le_of_ble_eq_true rfl⟩ (fun F H locs hT hz84198 => ?_)
            have yz84198 := hz84198
            have pf0 := (yz84198.1 _ 3 (Or.inr (by decide))).trans pf0
            have v84166 := (yz84198.1 _ 0 (Or.inr (by decide))).trans v84166
            have hv84181 := (yz84198.1 _ 16 (Or.inr (by decide))).trans hv84181
            have vz84184 := (yz84198.2 _ _ (by rw [gb84182]; decide)).trans vz84184
            have vz84194 := (yz84198.2 _ _ (by rw [gb84182]; decide)).trans vz84194
            have hfr : (∀ b j : Nat, (tag b ≠ 46 ∨ j ≠ 0) → (tag b ≠ 46 ∨ j ≠ 1) → (tag b ≠ 46 ∨ j ≠ 2) → (tag b ≠ 46 ∨ j ≠ 20) → fld F b j = fld Fo b j) ∧ (∀ b j : Nat, tag b ≠ 37 → tag b ≠ 38 → elm F b j = elm Fo b j) := ⟨fun b j n46_0 n46_1 n46_2 n46_20 => (yz84198.1 b j n46_20).trans (hfr.1 b j n46_0 n46_1 n46_2 n46_20), fun b j a37 a38 => (yz84198.2 b j a38).trans (hfr.2 b j a37 a38)⟩
            refine lv_aload_n hx hb dX13_give_76 rfl (lv_at hl 0 rfl) ?_
            refine t_get (C := RX13) (T := TX13) (N := 37) X hT m0 g0 rfl rfl 16 (by decide) qw_112 inlX13 rfl dX13_give_77 (fun v84199 hv84199 ov84199 => ?_)
            obtain rfl : v84199 = .ref b84182 := hv84199.symm.trans hv84181
            refine lv_bipush (v := 8) hx hb dX13_give_80 (by decide) ?_
            refine lv_iload_n hx hb dX13_give_82 rfl (lv_at hl 1 rfl) ?_
            refine lv_iadd hx hb dX13_give_83 ?_
            refine lv_topi (fun z84200 ez84200 => ?_)
            have hz84200 : z84200.toInt = 8 + p1.toInt := ar_add ez84200 (by decide : (8 : Int32).toInt = 8) (rfl : p1.toInt = p1.toInt) (by omega) (by omega)
            have rz84200 : 8 ≤ z84200.toInt ∧ z84200.toInt ≤ 11 := by omega
            refine lv_dup2_11 hx hb dX13_give_84 rfl rfl ?_
            refine t_ild X hT mb84182 gb84182 rfl (by omega) dX13_give_85 (fun z84201 vz84201 rz84201 => ?_)
            have oz84201 := rz84201
            have rz84201 := rg_all z84201
            refine lv_iload_n hx hb dX13_give_86 rfl (lv_at hl 3 rfl) ?_
            refine lv_isub hx hb dX13_give_87 ?_
            refine lv_topi (fun z84202 ez84202 => ?_)
            have rz84202 := rg_all z84202
            refine t_ist X hT mb84182 gb84182 rfl (by omega) (row_fv (by omega) (Or.inl (by omega))) dX13_give_88 (fun F H locs hT v84203 h1v84203 h2v84203 => ?_)
            have pf0 := (h2v84203 _ _).trans pf0
            have v84166 := (h2v84203 _ _).trans v84166
            have hv84181 := (h2v84203 _ _).trans hv84181
            have hfr : (∀ b j : Nat, (tag b ≠ 46 ∨ j ≠ 0) → (tag b ≠ 46 ∨ j ≠ 1) → (tag b ≠ 46 ∨ j ≠ 2) → (tag b ≠ 46 ∨ j ≠ 20) → fld F b j = fld Fo b j) ∧ (∀ b j : Nat, tag b ≠ 37 → tag b ≠ 38 → elm F b j = elm Fo b j) := ⟨fun b j n46_0 n46_1 n46_2 n46_20 => (h2v84203 b j).trans (hfr.1 b j n46_0 n46_1 n46_2 n46_20), fun b j a37 a38 => (h1v84203 b j (Or.inl (at_ne gb84182 a37))).trans (hfr.2 b j a37 a38)⟩
            refine lv_aload_n hx hb dX13_give_89 rfl (lv_at hl 0 rfl) ?_
            refine t_get (C := RX13) (T := TX13) (N := 37) X hT m0 g0 rfl rfl 16 (by decide) qw_112 inlX13 rfl dX13_give_90 (fun v84204 hv84204 ov84204 => ?_)
            obtain rfl : v84204 = .ref b84182 := hv84204.symm.trans hv84181
            refine lv_bipush (v := 8) hx hb dX13_give_93 (by decide) ?_
            refine lv_iload_n hx hb dX13_give_95 rfl (lv_at hl 2 rfl) ?_
            refine lv_iadd hx hb dX13_give_96 ?_
            refine lv_topi (fun z84205 ez84205 => ?_)
            have hz84205 : z84205.toInt = 8 + p2.toInt := ar_add ez84205 (by decide : (8 : Int32).toInt = 8) (rfl : p2.toInt = p2.toInt) (by omega) (by omega)
            have rz84205 : 8 ≤ z84205.toInt ∧ z84205.toInt ≤ 11 := by omega
            refine lv_dup2_11 hx hb dX13_give_97 rfl rfl ?_
            refine t_ild X hT mb84182 gb84182 rfl (by omega) dX13_give_98 (fun z84206 vz84206 rz84206 => ?_)
            have oz84206 := rz84206
            have rz84206 := rg_all z84206
            refine lv_iload_n hx hb dX13_give_99 rfl (lv_at hl 3 rfl) ?_
            refine lv_iadd hx hb dX13_give_100 ?_
            refine lv_topi (fun z84207 ez84207 => ?_)
            have rz84207 := rg_all z84207
            refine t_ist X hT mb84182 gb84182 rfl (by omega) (row_fv (by omega) (Or.inl (by omega))) dX13_give_101 (fun F H locs hT v84208 h1v84208 h2v84208 => ?_)
            have pf0 := (h2v84208 _ _).trans pf0
            have v84166 := (h2v84208 _ _).trans v84166
            have hv84181 := (h2v84208 _ _).trans hv84181
            have hfr : (∀ b j : Nat, (tag b ≠ 46 ∨ j ≠ 0) → (tag b ≠ 46 ∨ j ≠ 1) → (tag b ≠ 46 ∨ j ≠ 2) → (tag b ≠ 46 ∨ j ≠ 20) → fld F b j = fld Fo b j) ∧ (∀ b j : Nat, tag b ≠ 37 → tag b ≠ 38 → elm F b j = elm Fo b j) := ⟨fun b j n46_0 n46_1 n46_2 n46_20 => (h2v84208 b j).trans (hfr.1 b j n46_0 n46_1 n46_2 n46_20), fun b j a37 a38 => (h1v84208 b j (Or.inl (at_ne gb84182 a37))).trans (hfr.2 b j a37 a38)⟩
            refine lv_aload_n hx hb dX13_give_102 rfl (lv_at hl 0 rfl) ?_
            refine t_cVi (n := 0) (C := RX13) (T := TX13) (N := 37) (As := []) (rest := []) X hT (km269_X13_granted l G tag L F hT.2.2.2 p0 m0 g0) m0 g0 rfl rfl qw_1472 qw_1473 qw_1474 qw_5 qw_1475 ⟨rfl, by decide +kernel, by decide +kernel, by decide +kernel⟩ ⟨Nat.le_of_ble_eq_true rfl, Nat.le_of_ble_eq_true rfl⟩ hl rfl rfl (Nat.le_of_ble_eq_true rfl) dX13_give_103 ⟨Nat.le_of_ble_eq_true rfl, Nat.le_of_ble_eq_true rfl⟩ (fun z84209 F H locs hT hz84209 => ?_)
            obtain ⟨hz84209, yz84209⟩ := hz84209
            have pf0 := (yz84209.1 _ 3 (Or.inr (by decide)) (Or.inr (by decide))).trans pf0
            have v84166 := (yz84209.1 _ 0 (Or.inr (by decide)) (Or.inr (by decide))).trans v84166
            have hv84181 := (yz84209.1 _ 16 (Or.inr (by decide)) (Or.inr (by decide))).trans hv84181
            have v84208 := (yz84209.2 _ _ ).trans v84208
            have hfr : (∀ b j : Nat, (tag b ≠ 46 ∨ j ≠ 0) → (tag b ≠ 46 ∨ j ≠ 1) → (tag b ≠ 46 ∨ j ≠ 2) → (tag b ≠ 46 ∨ j ≠ 20) → fld F b j = fld Fo b j) ∧ (∀ b j : Nat, tag b ≠ 37 → tag b ≠ 38 → elm F b j = elm Fo b j) := ⟨fun b j n46_0 n46_1 n46_2 n46_20 => (yz84209.1 b j n46_1 n46_2).trans (hfr.1 b j n46_0 n46_1 n46_2 n46_20), fun b j a37 a38 => (yz84209.2 b j ).trans (hfr.2 b j a37 a38)⟩
            exact t_zret hQ X hT (nar_z (by omega)) (⟨(by omega), hfr⟩) (Nat.le_of_ble_eq_true rfl) (Nat.le_of_ble_eq_true rfl) dX13_give_106
          · have w84210 := cv_nle (rfl : z84195.toInt = z84195.toInt) (by decide : (999 : Int32).toInt = 999) c84196
            refine lv_aload_n hx hb dX13_give_66 rfl (lv_at hl 0 rfl) ?_
            refine lv_iconst (v := 2) hx hb dX13_give_67 (by decide) ?_
            refine t_cVi (n := 1) (C := RX13) (T := TX13) (N := 37) (As := [.int 2]) (rest := []) X hT (km268_X13_denied l G tag L F hT.2.2.2 p0 2 m0 g0) m0 g0 rfl rfl qw_1468 qw_1469 qw_1470 qw_5 qw_1471 ⟨rfl, by decide +kernel, by decide +kernel, by decide +kernel⟩ ⟨Nat.le_of_ble_eq_true rfl, Nat.le_of_ble_eq_true rfl⟩ hl rfl rfl (Nat.le_of_ble_eq_true rfl) dX13_give_68 ⟨Nat.le_of_ble_eq_true rfl, Nat.le_of_ble_eq_true rfl⟩ (fun z84211 F H locs hT hz84211 => ?_)
            obtain ⟨hz84211, yz84211⟩ := hz84211
            have pf0 := (yz84211.1 _ 3 (Or.inr (by decide)) (Or.inr (by decide))).trans pf0
            have v84166 := (yz84211.1 _ 0 (Or.inr (by decide)) (Or.inr (by decide))).trans v84166
            have hv84181 := (yz84211.1 _ 16 (Or.inr (by decide)) (Or.inr (by decide))).trans hv84181
            have vz84184 := (yz84211.2 _ _ ).trans vz84184
            have vz84194 := (yz84211.2 _ _ ).trans vz84194
            have hfr : (∀ b j : Nat, (tag b ≠ 46 ∨ j ≠ 0) → (tag b ≠ 46 ∨ j ≠ 1) → (tag b ≠ 46 ∨ j ≠ 2) → (tag b ≠ 46 ∨ j ≠ 20) → fld F b j = fld Fo b j) ∧ (∀ b j : Nat, tag b ≠ 37 → tag b ≠ 38 → elm F b j = elm Fo b j) := ⟨fun b j n46_0 n46_1 n46_2 n46_20 => (yz84211.1 b j n46_1 n46_2).trans (hfr.1 b j n46_0 n46_1 n46_2 n46_20), fun b j a37 a38 => (yz84211.2 b j ).trans (hfr.2 b j a37 a38)⟩
            exact t_zret hQ X hT (nar_z (by omega)) (⟨(by omega), hfr⟩) (Nat.le_of_ble_eq_true rfl) (Nat.le_of_ble_eq_true rfl) dX13_give_71
      · have w84212 := cv_eq (rfl : p1.toInt = p1.toInt) (rfl : p2.toInt = p2.toInt) c84179
        refine lv_aload_n hx hb dX13_give_26 rfl (lv_at hl 0 rfl) ?_
        refine lv_iconst (v := 1) hx hb dX13_give_27 (by decide) ?_
        refine t_cVi (n := 1) (C := RX13) (T := TX13) (N := 37) (As := [.int 1]) (rest := []) X hT (km268_X13_denied l G tag L F hT.2.2.2 p0 1 m0 g0) m0 g0 rfl rfl qw_1468 qw_1469 qw_1470 qw_5 qw_1471 ⟨rfl, by decide +kernel, by decide +kernel, by decide +kernel⟩ ⟨Nat.le_of_ble_eq_true rfl, Nat.le_of_ble_eq_true rfl⟩ hl rfl rfl (Nat.le_of_ble_eq_true rfl) dX13_give_28 ⟨Nat.le_of_ble_eq_true rfl, Nat.le_of_ble_eq_true rfl⟩ (fun z84213 F H locs hT hz84213 => ?_)
        obtain ⟨hz84213, yz84213⟩ := hz84213
        have pf0 := (yz84213.1 _ 3 (Or.inr (by decide)) (Or.inr (by decide))).trans pf0
        have v84166 := (yz84213.1 _ 0 (Or.inr (by decide)) (Or.inr (by decide))).trans v84166
        have hfr : (∀ b j : Nat, (tag b ≠ 46 ∨ j ≠ 0) → (tag b ≠ 46 ∨ j ≠ 1) → (tag b ≠ 46 ∨ j ≠ 2) → (tag b ≠ 46 ∨ j ≠ 20) → fld F b j = fld Fo b j) ∧ (∀ b j : Nat, tag b ≠ 37 → tag b ≠ 38 → elm F b j = elm Fo b j) := ⟨fun b j n46_0 n46_1 n46_2 n46_20 => (yz84213.1 b j n46_1 n46_2).trans (hfr.1 b j n46_0 n46_1 n46_2 n46_20), fun b j a37 a38 => (yz84213.2 b j ).trans (hfr.2 b j a37 a38)⟩
        exact t_zret hQ X hT (nar_z (by omega)) (⟨(by omega), hfr⟩) (Nat.le_of_ble_eq_true rfl) (Nat.le_of_ble_eq_true rfl) dX13_give_31
