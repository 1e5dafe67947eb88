set_option maxHeartbeats 4000000 in
set_option maxRecDepth 100000 in
theorem kt464_X3_readWall (l : Launch) (G : KG) (tag : Nat → Nat) (L : List Nat) (Fo : Nat → va_E) (ho : okT G ttC tag L Fo) (p0 : Nat) (x0 : Nat) (x1 : Nat) (x2 : Nat) (x3 : Nat) (x4 : Nat) (x5 : Nat) (x6 : Int32) (m0 : p0 ∈ L) (g0 : tag p0 = 25) (mx0 : x0 ∈ L) (gx0 : tag x0 = 24) (pf0 : fld Fo p0 0 = .ref x0) (mx1 : x1 ∈ L) (gx1 : tag x1 = 18) (pf1 : fld Fo p0 1 = .ref x1) (mx2 : x2 ∈ L) (gx2 : tag x2 = 19) (pf2 : fld Fo p0 2 = .ref x2) (mx3 : x3 ∈ L) (gx3 : tag x3 = 1) (pf3 : fld Fo x0 0 = .ref x3) (mx4 : x4 ∈ L) (gx4 : tag x4 = 14) (pf4 : fld Fo p0 10 = .ref x4) (mx5 : x5 ∈ L) (gx5 : tag x5 = 15) (pf5 : fld Fo p0 11 = .ref x5) (hx6 : 0 ≤ x6.toInt ∧ x6.toInt ≤ 5) (pf6 : fld Fo x1 16 = .int x6) (hrel : NSR Fo x4 x5) : TMv l yX3_readWall cX3_readWall 1 { frames := 7, cells := 0, slots := 0, locals := 150 } G ttC tag L Fo [.ref p0] (fun F1 => (∀ b j : Nat, (tag b ≠ 18 ∨ j ≠ 16) → (tag b ≠ 24 ∨ j ≠ 2) → (tag b ≠ 24 ∨ j ≠ 3) → (tag b ≠ 24 ∨ j ≠ 4) → (tag b ≠ 24 ∨ j ≠ 5) → (tag b ≠ 24 ∨ j ≠ 6) → (tag b ≠ 24 ∨ j ≠ 7) → (tag b ≠ 25 ∨ j ≠ 3) → (tag b ≠ 25 ∨ j ≠ 4) → (tag b ≠ 25 ∨ j ≠ 12) → fld F1 b j = fld Fo b j) ∧ (NSR F1 x4 x5)) := by
  refine t_bodyv (y := yX3_readWall) (cd := cX3_readWall) (mL := 1) (rm := { frames := 7, cells := 0, slots := 0, locals := 150 }) (av := [.ref p0]) (by decide) (Nat.le_of_ble_eq_true rfl) ho ?_
  intro p e s m args below meth c ls A Q hQ X hT hl
  have hx := X.1.1
  have hb := X.1.2.1
  have hl : lv_has ls 1 [(0, .ref p0)] := hl
  obtain ⟨F, hFo⟩ : ∃ F : Nat → va_E, F = Fo := ⟨_, rfl⟩
  rw [← hFo] at hT pf0 pf1 pf2 pf3 pf4 pf5 pf6 hrel
  have hfr : ∀ b j : Nat, (tag b ≠ 18 ∨ j ≠ 16) → (tag b ≠ 24 ∨ j ≠ 2) → (tag b ≠ 24 ∨ j ≠ 3) → (tag b ≠ 24 ∨ j ≠ 4) → (tag b ≠ 24 ∨ j ≠ 5) → (tag b ≠ 24 ∨ j ≠ 6) → (tag b ≠ 24 ∨ j ≠ 7) → (tag b ≠ 25 ∨ j ≠ 3) → (tag b ≠ 25 ∨ j ≠ 4) → (tag b ≠ 25 ∨ j ≠ 12) → fld F b j = fld Fo b j := by
    rw [hFo]
    intros
    rfl
  refine lv_aload_n hx hb dX3_readWall_0 rfl (lv_at hl 0 rfl) ?_
  refine lv_bipush (v := 7) hx hb dX3_readWall_1 (by decide) ?_
  refine lv_aload_n hx hb dX3_readWall_3 rfl (lv_at hl 0 rfl) ?_
  refine t_get (C := RX3) (T := TX3) (N := 13) X hT m0 g0 rfl rfl 1 (by decide) qw_161 inlX3 rfl dX3_readWall_4 (fun v158057 hv158057 ov158057 => ?_)
  obtain rfl : v158057 = .ref x1 := hv158057.symm.trans pf1
  refine t_get (C := RX1) (T := TX1) (N := 20) X hT mx1 gx1 rfl rfl 16 (by decide) qw_304 inlX1 rfl dX3_readWall_7 (fun v158058 hv158058 ov158058 => ?_)
  obtain rfl : v158058 = .int x6 := hv158058.symm.trans pf6
  refine t_cVv (n := 2) (C := RX3) (T := TX3) (N := 13) (As := [.int 7, .int x6]) (rest := []) X hT (kt463_X3_newName l G tag L F hT.2.2.2 p0 7 x6 x0 x1 x2 x3 x4 x5 m0 g0 (by decide) (by omega) mx0 gx0 pf0 mx1 gx1 pf1 mx2 gx2 pf2 mx3 gx3 pf3 mx4 gx4 pf4 mx5 gx5 pf5 hrel) m0 g0 rfl rfl qw_356 qw_357 qw_358 qw_28 qw_359 ⟨rfl, by decide +kernel, by decide +kernel, by decide +kernel⟩ ⟨Nat.le_of_ble_eq_true rfl, Nat.le_of_ble_eq_true rfl⟩ hl rfl rfl (Nat.le_of_ble_eq_true rfl) dX3_readWall_10 ⟨Nat.le_of_ble_eq_true rfl, Nat.le_of_ble_eq_true rfl⟩ (fun F H locs hT hz158059 => ?_)
  obtain ⟨yz158059, hrel⟩ := hz158059
  have pf0 := (yz158059 _ 0 (Or.inr (by decide)) (Or.inr (by decide)) (Or.inr (by decide)) (Or.inr (by decide)) (Or.inr (by decide)) (Or.inr (by decide)) (Or.inr (by decide)) (Or.inr (by decide)) (Or.inr (by decide))).trans pf0
  have pf1 := (yz158059 _ 1 (Or.inr (by decide)) (Or.inr (by decide)) (Or.inr (by decide)) (Or.inr (by decide)) (Or.inr (by decide)) (Or.inr (by decide)) (Or.inr (by decide)) (Or.inr (by decide)) (Or.inr (by decide))).trans pf1
  have pf2 := (yz158059 _ 2 (Or.inl (by rw [g0]; decide)) (Or.inr (by decide)) (Or.inr (by decide)) (Or.inr (by decide)) (Or.inr (by decide)) (Or.inr (by decide)) (Or.inr (by decide)) (Or.inr (by decide)) (Or.inr (by decide))).trans pf2
  have pf3 := (yz158059 _ 0 (Or.inr (by decide)) (Or.inr (by decide)) (Or.inr (by decide)) (Or.inr (by decide)) (Or.inr (by decide)) (Or.inr (by decide)) (Or.inr (by decide)) (Or.inr (by decide)) (Or.inr (by decide))).trans pf3
  have pf4 := (yz158059 _ 10 (Or.inr (by decide)) (Or.inr (by decide)) (Or.inr (by decide)) (Or.inr (by decide)) (Or.inr (by decide)) (Or.inr (by decide)) (Or.inr (by decide)) (Or.inr (by decide)) (Or.inr (by decide))).trans pf4
  have pf5 := (yz158059 _ 11 (Or.inr (by decide)) (Or.inr (by decide)) (Or.inr (by decide)) (Or.inr (by decide)) (Or.inr (by decide)) (Or.inr (by decide)) (Or.inr (by decide)) (Or.inr (by decide)) (Or.inr (by decide))).trans pf5
  have pf6 := (yz158059 _ 16 (Or.inr (by decide)) (Or.inr (by decide)) (Or.inr (by decide)) (Or.inr (by decide)) (Or.inr (by decide)) (Or.inr (by decide)) (Or.inr (by decide)) (Or.inr (by decide)) (Or.inr (by decide))).trans pf6
  have hfr : ∀ b j : Nat, (tag b ≠ 18 ∨ j ≠ 16) → (tag b ≠ 24 ∨ j ≠ 2) → (tag b ≠ 24 ∨ j ≠ 3) → (tag b ≠ 24 ∨ j ≠ 4) → (tag b ≠ 24 ∨ j ≠ 5) → (tag b ≠ 24 ∨ j ≠ 6) → (tag b ≠ 24 ∨ j ≠ 7) → (tag b ≠ 25 ∨ j ≠ 3) → (tag b ≠ 25 ∨ j ≠ 4) → (tag b ≠ 25 ∨ j ≠ 12) → fld F b j = fld Fo b j := fun b j n18_16 n24_2 n24_3 n24_4 n24_5 n24_6 n24_7 n25_3 n25_4 n25_12 => (yz158059 b j n24_2 n24_3 n24_4 n24_5 n24_6 n24_7 n25_3 n25_4 n25_12).trans (hfr b j n18_16 n24_2 n24_3 n24_4 n24_5 n24_6 n24_7 n25_3 n25_4 n25_12)
  refine lv_aload_n hx hb dX3_readWall_13 rfl (lv_at hl 0 rfl) ?_
  refine t_get (C := RX3) (T := TX3) (N := 13) X hT m0 g0 rfl rfl 1 (by decide) qw_161 inlX3 rfl dX3_readWall_14 (fun v158060 hv158060 ov158060 => ?_)
  obtain rfl : v158060 = .ref x1 := hv158060.symm.trans pf1
  refine lv_dup hx hb dX3_readWall_17 rfl ?_
  refine t_get (C := RX1) (T := TX1) (N := 20) X hT mx1 gx1 rfl rfl 16 (by decide) qw_304 inlX1 rfl dX3_readWall_18 (fun v158061 hv158061 ov158061 => ?_)
  obtain rfl : v158061 = .int x6 := hv158061.symm.trans pf6
  refine lv_iconst (v := 1) hx hb dX3_readWall_21 (by decide) ?_
  refine lv_iadd hx hb dX3_readWall_22 ?_
  refine lv_topi (fun z158062 ez158062 => ?_)
  have hz158062 : z158062.toInt = x6.toInt + 1 := ar_add ez158062 (rfl : x6.toInt = x6.toInt) (by decide : (1 : Int32).toInt = 1) (by omega) (by omega)
  have rz158062 : 1 ≤ z158062.toInt ∧ z158062.toInt ≤ 6 := by omega
  refine t_put (C := RX1) (T := TX1) (N := 20) (v := .int z158062) X hT mx1 gx1 rfl tyX1 tyX1_ok nmX1 rfl 16 (by decide) qw_304 inlX1 rfl (by first | rfl | decide) (by first | rfl | decide) rfl (⟨_, rfl, (show 0 ≤ (z158062 : Int32).toInt from (by omega)), (show (z158062 : Int32).toInt ≤ 6 from (by omega))⟩) dX3_readWall_23 (fun F H locs hT v158063 h1v158063 h2v158063 => ?_)
  have pf0 := (h1v158063 _ _ (Or.inr (by decide))).trans pf0
  have pf1 := (h1v158063 _ _ (Or.inr (by decide))).trans pf1
  have pf2 := (h1v158063 _ _ (Or.inr (by decide))).trans pf2
  have pf3 := (h1v158063 _ _ (Or.inr (by decide))).trans pf3
  have pf4 := (h1v158063 _ _ (Or.inr (by decide))).trans pf4
  have pf5 := (h1v158063 _ _ (Or.inr (by decide))).trans pf5
  have hfr : ∀ b j : Nat, (tag b ≠ 18 ∨ j ≠ 16) → (tag b ≠ 24 ∨ j ≠ 2) → (tag b ≠ 24 ∨ j ≠ 3) → (tag b ≠ 24 ∨ j ≠ 4) → (tag b ≠ 24 ∨ j ≠ 5) → (tag b ≠ 24 ∨ j ≠ 6) → (tag b ≠ 24 ∨ j ≠ 7) → (tag b ≠ 25 ∨ j ≠ 3) → (tag b ≠ 25 ∨ j ≠ 4) → (tag b ≠ 25 ∨ j ≠ 12) → fld F b j = fld Fo b j := fun b j n18_16 n24_2 n24_3 n24_4 n24_5 n24_6 n24_7 n25_3 n25_4 n25_12 => (h1v158063 b j (fr_ne gx1 n18_16)).trans (hfr b j n18_16 n24_2 n24_3 n24_4 n24_5 n24_6 n24_7 n25_3 n25_4 n25_12)
  have hrel := nsr_of (fun j => h2v158063 _ j) (fun j => h2v158063 _ j) hrel
  exact t_vret hQ X hT ⟨hfr, hrel⟩ (Nat.le_of_ble_eq_true rfl) (Nat.le_of_ble_eq_true rfl) dX3_readWall_26
set_option maxHeartbeats 4000000 in
set_option maxRecDepth 100000 in
theorem kt465_X3_whole (l : Launch) (G : KG) (tag : Nat → Nat) (L : List Nat) (Fo : Nat → va_E) (ho : okT G ttC tag L Fo) (p0 : Nat) (p1 : Int32) (p2 : Int32) (x0 : Nat) (x1 : Nat) (x2 : Nat) (x3 : Nat) (x4 : Nat) (x5 : Nat) (m0 : p0 ∈ L) (g0 : tag p0 = 25) (h1 : 0 ≤ p1.toInt ∧ p1.toInt ≤ 0) (h2 : 900 ≤ p2.toInt ∧ p2.toInt ≤ 900) (mx0 : x0 ∈ L) (gx0 : tag x0 = 24) (pf0 : fld Fo p0 0 = .ref x0) (mx1 : x1 ∈ L) (gx1 : tag x1 = 18) (pf1 : fld Fo p0 1 = .ref x1) (mx2 : x2 ∈ L) (gx2 : tag x2 = 19) (pf2 : fld Fo p0 2 = .ref x2) (mx3 : x3 ∈ L) (gx3 : tag x3 = 1) (pf3 : fld Fo x0 0 = .ref x3) (mx4 : x4 ∈ L) (gx4 : tag x4 = 14) (pf4 : fld Fo p0 10 = .ref x4) (mx5 : x5 ∈ L) (gx5 : tag x5 = 15) (pf5 : fld Fo p0 11 = .ref x5) : TMi l yX3_whole cX3_whole 4 (some .int) { frames := 3, cells := 0, slots := 0, locals := 62 } G ttC tag L Fo [.ref p0, .int p1, .int p2] (fun r F1 => (0 ≤ r.toInt ∧ r.toInt ≤ 900) ∧ ((∀ b j : Nat, (tag b ≠ 24 ∨ j ≠ 2) → (tag b ≠ 24 ∨ j ≠ 3) → (tag b ≠ 24 ∨ j ≠ 4) → (tag b ≠ 24 ∨ j ≠ 5) → (tag b ≠ 24 ∨ j ≠ 6) → (tag b ≠ 24 ∨ j ≠ 7) → (tag b ≠ 25 ∨ j ≠ 3) → (tag b ≠ 25 ∨ j ≠ 4) → fld F1 b j = fld Fo b j) ∧ EF tag F1 Fo)) := by
  refine t_bodyi (y := yX3_whole) (cd := cX3_whole) (mL := 4) (rt := (some .int)) (rm := { frames := 3, cells := 0, slots := 0, locals := 62 }) (av := [.ref p0, .int p1, .int p2]) (by decide) (Nat.le_of_ble_eq_true rfl) ho ?_
  intro p e s m args below meth c ls A Q hQ X hT hl
  have hx := X.1.1
  have hb := X.1.2.1
  have hl : lv_has ls 4 [(0, .ref p0), (1, .int p1), (2, .int p2)] := hl
  obtain ⟨F, hFo⟩ : ∃ F : Nat → va_E, F = Fo := ⟨_, rfl⟩
  rw [← hFo] at hT pf0 pf1 pf2 pf3 pf4 pf5
  have hfr : (∀ b j : Nat, (tag b ≠ 24 ∨ j ≠ 2) → (tag b ≠ 24 ∨ j ≠ 3) → (tag b ≠ 24 ∨ j ≠ 4) → (tag b ≠ 24 ∨ j ≠ 5) → (tag b ≠ 24 ∨ j ≠ 6) → (tag b ≠ 24 ∨ j ≠ 7) → (tag b ≠ 25 ∨ j ≠ 3) → (tag b ≠ 25 ∨ j ≠ 4) → fld F b j = fld Fo b j) ∧ EF tag F Fo := by
    rw [hFo]
    exact ⟨by intros; rfl, fun _ _ _ => rfl⟩
  refine lv_aload_n hx hb dX3_whole_0 rfl (lv_at hl 0 rfl) ?_
  refine t_get (C := RX3) (T := TX3) (N := 13) X hT m0 g0 rfl rfl 0 (by decide) qw_73 inlX3 rfl dX3_whole_1 (fun v158664 hv158664 ov158664 => ?_)
  obtain rfl : v158664 = .ref x0 := hv158664.symm.trans pf0
  refine t_get (C := RX8) (T := TX8) (N := 8) X hT mx0 gx0 rfl rfl 3 (by decide) qw_170 inlX8 rfl dX3_whole_4 (fun v158665 hv158665 ov158665 => ?_)
  obtain ⟨z158666, rfl, rz158666⟩ := okV_i ov158665
  refine lv_iconst (v := 2) hx hb dX3_whole_7 (by decide) ?_
  refine lv_icmp_eq (tgt := 26) hx hb dX3_whole_8 (by decide) (fun c158667 => ?_) (fun c158667 => ?_)
  · have w158668 := cv_eq (rfl : z158666.toInt = z158666.toInt) (by decide : (2 : Int32).toInt = 2) c158667
    refine lv_aload_n hx hb dX3_whole_26 rfl (lv_at hl 0 rfl) ?_
    refine t_get (C := RX3) (T := TX3) (N := 13) X hT m0 g0 rfl rfl 0 (by decide) qw_73 inlX3 rfl dX3_whole_27 (fun v158669 hv158669 ov158669 => ?_)
    obtain rfl : v158669 = .ref x0 := hv158669.symm.trans pf0
    refine t_get (C := RX8) (T := TX8) (N := 8) X hT mx0 gx0 rfl rfl 6 (by decide) qw_322 inlX8 rfl dX3_whole_30 (fun v158670 hv158670 ov158670 => ?_)
    obtain ⟨z158671, rfl, rz158671⟩ := okV_i ov158670
    refine lv_iload_n hx hb dX3_whole_33 rfl (lv_at hl 1 rfl) ?_
    refine lv_icmp_lt (tgt := 48) hx hb dX3_whole_34 (by decide) (fun c158672 => ?_) (fun c158672 => ?_)
    · have w158673 := cv_lt (rfl : z158671.toInt = z158671.toInt) (rfl : p1.toInt = p1.toInt) c158672
      refine lv_aload_n hx hb dX3_whole_48 rfl (lv_at hl 0 rfl) ?_
      refine lv_iconst (v := 4) hx hb dX3_whole_49 (by decide) ?_
      refine lv_aload_n hx hb dX3_whole_50 rfl (lv_at hl 0 rfl) ?_
      refine t_get (C := RX3) (T := TX3) (N := 13) X hT m0 g0 rfl rfl 0 (by decide) qw_73 inlX3 rfl dX3_whole_51 (fun v158674 hv158674 ov158674 => ?_)
      obtain rfl : v158674 = .ref x0 := hv158674.symm.trans pf0
      refine t_get (C := RX8) (T := TX8) (N := 8) X hT mx0 gx0 rfl rfl 4 (by decide) qw_227 inlX8 rfl dX3_whole_54 (fun v158675 hv158675 ov158675 => ?_)
      obtain ⟨z158676, rfl, rz158676⟩ := okV_i ov158675
      refine t_cVv (n := 2) (C := RX3) (T := TX3) (N := 13) (As := [.int 4, .int z158676]) (rest := []) X hT (kt432_X3_fail l G tag L F hT.2.2.2 p0 4 z158676 m0 g0 (by decide)) m0 g0 rfl rfl qw_287 qw_288 qw_289 qw_28 qw_290 ⟨rfl, by decide +kernel, by decide +kernel, by decide +kernel⟩ ⟨Nat.le_of_ble_eq_true rfl, Nat.le_of_ble_eq_true rfl⟩ hl rfl rfl (Nat.le_of_ble_eq_true rfl) dX3_whole_57 ⟨Nat.le_of_ble_eq_true rfl, Nat.le_of_ble_eq_true rfl⟩ (fun F H locs hT hz158677 => ?_)
      obtain ⟨yz158677, xz158677_0⟩ := hz158677
      have pf0 := (yz158677.1 _ 0 (Or.inr (by decide)) (Or.inr (by decide))).trans pf0
      have pf1 := (yz158677.1 _ 1 (Or.inr (by decide)) (Or.inr (by decide))).trans pf1
      have pf2 := (yz158677.1 _ 2 (Or.inr (by decide)) (Or.inr (by decide))).trans pf2
      have pf3 := (yz158677.1 _ 0 (Or.inr (by decide)) (Or.inr (by decide))).trans pf3
      have pf4 := (yz158677.1 _ 10 (Or.inr (by decide)) (Or.inr (by decide))).trans pf4
      have pf5 := (yz158677.1 _ 11 (Or.inr (by decide)) (Or.inr (by decide))).trans pf5
      have hv158665 := (yz158677.1 _ 3 (Or.inl (by rw [gx0]; decide)) (Or.inr (by decide))).trans hv158665
      have hv158670 := (yz158677.1 _ 6 (Or.inr (by decide)) (Or.inr (by decide))).trans hv158670
      have hv158675 := (yz158677.1 _ 4 (Or.inr (by decide)) (Or.inl (by rw [gx0]; decide))).trans hv158675
      have hfr : (∀ b j : Nat, (tag b ≠ 24 ∨ j ≠ 2) → (tag b ≠ 24 ∨ j ≠ 3) → (tag b ≠ 24 ∨ j ≠ 4) → (tag b ≠ 24 ∨ j ≠ 5) → (tag b ≠ 24 ∨ j ≠ 6) → (tag b ≠ 24 ∨ j ≠ 7) → (tag b ≠ 25 ∨ j ≠ 3) → (tag b ≠ 25 ∨ j ≠ 4) → fld F b j = fld Fo b j) ∧ EF tag F Fo := ⟨fun b j n24_2 n24_3 n24_4 n24_5 n24_6 n24_7 n25_3 n25_4 => (yz158677.1 b j n25_3 n25_4).trans (hfr.1 b j n24_2 n24_3 n24_4 n24_5 n24_6 n24_7 n25_3 n25_4), fun b j hb => (yz158677.2 b j hb).trans (hfr.2 b j hb)⟩
      obtain ⟨z158678, qz158678, rz158678⟩ := xz158677_0
      refine lv_aload_n hx hb dX3_whole_60 rfl (lv_at hl 0 rfl) ?_
      refine t_get (C := RX3) (T := TX3) (N := 13) X hT m0 g0 rfl rfl 3 (by decide) qw_163 inlX3 rfl dX3_whole_61 (fun v158679 hv158679 ov158679 => ?_)
      obtain rfl : v158679 = .int z158678 := hv158679.symm.trans qz158678
      refine lv_if_eq (tgt := 69) hx hb dX3_whole_64 (by decide) (fun c158680 => ?_) (fun c158680 => ?_)
      · have w158681 := cv_eq (rfl : z158678.toInt = z158678.toInt) (by decide : (0 : Int32).toInt = 0) c158680
        exfalso
        omega
      · have w158682 := cv_ne (rfl : z158678.toInt = z158678.toInt) (by decide : (0 : Int32).toInt = 0) c158680
        refine lv_iload_n hx hb dX3_whole_67 rfl (lv_at hl 1 rfl) ?_
        exact t_iret hQ X hT (⟨(by omega), hfr⟩) (Nat.le_of_ble_eq_true rfl) (Nat.le_of_ble_eq_true rfl) dX3_whole_68
    · have w158683 := cv_nlt (rfl : z158671.toInt = z158671.toInt) (rfl : p1.toInt = p1.toInt) c158672
      refine lv_aload_n hx hb dX3_whole_37 rfl (lv_at hl 0 rfl) ?_
      refine t_get (C := RX3) (T := TX3) (N := 13) X hT m0 g0 rfl rfl 0 (by decide) qw_73 inlX3 rfl dX3_whole_38 (fun v158684 hv158684 ov158684 => ?_)
      obtain rfl : v158684 = .ref x0 := hv158684.symm.trans pf0
      refine t_get (C := RX8) (T := TX8) (N := 8) X hT mx0 gx0 rfl rfl 6 (by decide) qw_322 inlX8 rfl dX3_whole_41 (fun v158685 hv158685 ov158685 => ?_)
      obtain rfl : v158685 = .int z158671 := hv158685.symm.trans hv158670
      refine lv_iload_n hx hb dX3_whole_44 rfl (lv_at hl 2 rfl) ?_
      refine lv_icmp_le (tgt := 60) hx hb dX3_whole_45 (by decide) (fun c158686 => ?_) (fun c158686 => ?_)
      · have w158687 := cv_le (rfl : z158671.toInt = z158671.toInt) (rfl : p2.toInt = p2.toInt) c158686
        refine lv_aload_n hx hb dX3_whole_60 rfl (lv_at hl 0 rfl) ?_
        refine t_get (C := RX3) (T := TX3) (N := 13) X hT m0 g0 rfl rfl 3 (by decide) qw_163 inlX3 rfl dX3_whole_61 (fun v158688 hv158688 ov158688 => ?_)
        obtain ⟨z158689, rfl, rz158689⟩ := okV_i ov158688
        refine lv_if_eq (tgt := 69) hx hb dX3_whole_64 (by decide) (fun c158690 => ?_) (fun c158690 => ?_)
        · have w158691 := cv_eq (rfl : z158689.toInt = z158689.toInt) (by decide : (0 : Int32).toInt = 0) c158690
          refine lv_aload_n hx hb dX3_whole_69 rfl (lv_at hl 0 rfl) ?_
          refine t_get (C := RX3) (T := TX3) (N := 13) X hT m0 g0 rfl rfl 0 (by decide) qw_73 inlX3 rfl dX3_whole_70 (fun v158692 hv158692 ov158692 => ?_)
          obtain rfl : v158692 = .ref x0 := hv158692.symm.trans pf0
          refine t_get (C := RX8) (T := TX8) (N := 8) X hT mx0 gx0 rfl rfl 6 (by decide) qw_322 inlX8 rfl dX3_whole_73 (fun v158693 hv158693 ov158693 => ?_)
          obtain rfl : v158693 = .int z158671 := hv158693.symm.trans hv158670
          refine lv_istore_n (lv' := [(3, .int z158671), (0, .ref p0), (1, .int p1), (2, .int p2)]) hx hb dX3_whole_76 rfl hl (by decide) rfl (fun ls hl => ?_)
          refine lv_aload_n hx hb dX3_whole_77 rfl (lv_at hl 1 rfl) ?_
          refine t_get (C := RX3) (T := TX3) (N := 13) X hT m0 g0 rfl rfl 0 (by decide) qw_73 inlX3 rfl dX3_whole_78 (fun v158694 hv158694 ov158694 => ?_)
          obtain rfl : v158694 = .ref x0 := hv158694.symm.trans pf0
          refine t_cVv (n := 0) (C := RX8) (T := TX8) (N := 8) (As := []) (rest := []) X hT (kt440_X8_advance l G tag L F hT.2.2.2 x0 x3 mx0 gx0 mx3 gx3 pf3) mx0 gx0 rfl rfl qw_305 qw_197 qw_198 qw_72 qw_199 ⟨rfl, by decide +kernel, by decide +kernel, by decide +kernel⟩ ⟨Nat.le_of_ble_eq_true rfl, Nat.le_of_ble_eq_true rfl⟩ hl rfl rfl (Nat.le_of_ble_eq_true rfl) dX3_whole_81 ⟨Nat.le_of_ble_eq_true rfl, Nat.le_of_ble_eq_true rfl⟩ (fun F H locs hT hz158695 => ?_)
          have yz158695 := hz158695
          have pf0 := (yz158695.1 _ 0 (Or.inr (by decide)) (Or.inr (by decide)) (Or.inr (by decide)) (Or.inr (by decide)) (Or.inr (by decide)) (Or.inr (by decide))).trans pf0
          have pf1 := (yz158695.1 _ 1 (Or.inr (by decide)) (Or.inr (by decide)) (Or.inr (by decide)) (Or.inr (by decide)) (Or.inr (by decide)) (Or.inr (by decide))).trans pf1
          have pf2 := (yz158695.1 _ 2 (Or.inl (by rw [g0]; decide)) (Or.inr (by decide)) (Or.inr (by decide)) (Or.inr (by decide)) (Or.inr (by decide)) (Or.inr (by decide))).trans pf2
          have pf3 := (yz158695.1 _ 0 (Or.inr (by decide)) (Or.inr (by decide)) (Or.inr (by decide)) (Or.inr (by decide)) (Or.inr (by decide)) (Or.inr (by decide))).trans pf3
          have pf4 := (yz158695.1 _ 10 (Or.inr (by decide)) (Or.inr (by decide)) (Or.inr (by decide)) (Or.inr (by decide)) (Or.inr (by decide)) (Or.inr (by decide))).trans pf4
          have pf5 := (yz158695.1 _ 11 (Or.inr (by decide)) (Or.inr (by decide)) (Or.inr (by decide)) (Or.inr (by decide)) (Or.inr (by decide)) (Or.inr (by decide))).trans pf5
          have hv158688 := (yz158695.1 _ 3 (Or.inr (by decide)) (Or.inl (by rw [g0]; decide)) (Or.inr (by decide)) (Or.inr (by decide)) (Or.inr (by decide)) (Or.inr (by decide))).trans hv158688
          have hfr : (∀ b j : Nat, (tag b ≠ 24 ∨ j ≠ 2) → (tag b ≠ 24 ∨ j ≠ 3) → (tag b ≠ 24 ∨ j ≠ 4) → (tag b ≠ 24 ∨ j ≠ 5) → (tag b ≠ 24 ∨ j ≠ 6) → (tag b ≠ 24 ∨ j ≠ 7) → (tag b ≠ 25 ∨ j ≠ 3) → (tag b ≠ 25 ∨ j ≠ 4) → fld F b j = fld Fo b j) ∧ EF tag F Fo := ⟨fun b j n24_2 n24_3 n24_4 n24_5 n24_6 n24_7 n25_3 n25_4 => (yz158695.1 b j n24_2 n24_3 n24_4 n24_5 n24_6 n24_7).trans (hfr.1 b j n24_2 n24_3 n24_4 n24_5 n24_6 n24_7 n25_3 n25_4), fun b j hb => (yz158695.2 b j hb).trans (hfr.2 b j hb)⟩
          refine lv_iload_n hx hb dX3_whole_84 rfl (lv_at hl 0 rfl) ?_
          exact t_iret hQ X hT (⟨(by omega), hfr⟩) (Nat.le_of_ble_eq_true rfl) (Nat.le_of_ble_eq_true rfl) dX3_whole_85
        · have w158696 := cv_ne (rfl : z158689.toInt = z158689.toInt) (by decide : (0 : Int32).toInt = 0) c158690
          refine lv_iload_n hx hb dX3_whole_67 rfl (lv_at hl 1 rfl) ?_
          exact t_iret hQ X hT (⟨(by omega), hfr⟩) (Nat.le_of_ble_eq_true rfl) (Nat.le_of_ble_eq_true rfl) dX3_whole_68
      · have w158697 := cv_nle (rfl : z158671.toInt = z158671.toInt) (rfl : p2.toInt = p2.toInt) c158686
        refine lv_aload_n hx hb dX3_whole_48 rfl (lv_at hl 0 rfl) ?_
        refine lv_iconst (v := 4) hx hb dX3_whole_49 (by decide) ?_
        refine lv_aload_n hx hb dX3_whole_50 rfl (lv_at hl 0 rfl) ?_
        refine t_get (C := RX3) (T := TX3) (N := 13) X hT m0 g0 rfl rfl 0 (by decide) qw_73 inlX3 rfl dX3_whole_51 (fun v158698 hv158698 ov158698 => ?_)
        obtain rfl : v158698 = .ref x0 := hv158698.symm.trans pf0
        refine t_get (C := RX8) (T := TX8) (N := 8) X hT mx0 gx0 rfl rfl 4 (by decide) qw_227 inlX8 rfl dX3_whole_54 (fun v158699 hv158699 ov158699 => ?_)
        obtain ⟨z158700, rfl, rz158700⟩ := okV_i ov158699
        refine t_cVv (n := 2) (C := RX3) (T := TX3) (N := 13) (As := [.int 4, .int z158700]) (rest := []) X hT (kt432_X3_fail l G tag L F hT.2.2.2 p0 4 z158700 m0 g0 (by decide)) m0 g0 rfl rfl qw_287 qw_288 qw_289 qw_28 qw_290 ⟨rfl, by decide +kernel, by decide +kernel, by decide +kernel⟩ ⟨Nat.le_of_ble_eq_true rfl, Nat.le_of_ble_eq_true rfl⟩ hl rfl rfl (Nat.le_of_ble_eq_true rfl) dX3_whole_57 ⟨Nat.le_of_ble_eq_true rfl, Nat.le_of_ble_eq_true rfl⟩ (fun F H locs hT hz158701 => ?_)
        obtain ⟨yz158701, xz158701_0⟩ := hz158701
        have pf0 := (yz158701.1 _ 0 (Or.inr (by decide)) (Or.inr (by decide))).trans pf0
        have pf1 := (yz158701.1 _ 1 (Or.inr (by decide)) (Or.inr (by decide))).trans pf1
        have pf2 := (yz158701.1 _ 2 (Or.inr (by decide)) (Or.inr (by decide))).trans pf2
        have pf3 := (yz158701.1 _ 0 (Or.inr (by decide)) (Or.inr (by decide))).trans pf3
        have pf4 := (yz158701.1 _ 10 (Or.inr (by decide)) (Or.inr (by decide))).trans pf4
        have pf5 := (yz158701.1 _ 11 (Or.inr (by decide)) (Or.inr (by decide))).trans pf5
        have hv158665 := (yz158701.1 _ 3 (Or.inl (by rw [gx0]; decide)) (Or.inr (by decide))).trans hv158665
        have hv158670 := (yz158701.1 _ 6 (Or.inr (by decide)) (Or.inr (by decide))).trans hv158670
        have hv158699 := (yz158701.1 _ 4 (Or.inr (by decide)) (Or.inl (by rw [gx0]; decide))).trans hv158699
        have hfr : (∀ b j : Nat, (tag b ≠ 24 ∨ j ≠ 2) → (tag b ≠ 24 ∨ j ≠ 3) → (tag b ≠ 24 ∨ j ≠ 4) → (tag b ≠ 24 ∨ j ≠ 5) → (tag b ≠ 24 ∨ j ≠ 6) → (tag b ≠ 24 ∨ j ≠ 7) → (tag b ≠ 25 ∨ j ≠ 3) → (tag b ≠ 25 ∨ j ≠ 4) → fld F b j = fld Fo b j) ∧ EF tag F Fo := ⟨fun b j n24_2 n24_3 n24_4 n24_5 n24_6 n24_7 n25_3 n25_4 => (yz158701.1 b j n25_3 n25_4).trans (hfr.1 b j n24_2 n24_3 n24_4 n24_5 n24_6 n24_7 n25_3 n25_4), fun b j hb => (yz158701.2 b j hb).trans (hfr.2 b j hb)⟩
        obtain ⟨z158702, qz158702, rz158702⟩ := xz158701_0
        refine lv_aload_n hx hb dX3_whole_60 rfl (lv_at hl 0 rfl) ?_
        refine t_get (C := RX3) (T := TX3) (N := 13) X hT m0 g0 rfl rfl 3 (by decide) qw_163 inlX3 rfl dX3_whole_61 (fun v158703 hv158703 ov158703 => ?_)
        obtain rfl : v158703 = .int z158702 := hv158703.symm.trans qz158702
        refine lv_if_eq (tgt := 69) hx hb dX3_whole_64 (by decide) (fun c158704 => ?_) (fun c158704 => ?_)
        · have w158705 := cv_eq (rfl : z158702.toInt = z158702.toInt) (by decide : (0 : Int32).toInt = 0) c158704
          exfalso
          omega
        · have w158706 := cv_ne (rfl : z158702.toInt = z158702.toInt) (by decide : (0 : Int32).toInt = 0) c158704
          refine lv_iload_n hx hb dX3_whole_67 rfl (lv_at hl 1 rfl) ?_
          exact t_iret hQ X hT (⟨(by omega), hfr⟩) (Nat.le_of_ble_eq_true rfl) (Nat.le_of_ble_eq_true rfl) dX3_whole_68
  · have w158707 := cv_ne (rfl : z158666.toInt = z158666.toInt) (by decide : (2 : Int32).toInt = 2) c158667
    refine lv_aload_n hx hb dX3_whole_11 rfl (lv_at hl 0 rfl) ?_
    refine lv_iconst (v := 1) hx hb dX3_whole_12 (by decide) ?_
    refine lv_aload_n hx hb dX3_whole_13 rfl (lv_at hl 0 rfl) ?_
    refine t_get (C := RX3) (T := TX3) (N := 13) X hT m0 g0 rfl rfl 0 (by decide) qw_73 inlX3 rfl dX3_whole_14 (fun v158708 hv158708 ov158708 => ?_)
    obtain rfl : v158708 = .ref x0 := hv158708.symm.trans pf0
    refine t_get (C := RX8) (T := TX8) (N := 8) X hT mx0 gx0 rfl rfl 4 (by decide) qw_227 inlX8 rfl dX3_whole_17 (fun v158709 hv158709 ov158709 => ?_)
    obtain ⟨z158710, rfl, rz158710⟩ := okV_i ov158709
    refine t_cVv (n := 2) (C := RX3) (T := TX3) (N := 13) (As := [.int 1, .int z158710]) (rest := []) X hT (kt432_X3_fail l G tag L F hT.2.2.2 p0 1 z158710 m0 g0 (by decide)) m0 g0 rfl rfl qw_287 qw_288 qw_289 qw_28 qw_290 ⟨rfl, by decide +kernel, by decide +kernel, by decide +kernel⟩ ⟨Nat.le_of_ble_eq_true rfl, Nat.le_of_ble_eq_true rfl⟩ hl rfl rfl (Nat.le_of_ble_eq_true rfl) dX3_whole_20 ⟨Nat.le_of_ble_eq_true rfl, Nat.le_of_ble_eq_true rfl⟩ (fun F H locs hT hz158711 => ?_)
    obtain ⟨yz158711, xz158711_0⟩ := hz158711
    have pf0 := (yz158711.1 _ 0 (Or.inr (by decide)) (Or.inr (by decide))).trans pf0
    have pf1 := (yz158711.1 _ 1 (Or.inr (by decide)) (Or.inr (by decide))).trans pf1
    have pf2 := (yz158711.1 _ 2 (Or.inr (by decide)) (Or.inr (by decide))).trans pf2
    have pf3 := (yz158711.1 _ 0 (Or.inr (by decide)) (Or.inr (by decide))).trans pf3
    have pf4 := (yz158711.1 _ 10 (Or.inr (by decide)) (Or.inr (by decide))).trans pf4
    have pf5 := (yz158711.1 _ 11 (Or.inr (by decide)) (Or.inr (by decide))).trans pf5
    have hv158665 := (yz158711.1 _ 3 (Or.inl (by rw [gx0]; decide)) (Or.inr (by decide))).trans hv158665
    have hv158709 := (yz158711.1 _ 4 (Or.inr (by decide)) (Or.inl (by rw [gx0]; decide))).trans hv158709
    have hfr : (∀ b j : Nat, (tag b ≠ 24 ∨ j ≠ 2) → (tag b ≠ 24 ∨ j ≠ 3) → (tag b ≠ 24 ∨ j ≠ 4) → (tag b ≠ 24 ∨ j ≠ 5) → (tag b ≠ 24 ∨ j ≠ 6) → (tag b ≠ 24 ∨ j ≠ 7) → (tag b ≠ 25 ∨ j ≠ 3) → (tag b ≠ 25 ∨ j ≠ 4) → fld F b j = fld Fo b j) ∧ EF tag F Fo := ⟨fun b j n24_2 n24_3 n24_4 n24_5 n24_6 n24_7 n25_3 n25_4 => (yz158711.1 b j n25_3 n25_4).trans (hfr.1 b j n24_2 n24_3 n24_4 n24_5 n24_6 n24_7 n25_3 n25_4), fun b j hb => (yz158711.2 b j hb).trans (hfr.2 b j hb)⟩
    obtain ⟨z158712, qz158712, rz158712⟩ := xz158711_0
    refine lv_goto (tgt := 60) hx hb dX3_whole_23 (by decide) ?_
    refine lv_aload_n hx hb dX3_whole_60 rfl (lv_at hl 0 rfl) ?_
    refine t_get (C := RX3) (T := TX3) (N := 13) X hT m0 g0 rfl rfl 3 (by decide) qw_163 inlX3 rfl dX3_whole_61 (fun v158713 hv158713 ov158713 => ?_)
    obtain rfl : v158713 = .int z158712 := hv158713.symm.trans qz158712
    refine lv_if_eq (tgt := 69) hx hb dX3_whole_64 (by decide) (fun c158714 => ?_) (fun c158714 => ?_)
    · have w158715 := cv_eq (rfl : z158712.toInt = z158712.toInt) (by decide : (0 : Int32).toInt = 0) c158714
      exfalso
      omega
    · have w158716 := cv_ne (rfl : z158712.toInt = z158712.toInt) (by decide : (0 : Int32).toInt = 0) c158714
      refine lv_iload_n hx hb dX3_whole_67 rfl (lv_at hl 1 rfl) ?_
      exact t_iret hQ X hT (⟨(by omega), hfr⟩) (Nat.le_of_ble_eq_true rfl) (Nat.le_of_ble_eq_true rfl) dX3_whole_68
set_option maxHeartbeats 4000000 in
set_option maxRecDepth 100000 in
theorem kt466_X3_whole (l : Launch) (G : KG) (tag : Nat → Nat) (L : List Nat) (Fo : Nat → va_E) (ho : okT G ttC tag L Fo) (p0 : Nat) (p1 : Int32) (p2 : Int32) (x0 : Nat) (x1 : Nat) (x2 : Nat) (x3 : Nat) (x4 : Nat) (x5 : Nat) (m0 : p0 ∈ L) (g0 : tag p0 = 25) (h1 : 0 ≤ p1.toInt ∧ p1.toInt ≤ 0) (h2 : 100 ≤ p2.toInt ∧ p2.toInt ≤ 100) (mx0 : x0 ∈ L) (gx0 : tag x0 = 24) (pf0 : fld Fo p0 0 = .ref x0) (mx1 : x1 ∈ L) (gx1 : tag x1 = 18) (pf1 : fld Fo p0 1 = .ref x1) (mx2 : x2 ∈ L) (gx2 : tag x2 = 19) (pf2 : fld Fo p0 2 = .ref x2) (mx3 : x3 ∈ L) (gx3 : tag x3 = 1) (pf3 : fld Fo x0 0 = .ref x3) (mx4 : x4 ∈ L) (gx4 : tag x4 = 14) (pf4 : fld Fo p0 10 = .ref x4) (mx5 : x5 ∈ L) (gx5 : tag x5 = 15) (pf5 : fld Fo p0 11 = .ref x5) : TMi l yX3_whole cX3_whole 4 (some .int) { frames := 3, cells := 0, slots := 0, locals := 62 } G ttC tag L Fo [.ref p0, .int p1, .int p2] (fun r F1 => (0 ≤ r.toInt ∧ r.toInt ≤ 100) ∧ ((∀ b j : Nat, (tag b ≠ 24 ∨ j ≠ 2) → (tag b ≠ 24 ∨ j ≠ 3) → (tag b ≠ 24 ∨ j ≠ 4) → (tag b ≠ 24 ∨ j ≠ 5) → (tag b ≠ 24 ∨ j ≠ 6) → (tag b ≠ 24 ∨ j ≠ 7) → (tag b ≠ 25 ∨ j ≠ 3) → (tag b ≠ 25 ∨ j ≠ 4) → fld F1 b j = fld Fo b j) ∧ EF tag F1 Fo)) := by
  refine t_bodyi (y := yX3_whole) (cd := cX3_whole) (mL := 4) (rt := (some .int)) (rm := { frames := 3, cells := 0, slots := 0, locals := 62 }) (av := [.ref p0, .int p1, .int p2]) (by decide) (Nat.le_of_ble_eq_true rfl) ho ?_
  intro p e s m args below meth c ls A Q hQ X hT hl
  have hx := X.1.1
  have hb := X.1.2.1
  have hl : lv_has ls 4 [(0, .ref p0), (1, .int p1), (2, .int p2)] := hl
  obtain ⟨F, hFo⟩ : ∃ F : Nat → va_E, F = Fo := ⟨_, rfl⟩
  rw [← hFo] at hT pf0 pf1 pf2 pf3 pf4 pf5
  have hfr : (∀ b j : Nat, (tag b ≠ 24 ∨ j ≠ 2) → (tag b ≠ 24 ∨ j ≠ 3) → (tag b ≠ 24 ∨ j ≠ 4) → (tag b ≠ 24 ∨ j ≠ 5) → (tag b ≠ 24 ∨ j ≠ 6) → (tag b ≠ 24 ∨ j ≠ 7) → (tag b ≠ 25 ∨ j ≠ 3) → (tag b ≠ 25 ∨ j ≠ 4) → fld F b j = fld Fo b j) ∧ EF tag F Fo := by
    rw [hFo]
    exact ⟨by intros; rfl, fun _ _ _ => rfl⟩
  refine lv_aload_n hx hb dX3_whole_0 rfl (lv_at hl 0 rfl) ?_
  refine t_get (C := RX3) (T := TX3) (N := 13) X hT m0 g0 rfl rfl 0 (by decide) qw_73 inlX3 rfl dX3_whole_1 (fun v159304 hv159304 ov159304 => ?_)
  obtain rfl : v159304 = .ref x0 := hv159304.symm.trans pf0
  refine t_get (C := RX8) (T := TX8) (N := 8) X hT mx0 gx0 rfl rfl 3 (by decide) qw_170 inlX8 rfl dX3_whole_4 (fun v159305 hv159305 ov159305 => ?_)
  obtain ⟨z159306, rfl, rz159306⟩ := okV_i ov159305
  refine lv_iconst (v := 2) hx hb dX3_whole_7 (by decide) ?_
  refine lv_icmp_eq (tgt := 26) hx hb dX3_whole_8 (by decide) (fun c159307 => ?_) (fun c159307 => ?_)
  · have w159308 := cv_eq (rfl : z159306.toInt = z159306.toInt) (by decide : (2 : Int32).toInt = 2) c159307
    refine lv_aload_n hx hb dX3_whole_26 rfl (lv_at hl 0 rfl) ?_
    refine t_get (C := RX3) (T := TX3) (N := 13) X hT m0 g0 rfl rfl 0 (by decide) qw_73 inlX3 rfl dX3_whole_27 (fun v159309 hv159309 ov159309 => ?_)
    obtain rfl : v159309 = .ref x0 := hv159309.symm.trans pf0
    refine t_get (C := RX8) (T := TX8) (N := 8) X hT mx0 gx0 rfl rfl 6 (by decide) qw_322 inlX8 rfl dX3_whole_30 (fun v159310 hv159310 ov159310 => ?_)
    obtain ⟨z159311, rfl, rz159311⟩ := okV_i ov159310
    refine lv_iload_n hx hb dX3_whole_33 rfl (lv_at hl 1 rfl) ?_
    refine lv_icmp_lt (tgt := 48) hx hb dX3_whole_34 (by decide) (fun c159312 => ?_) (fun c159312 => ?_)
    · have w159313 := cv_lt (rfl : z159311.toInt = z159311.toInt) (rfl : p1.toInt = p1.toInt) c159312
      refine lv_aload_n hx hb dX3_whole_48 rfl (lv_at hl 0 rfl) ?_
      refine lv_iconst (v := 4) hx hb dX3_whole_49 (by decide) ?_
      refine lv_aload_n hx hb dX3_whole_50 rfl (lv_at hl 0 rfl) ?_
      refine t_get (C := RX3) (T := TX3) (N := 13) X hT m0 g0 rfl rfl 0 (by decide) qw_73 inlX3 rfl dX3_whole_51 (fun v159314 hv159314 ov159314 => ?_)
      obtain rfl : v159314 = .ref x0 := hv159314.symm.trans pf0
      refine t_get (C := RX8) (T := TX8) (N := 8) X hT mx0 gx0 rfl rfl 4 (by decide) qw_227 inlX8 rfl dX3_whole_54 (fun v159315 hv159315 ov159315 => ?_)
      obtain ⟨z159316, rfl, rz159316⟩ := okV_i ov159315
      refine t_cVv (n := 2) (C := RX3) (T := TX3) (N := 13) (As := [.int 4, .int z159316]) (rest := []) X hT (kt432_X3_fail l G tag L F hT.2.2.2 p0 4 z159316 m0 g0 (by decide)) m0 g0 rfl rfl qw_287 qw_288 qw_289 qw_28 qw_290 ⟨rfl, by decide +kernel, by decide +kernel, by decide +kernel⟩ ⟨Nat.le_of_ble_eq_true rfl, Nat.le_of_ble_eq_true rfl⟩ hl rfl rfl (Nat.le_of_ble_eq_true rfl) dX3_whole_57 ⟨Nat.le_of_ble_eq_true rfl, Nat.le_of_ble_eq_true rfl⟩ (fun F H locs hT hz159317 => ?_)
      obtain ⟨yz159317, xz159317_0⟩ := hz159317
      have pf0 := (yz159317.1 _ 0 (Or.inr (by decide)) (Or.inr (by decide))).trans pf0
      have pf1 := (yz159317.1 _ 1 (Or.inr (by decide)) (Or.inr (by decide))).trans pf1
      have pf2 := (yz159317.1 _ 2 (Or.inr (by decide)) (Or.inr (by decide))).trans pf2
      have pf3 := (yz159317.1 _ 0 (Or.inr (by decide)) (Or.inr (by decide))).trans pf3
      have pf4 := (yz159317.1 _ 10 (Or.inr (by decide)) (Or.inr (by decide))).trans pf4
      have pf5 := (yz159317.1 _ 11 (Or.inr (by decide)) (Or.inr (by decide))).trans pf5
      have hv159305 := (yz159317.1 _ 3 (Or.inl (by rw [gx0]; decide)) (Or.inr (by decide))).trans hv159305
      have hv159310 := (yz159317.1 _ 6 (Or.inr (by decide)) (Or.inr (by decide))).trans hv159310
      have hv159315 := (yz159317.1 _ 4 (Or.inr (by decide)) (Or.inl (by rw [gx0]; decide))).trans hv159315
      have hfr : (∀ b j : Nat, (tag b ≠ 24 ∨ j ≠ 2) → (tag b ≠ 24 ∨ j ≠ 3) → (tag b ≠ 24 ∨ j ≠ 4) → (tag b ≠ 24 ∨ j ≠ 5) → (tag b ≠ 24 ∨ j ≠ 6) → (tag b ≠ 24 ∨ j ≠ 7) → (tag b ≠ 25 ∨ j ≠ 3) → (tag b ≠ 25 ∨ j ≠ 4) → fld F b j = fld Fo b j) ∧ EF tag F Fo := ⟨fun b j n24_2 n24_3 n24_4 n24_5 n24_6 n24_7 n25_3 n25_4 => (yz159317.1 b j n25_3 n25_4).trans (hfr.1 b j n24_2 n24_3 n24_4 n24_5 n24_6 n24_7 n25_3 n25_4), fun b j hb => (yz159317.2 b j hb).trans (hfr.2 b j hb)⟩
      obtain ⟨z159318, qz159318, rz159318⟩ := xz159317_0
      refine lv_aload_n hx hb dX3_whole_60 rfl (lv_at hl 0 rfl) ?_
      refine t_get (C := RX3) (T := TX3) (N := 13) X hT m0 g0 rfl rfl 3 (by decide) qw_163 inlX3 rfl dX3_whole_61 (fun v159319 hv159319 ov159319 => ?_)
      obtain rfl : v159319 = .int z159318 := hv159319.symm.trans qz159318
      refine lv_if_eq (tgt := 69) hx hb dX3_whole_64 (by decide) (fun c159320 => ?_) (fun c159320 => ?_)
      · have w159321 := cv_eq (rfl : z159318.toInt = z159318.toInt) (by decide : (0 : Int32).toInt = 0) c159320
        exfalso
        omega
      · have w159322 := cv_ne (rfl : z159318.toInt = z159318.toInt) (by decide : (0 : Int32).toInt = 0) c159320
        refine lv_iload_n hx hb dX3_whole_67 rfl (lv_at hl 1 rfl) ?_
        exact t_iret hQ X hT (⟨(by omega), hfr⟩) (Nat.le_of_ble_eq_true rfl) (Nat.le_of_ble_eq_true rfl) dX3_whole_68
    · have w159323 := cv_nlt (rfl : z159311.toInt = z159311.toInt) (rfl : p1.toInt = p1.toInt) c159312
      refine lv_aload_n hx hb dX3_whole_37 rfl (lv_at hl 0 rfl) ?_
      refine t_get (C := RX3) (T := TX3) (N := 13) X hT m0 g0 rfl rfl 0 (by decide) qw_73 inlX3 rfl dX3_whole_38 (fun v159324 hv159324 ov159324 => ?_)
      obtain rfl : v159324 = .ref x0 := hv159324.symm.trans pf0
      refine t_get (C := RX8) (T := TX8) (N := 8) X hT mx0 gx0 rfl rfl 6 (by decide) qw_322 inlX8 rfl dX3_whole_41 (fun v159325 hv159325 ov159325 => ?_)
      obtain rfl : v159325 = .int z159311 := hv159325.symm.trans hv159310
      refine lv_iload_n hx hb dX3_whole_44 rfl (lv_at hl 2 rfl) ?_
      refine lv_icmp_le (tgt := 60) hx hb dX3_whole_45 (by decide) (fun c159326 => ?_) (fun c159326 => ?_)
      · have w159327 := cv_le (rfl : z159311.toInt = z159311.toInt) (rfl : p2.toInt = p2.toInt) c159326
        refine lv_aload_n hx hb dX3_whole_60 rfl (lv_at hl 0 rfl) ?_
        refine t_get (C := RX3) (T := TX3) (N := 13) X hT m0 g0 rfl rfl 3 (by decide) qw_163 inlX3 rfl dX3_whole_61 (fun v159328 hv159328 ov159328 => ?_)
        obtain ⟨z159329, rfl, rz159329⟩ := okV_i ov159328
        refine lv_if_eq (tgt := 69) hx hb dX3_whole_64 (by decide) (fun c159330 => ?_) (fun c159330 => ?_)
        · have w159331 := cv_eq (rfl : z159329.toInt = z159329.toInt) (by decide : (0 : Int32).toInt = 0) c159330
          refine lv_aload_n hx hb dX3_whole_69 rfl (lv_at hl 0 rfl) ?_
          refine t_get (C := RX3) (T := TX3) (N := 13) X hT m0 g0 rfl rfl 0 (by decide) qw_73 inlX3 rfl dX3_whole_70 (fun v159332 hv159332 ov159332 => ?_)
          obtain rfl : v159332 = .ref x0 := hv159332.symm.trans pf0
          refine t_get (C := RX8) (T := TX8) (N := 8) X hT mx0 gx0 rfl rfl 6 (by decide) qw_322 inlX8 rfl dX3_whole_73 (fun v159333 hv159333 ov159333 => ?_)
          obtain rfl : v159333 = .int z159311 := hv159333.symm.trans hv159310
          refine lv_istore_n (lv' := [(3, .int z159311), (0, .ref p0), (1, .int p1), (2, .int p2)]) hx hb dX3_whole_76 rfl hl (by decide) rfl (fun ls hl => ?_)
          refine lv_aload_n hx hb dX3_whole_77 rfl (lv_at hl 1 rfl) ?_
          refine t_get (C := RX3) (T := TX3) (N := 13) X hT m0 g0 rfl rfl 0 (by decide) qw_73 inlX3 rfl dX3_whole_78 (fun v159334 hv159334 ov159334 => ?_)
          obtain rfl : v159334 = .ref x0 := hv159334.symm.trans pf0
          refine t_cVv (n := 0) (C := RX8) (T := TX8) (N := 8) (As := []) (rest := []) X hT (kt440_X8_advance l G tag L F hT.2.2.2 x0 x3 mx0 gx0 mx3 gx3 pf3) mx0 gx0 rfl rfl qw_305 qw_197 qw_198 qw_72 qw_199 ⟨rfl, by decide +kernel, by decide +kernel, by decide +kernel⟩ ⟨Nat.le_of_ble_eq_true rfl, Nat.le_of_ble_eq_true rfl⟩ hl rfl rfl (Nat.le_of_ble_eq_true rfl) dX3_whole_81 ⟨Nat.le_of_ble_eq_true rfl, Nat.le_of_ble_eq_true rfl⟩ (fun F H locs hT hz159335 => ?_)
          have yz159335 := hz159335
          have pf0 := (yz159335.1 _ 0 (Or.inr (by decide)) (Or.inr (by decide)) (Or.inr (by decide)) (Or.inr (by decide)) (Or.inr (by decide)) (Or.inr (by decide))).trans pf0
          have pf1 := (yz159335.1 _ 1 (Or.inr (by decide)) (Or.inr (by decide)) (Or.inr (by decide)) (Or.inr (by decide)) (Or.inr (by decide)) (Or.inr (by decide))).trans pf1
          have pf2 := (yz159335.1 _ 2 (Or.inl (by rw [g0]; decide)) (Or.inr (by decide)) (Or.inr (by decide)) (Or.inr (by decide)) (Or.inr (by decide)) (Or.inr (by decide))).trans pf2
          have pf3 := (yz159335.1 _ 0 (Or.inr (by decide)) (Or.inr (by decide)) (Or.inr (by decide)) (Or.inr (by decide)) (Or.inr (by decide)) (Or.inr (by decide))).trans pf3
          have pf4 := (yz159335.1 _ 10 (Or.inr (by decide)) (Or.inr (by decide)) (Or.inr (by decide)) (Or.inr (by decide)) (Or.inr (by decide)) (Or.inr (by decide))).trans pf4
          have pf5 := (yz159335.1 _ 11 (Or.inr (by decide)) (Or.inr (by decide)) (Or.inr (by decide)) (Or.inr (by decide)) (Or.inr (by decide)) (Or.inr (by decide))).trans pf5
          have hv159328 := (yz159335.1 _ 3 (Or.inr (by decide)) (Or.inl (by rw [g0]; decide)) (Or.inr (by decide)) (Or.inr (by decide)) (Or.inr (by decide)) (Or.inr (by decide))).trans hv159328
          have hfr : (∀ b j : Nat, (tag b ≠ 24 ∨ j ≠ 2) → (tag b ≠ 24 ∨ j ≠ 3) → (tag b ≠ 24 ∨ j ≠ 4) → (tag b ≠ 24 ∨ j ≠ 5) → (tag b ≠ 24 ∨ j ≠ 6) → (tag b ≠ 24 ∨ j ≠ 7) → (tag b ≠ 25 ∨ j ≠ 3) → (tag b ≠ 25 ∨ j ≠ 4) → fld F b j = fld Fo b j) ∧ EF tag F Fo := ⟨fun b j n24_2 n24_3 n24_4 n24_5 n24_6 n24_7 n25_3 n25_4 => (yz159335.1 b j n24_2 n24_3 n24_4 n24_5 n24_6 n24_7).trans (hfr.1 b j n24_2 n24_3 n24_4 n24_5 n24_6 n24_7 n25_3 n25_4), fun b j hb => (yz159335.2 b j hb).trans (hfr.2 b j hb)⟩
          refine lv_iload_n hx hb dX3_whole_84 rfl (lv_at hl 0 rfl) ?_
          exact t_iret hQ X hT (⟨(by omega), hfr⟩) (Nat.le_of_ble_eq_true rfl) (Nat.le_of_ble_eq_true rfl) dX3_whole_85
        · have w159336 := cv_ne (rfl : z159329.toInt = z159329.toInt) (by decide : (0 : Int32).toInt = 0) c159330
          refine lv_iload_n hx hb dX3_whole_67 rfl (lv_at hl 1 rfl) ?_
          exact t_iret hQ X hT (⟨(by omega), hfr⟩) (Nat.le_of_ble_eq_true rfl) (Nat.le_of_ble_eq_true rfl) dX3_whole_68
      · have w159337 := cv_nle (rfl : z159311.toInt = z159311.toInt) (rfl : p2.toInt = p2.toInt) c159326
        refine lv_aload_n hx hb dX3_whole_48 rfl (lv_at hl 0 rfl) ?_
        refine lv_iconst (v := 4) hx hb dX3_whole_49 (by decide) ?_
        refine lv_aload_n hx hb dX3_whole_50 rfl (lv_at hl 0 rfl) ?_
        refine t_get (C := RX3) (T := TX3) (N := 13) X hT m0 g0 rfl rfl 0 (by decide) qw_73 inlX3 rfl dX3_whole_51 (fun v159338 hv159338 ov159338 => ?_)
        obtain rfl : v159338 = .ref x0 := hv159338.symm.trans pf0
        refine t_get (C := RX8) (T := TX8) (N := 8) X hT mx0 gx0 rfl rfl 4 (by decide) qw_227 inlX8 rfl dX3_whole_54 (fun v159339 hv159339 ov159339 => ?_)
        obtain ⟨z159340, rfl, rz159340⟩ := okV_i ov159339
        refine t_cVv (n := 2) (C := RX3) (T := TX3) (N := 13) (As := [.int 4, .int z159340]) (rest := []) X hT (kt432_X3_fail l G tag L F hT.2.2.2 p0 4 z159340 m0 g0 (by decide)) m0 g0 rfl rfl qw_287 qw_288 qw_289 qw_28 qw_290 ⟨rfl, by decide +kernel, by decide +kernel, by decide +kernel⟩ ⟨Nat.le_of_ble_eq_true rfl, Nat.le_of_ble_eq_true rfl⟩ hl rfl rfl (Nat.le_of_ble_eq_true rfl) dX3_whole_57 ⟨Nat.le_of_ble_eq_true rfl, Nat.le_of_ble_eq_true rfl⟩ (fun F H locs hT hz159341 => ?_)
        obtain ⟨yz159341, xz159341_0⟩ := hz159341
        have pf0 := (yz159341.1 _ 0 (Or.inr (by decide)) (Or.inr (by decide))).trans pf0
        have pf1 := (yz159341.1 _ 1 (Or.inr (by decide)) (Or.inr (by decide))).trans pf1
        have pf2 := (yz159341.1 _ 2 (Or.inr (by decide)) (Or.inr (by decide))).trans pf2
        have pf3 := (yz159341.1 _ 0 (Or.inr (by decide)) (Or.inr (by decide))).trans pf3
        have pf4 := (yz159341.1 _ 10 (Or.inr (by decide)) (Or.inr (by decide))).trans pf4
        have pf5 := (yz159341.1 _ 11 (Or.inr (by decide)) (Or.inr (by decide))).trans pf5
        have hv159305 := (yz159341.1 _ 3 (Or.inl (by rw [gx0]; decide)) (Or.inr (by decide))).trans hv159305
        have hv159310 := (yz159341.1 _ 6 (Or.inr (by decide)) (Or.inr (by decide))).trans hv159310
        have hv159339 := (yz159341.1 _ 4 (Or.inr (by decide)) (Or.inl (by rw [gx0]; decide))).trans hv159339
        have hfr : (∀ b j : Nat, (tag b ≠ 24 ∨ j ≠ 2) → (tag b ≠ 24 ∨ j ≠ 3) → (tag b ≠ 24 ∨ j ≠ 4) → (tag b ≠ 24 ∨ j ≠ 5) → (tag b ≠ 24 ∨ j ≠ 6) → (tag b ≠ 24 ∨ j ≠ 7) → (tag b ≠ 25 ∨ j ≠ 3) → (tag b ≠ 25 ∨ j ≠ 4) → fld F b j = fld Fo b j) ∧ EF tag F Fo := ⟨fun b j n24_2 n24_3 n24_4 n24_5 n24_6 n24_7 n25_3 n25_4 => (yz159341.1 b j n25_3 n25_4).trans (hfr.1 b j n24_2 n24_3 n24_4 n24_5 n24_6 n24_7 n25_3 n25_4), fun b j hb => (yz159341.2 b j hb).trans (hfr.2 b j hb)⟩
        obtain ⟨z159342, qz159342, rz159342⟩ := xz159341_0
        refine lv_aload_n hx hb dX3_whole_60 rfl (lv_at hl 0 rfl) ?_
        refine t_get (C := RX3) (T := TX3) (N := 13) X hT m0 g0 rfl rfl 3 (by decide) qw_163 inlX3 rfl dX3_whole_61 (fun v159343 hv159343 ov159343 => ?_)
        obtain rfl : v159343 = .int z159342 := hv159343.symm.trans qz159342
        refine lv_if_eq (tgt := 69) hx hb dX3_whole_64 (by decide) (fun c159344 => ?_) (fun c159344 => ?_)
        · have w159345 := cv_eq (rfl : z159342.toInt = z159342.toInt) (by decide : (0 : Int32).toInt = 0) c159344
          exfalso
          omega
        · have w159346 := cv_ne (rfl : z159342.toInt = z159342.toInt) (by decide : (0 : Int32).toInt = 0) c159344
          refine lv_iload_n hx hb dX3_whole_67 rfl (lv_at hl 1 rfl) ?_
          exact t_iret hQ X hT (⟨(by omega), hfr⟩) (Nat.le_of_ble_eq_true rfl) (Nat.le_of_ble_eq_true rfl) dX3_whole_68
  · have w159347 := cv_ne (rfl : z159306.toInt = z159306.toInt) (by decide : (2 : Int32).toInt = 2) c159307
    refine lv_aload_n hx hb dX3_whole_11 rfl (lv_at hl 0 rfl) ?_
    refine lv_iconst (v := 1) hx hb dX3_whole_12 (by decide) ?_
    refine lv_aload_n hx hb dX3_whole_13 rfl (lv_at hl 0 rfl) ?_
    refine t_get (C := RX3) (T := TX3) (N := 13) X hT m0 g0 rfl rfl 0 (by decide) qw_73 inlX3 rfl dX3_whole_14 (fun v159348 hv159348 ov159348 => ?_)
    obtain rfl : v159348 = .ref x0 := hv159348.symm.trans pf0
    refine t_get (C := RX8) (T := TX8) (N := 8) X hT mx0 gx0 rfl rfl 4 (by decide) qw_227 inlX8 rfl dX3_whole_17 (fun v159349 hv159349 ov159349 => ?_)
    obtain ⟨z159350, rfl, rz159350⟩ := okV_i ov159349
    refine t_cVv (n := 2) (C := RX3) (T := TX3) (N := 13) (As := [.int 1, .int z159350]) (rest := []) X hT (kt432_X3_fail l G tag L F hT.2.2.2 p0 1 z159350 m0 g0 (by decide)) m0 g0 rfl rfl qw_287 qw_288 qw_289 qw_28 qw_290 ⟨rfl, by decide +kernel, by decide +kernel, by decide +kernel⟩ ⟨Nat.le_of_ble_eq_true rfl, Nat.le_of_ble_eq_true rfl⟩ hl rfl rfl (Nat.le_of_ble_eq_true rfl) dX3_whole_20 ⟨Nat.le_of_ble_eq_true rfl, Nat.le_of_ble_eq_true rfl⟩ (fun F H locs hT hz159351 => ?_)
    obtain ⟨yz159351, xz159351_0⟩ := hz159351
    have pf0 := (yz159351.1 _ 0 (Or.inr (by decide)) (Or.inr (by decide))).trans pf0
    have pf1 := (yz159351.1 _ 1 (Or.inr (by decide)) (Or.inr (by decide))).trans pf1
    have pf2 := (yz159351.1 _ 2 (Or.inr (by decide)) (Or.inr (by decide))).trans pf2
    have pf3 := (yz159351.1 _ 0 (Or.inr (by decide)) (Or.inr (by decide))).trans pf3
    have pf4 := (yz159351.1 _ 10 (Or.inr (by decide)) (Or.inr (by decide))).trans pf4
    have pf5 := (yz159351.1 _ 11 (Or.inr (by decide)) (Or.inr (by decide))).trans pf5
    have hv159305 := (yz159351.1 _ 3 (Or.inl (by rw [gx0]; decide)) (Or.inr (by decide))).trans hv159305
    have hv159349 := (yz159351.1 _ 4 (Or.inr (by decide)) (Or.inl (by rw [gx0]; decide))).trans hv159349
    have hfr : (∀ b j : Nat, (tag b ≠ 24 ∨ j ≠ 2) → (tag b ≠ 24 ∨ j ≠ 3) → (tag b ≠ 24 ∨ j ≠ 4) → (tag b ≠ 24 ∨ j ≠ 5) → (tag b ≠ 24 ∨ j ≠ 6) → (tag b ≠ 24 ∨ j ≠ 7) → (tag b ≠ 25 ∨ j ≠ 3) → (tag b ≠ 25 ∨ j ≠ 4) → fld F b j = fld Fo b j) ∧ EF tag F Fo := ⟨fun b j n24_2 n24_3 n24_4 n24_5 n24_6 n24_7 n25_3 n25_4 => (yz159351.1 b j n25_3 n25_4).trans (hfr.1 b j n24_2 n24_3 n24_4 n24_5 n24_6 n24_7 n25_3 n25_4), fun b j hb => (yz159351.2 b j hb).trans (hfr.2 b j hb)⟩
    obtain ⟨z159352, qz159352, rz159352⟩ := xz159351_0
    refine lv_goto (tgt := 60) hx hb dX3_whole_23 (by decide) ?_
    refine lv_aload_n hx hb dX3_whole_60 rfl (lv_at hl 0 rfl) ?_
    refine t_get (C := RX3) (T := TX3) (N := 13) X hT m0 g0 rfl rfl 3 (by decide) qw_163 inlX3 rfl dX3_whole_61 (fun v159353 hv159353 ov159353 => ?_)
    obtain rfl : v159353 = .int z159352 := hv159353.symm.trans qz159352
    refine lv_if_eq (tgt := 69) hx hb dX3_whole_64 (by decide) (fun c159354 => ?_) (fun c159354 => ?_)
    · have w159355 := cv_eq (rfl : z159352.toInt = z159352.toInt) (by decide : (0 : Int32).toInt = 0) c159354
      exfalso
      omega
    · have w159356 := cv_ne (rfl : z159352.toInt = z159352.toInt) (by decide : (0 : Int32).toInt = 0) c159354
      refine lv_iload_n hx hb dX3_whole_67 rfl (lv_at hl 1 rfl) ?_
      exact t_iret hQ X hT (⟨(by omega), hfr⟩) (Nat.le_of_ble_eq_true rfl) (Nat.le_of_ble_eq_true rfl) dX3_whole_68
set_option maxHeartbeats 4000000 in
set_option maxRecDepth 100000 in
theorem kt467_X3_readYears (l : Launch) (G : KG) (tag : Nat → Nat) (L : List Nat) (Fo : Nat → va_E) (ho : okT G ttC tag L Fo) (p0 : Nat) (x0 : Nat) (x1 : Nat) (x2 : Nat) (x3 : Nat) (x4 : Nat) (x5 : Nat) (m0 : p0 ∈ L) (g0 : tag p0 = 25) (mx0 : x0 ∈ L) (gx0 : tag x0 = 24) (pf0 : fld Fo p0 0 = .ref x0) (mx1 : x1 ∈ L) (gx1 : tag x1 = 18) (pf1 : fld Fo p0 1 = .ref x1) (mx2 : x2 ∈ L) (gx2 : tag x2 = 19) (pf2 : fld Fo p0 2 = .ref x2) (mx3 : x3 ∈ L) (gx3 : tag x3 = 1) (pf3 : fld Fo x0 0 = .ref x3) (mx4 : x4 ∈ L) (gx4 : tag x4 = 14) (pf4 : fld Fo p0 10 = .ref x4) (mx5 : x5 ∈ L) (gx5 : tag x5 = 15) (pf5 : fld Fo p0 11 = .ref x5) : TMv l yX3_readYears cX3_readYears 1 { frames := 6, cells := 0, slots := 0, locals := 129 } G ttC tag L Fo [.ref p0] (fun F1 => ((∀ b j : Nat, (tag b ≠ 18 ∨ j ≠ 4) → (tag b ≠ 18 ∨ j ≠ 5) → (tag b ≠ 18 ∨ j ≠ 6) → (tag b ≠ 19 ∨ j ≠ 0) → (tag b ≠ 24 ∨ j ≠ 2) → (tag b ≠ 24 ∨ j ≠ 3) → (tag b ≠ 24 ∨ j ≠ 4) → (tag b ≠ 24 ∨ j ≠ 5) → (tag b ≠ 24 ∨ j ≠ 6) → (tag b ≠ 24 ∨ j ≠ 7) → (tag b ≠ 25 ∨ j ≠ 3) → (tag b ≠ 25 ∨ j ≠ 4) → (tag b ≠ 25 ∨ j ≠ 6) → fld F1 b j = fld Fo b j) ∧ EF tag F1 Fo)) := by
  refine t_bodyv (y := yX3_readYears) (cd := cX3_readYears) (mL := 1) (rm := { frames := 6, cells := 0, slots := 0, locals := 129 }) (av := [.ref p0]) (by decide) (Nat.le_of_ble_eq_true rfl) ho ?_
  intro p e s m args below meth c ls A Q hQ X hT hl
  have hx := X.1.1
  have hb := X.1.2.1
  have hl : lv_has ls 1 [(0, .ref p0)] := hl
  obtain ⟨F, hFo⟩ : ∃ F : Nat → va_E, F = Fo := ⟨_, rfl⟩
  rw [← hFo] at hT pf0 pf1 pf2 pf3 pf4 pf5
  have hfr : (∀ b j : Nat, (tag b ≠ 18 ∨ j ≠ 4) → (tag b ≠ 18 ∨ j ≠ 5) → (tag b ≠ 18 ∨ j ≠ 6) → (tag b ≠ 19 ∨ j ≠ 0) → (tag b ≠ 24 ∨ j ≠ 2) → (tag b ≠ 24 ∨ j ≠ 3) → (tag b ≠ 24 ∨ j ≠ 4) → (tag b ≠ 24 ∨ j ≠ 5) → (tag b ≠ 24 ∨ j ≠ 6) → (tag b ≠ 24 ∨ j ≠ 7) → (tag b ≠ 25 ∨ j ≠ 3) → (tag b ≠ 25 ∨ j ≠ 4) → (tag b ≠ 25 ∨ j ≠ 6) → fld F b j = fld Fo b j) ∧ EF tag F Fo := by
    rw [hFo]
    exact ⟨by intros; rfl, fun _ _ _ => rfl⟩
  refine lv_aload_n hx hb dX3_readYears_0 rfl (lv_at hl 0 rfl) ?_
  refine t_get (C := RX3) (T := TX3) (N := 13) X hT m0 g0 rfl rfl 2 (by decide) qw_162 inlX3 rfl dX3_readYears_1 (fun v159528 hv159528 ov159528 => ?_)
  obtain rfl : v159528 = .ref x2 := hv159528.symm.trans pf2
  refine lv_aload_n hx hb dX3_readYears_4 rfl (lv_at hl 0 rfl) ?_
  refine lv_iconst (v := 0) hx hb dX3_readYears_5 (by decide) ?_
  refine lv_sipush (v := 900) hx hb dX3_readYears_6 (by decide) ?_
  refine t_cVi (n := 2) (C := RX3) (T := TX3) (N := 13) (As := [.int 0, .int 900]) (rest := [.ref x2]) X hT (kt465_X3_whole l G tag L F hT.2.2.2 p0 0 900 x0 x1 x2 x3 x4 x5 m0 g0 (by decide) (by decide) mx0 gx0 pf0 mx1 gx1 pf1 mx2 gx2 pf2 mx3 gx3 pf3 mx4 gx4 pf4 mx5 gx5 pf5) m0 g0 rfl rfl qw_318 qw_319 qw_320 qw_28 qw_321 ⟨rfl, by decide +kernel, by decide +kernel, by decide +kernel⟩ ⟨Nat.le_of_ble_eq_true rfl, Nat.le_of_ble_eq_true rfl⟩ hl rfl rfl (Nat.le_of_ble_eq_true rfl) dX3_readYears_9 ⟨Nat.le_of_ble_eq_true rfl, Nat.le_of_ble_eq_true rfl⟩ (fun z159529 F H locs hT hz159529 => ?_)
  obtain ⟨hz159529, yz159529⟩ := hz159529
  have pf0 := (yz159529.1 _ 0 (Or.inr (by decide)) (Or.inr (by decide)) (Or.inr (by decide)) (Or.inr (by decide)) (Or.inr (by decide)) (Or.inr (by decide)) (Or.inr (by decide)) (Or.inr (by decide))).trans pf0
  have pf1 := (yz159529.1 _ 1 (Or.inr (by decide)) (Or.inr (by decide)) (Or.inr (by decide)) (Or.inr (by decide)) (Or.inr (by decide)) (Or.inr (by decide)) (Or.inr (by decide)) (Or.inr (by decide))).trans pf1
  have pf2 := (yz159529.1 _ 2 (Or.inl (by rw [g0]; decide)) (Or.inr (by decide)) (Or.inr (by decide)) (Or.inr (by decide)) (Or.inr (by decide)) (Or.inr (by decide)) (Or.inr (by decide)) (Or.inr (by decide))).trans pf2
  have pf3 := (yz159529.1 _ 0 (Or.inr (by decide)) (Or.inr (by decide)) (Or.inr (by decide)) (Or.inr (by decide)) (Or.inr (by decide)) (Or.inr (by decide)) (Or.inr (by decide)) (Or.inr (by decide))).trans pf3
  have pf4 := (yz159529.1 _ 10 (Or.inr (by decide)) (Or.inr (by decide)) (Or.inr (by decide)) (Or.inr (by decide)) (Or.inr (by decide)) (Or.inr (by decide)) (Or.inr (by decide)) (Or.inr (by decide))).trans pf4
  have pf5 := (yz159529.1 _ 11 (Or.inr (by decide)) (Or.inr (by decide)) (Or.inr (by decide)) (Or.inr (by decide)) (Or.inr (by decide)) (Or.inr (by decide)) (Or.inr (by decide)) (Or.inr (by decide))).trans pf5
  have hfr : (∀ b j : Nat, (tag b ≠ 18 ∨ j ≠ 4) → (tag b ≠ 18 ∨ j ≠ 5) → (tag b ≠ 18 ∨ j ≠ 6) → (tag b ≠ 19 ∨ j ≠ 0) → (tag b ≠ 24 ∨ j ≠ 2) → (tag b ≠ 24 ∨ j ≠ 3) → (tag b ≠ 24 ∨ j ≠ 4) → (tag b ≠ 24 ∨ j ≠ 5) → (tag b ≠ 24 ∨ j ≠ 6) → (tag b ≠ 24 ∨ j ≠ 7) → (tag b ≠ 25 ∨ j ≠ 3) → (tag b ≠ 25 ∨ j ≠ 4) → (tag b ≠ 25 ∨ j ≠ 6) → fld F b j = fld Fo b j) ∧ EF tag F Fo := ⟨fun b j n18_4 n18_5 n18_6 n19_0 n24_2 n24_3 n24_4 n24_5 n24_6 n24_7 n25_3 n25_4 n25_6 => (yz159529.1 b j n24_2 n24_3 n24_4 n24_5 n24_6 n24_7 n25_3 n25_4).trans (hfr.1 b j n18_4 n18_5 n18_6 n19_0 n24_2 n24_3 n24_4 n24_5 n24_6 n24_7 n25_3 n25_4 n25_6), fun b j hb => (yz159529.2 b j hb).trans (hfr.2 b j hb)⟩
  refine t_put (C := RX7) (T := TX7) (N := 7) (v := .int z159529) X hT mx2 gx2 rfl tyX7 tyX7_ok nmX7 rfl 0 (by decide) qw_331 inlX7 rfl (by first | rfl | decide) (by first | rfl | decide) rfl (⟨_, rfl, (show (-2147483648) ≤ (z159529 : Int32).toInt from (by omega)), (show (z159529 : Int32).toInt ≤ 2147483647 from (by omega))⟩) dX3_readYears_12 (fun F H locs hT v159530 h1v159530 h2v159530 => ?_)
  have pf0 := (h1v159530 _ _ (Or.inl (tne g0 gx2 (by decide)))).trans pf0
  have pf1 := (h1v159530 _ _ (Or.inr (by decide))).trans pf1
  have pf2 := (h1v159530 _ _ (Or.inr (by decide))).trans pf2
  have pf3 := (h1v159530 _ _ (Or.inl (tne gx0 gx2 (by decide)))).trans pf3
  have pf4 := (h1v159530 _ _ (Or.inr (by decide))).trans pf4
  have pf5 := (h1v159530 _ _ (Or.inr (by decide))).trans pf5
  have hfr : (∀ b j : Nat, (tag b ≠ 18 ∨ j ≠ 4) → (tag b ≠ 18 ∨ j ≠ 5) → (tag b ≠ 18 ∨ j ≠ 6) → (tag b ≠ 19 ∨ j ≠ 0) → (tag b ≠ 24 ∨ j ≠ 2) → (tag b ≠ 24 ∨ j ≠ 3) → (tag b ≠ 24 ∨ j ≠ 4) → (tag b ≠ 24 ∨ j ≠ 5) → (tag b ≠ 24 ∨ j ≠ 6) → (tag b ≠ 24 ∨ j ≠ 7) → (tag b ≠ 25 ∨ j ≠ 3) → (tag b ≠ 25 ∨ j ≠ 4) → (tag b ≠ 25 ∨ j ≠ 6) → fld F b j = fld Fo b j) ∧ EF tag F Fo := ⟨fun b j n18_4 n18_5 n18_6 n19_0 n24_2 n24_3 n24_4 n24_5 n24_6 n24_7 n25_3 n25_4 n25_6 => (h1v159530 b j (fr_ne gx2 n19_0)).trans (hfr.1 b j n18_4 n18_5 n18_6 n19_0 n24_2 n24_3 n24_4 n24_5 n24_6 n24_7 n25_3 n25_4 n25_6), fun b j hb => (h2v159530 b j).trans (hfr.2 b j hb)⟩
  refine lv_aload_n hx hb dX3_readYears_15 rfl (lv_at hl 0 rfl) ?_
  refine m_ldcK X 20 rfl dX3_readYears_16 ?_
  refine t_cVv (n := 1) (C := RX3) (T := TX3) (N := 13) (As := [.ref (G.2 (100 + 20))]) (rest := []) X hT (kt450_X3_word l G tag L F hT.2.2.2 p0 20 x0 x1 x2 x3 x4 x5 m0 g0 (by decide) mx0 gx0 pf0 mx1 gx1 pf1 mx2 gx2 pf2 mx3 gx3 pf3 mx4 gx4 pf4 mx5 gx5 pf5) m0 g0 rfl rfl qw_314 qw_315 qw_316 qw_28 qw_317 ⟨rfl, by decide +kernel, by decide +kernel, by decide +kernel⟩ ⟨Nat.le_of_ble_eq_true rfl, Nat.le_of_ble_eq_true rfl⟩ hl rfl rfl (Nat.le_of_ble_eq_true rfl) dX3_readYears_18 ⟨Nat.le_of_ble_eq_true rfl, Nat.le_of_ble_eq_true rfl⟩ (fun F H locs hT hz159531 => ?_)
  have yz159531 := hz159531
  have pf0 := (yz159531.1 _ 0 (Or.inr (by decide)) (Or.inr (by decide)) (Or.inr (by decide)) (Or.inr (by decide)) (Or.inr (by decide)) (Or.inr (by decide)) (Or.inr (by decide)) (Or.inr (by decide))).trans pf0
  have pf1 := (yz159531.1 _ 1 (Or.inr (by decide)) (Or.inr (by decide)) (Or.inr (by decide)) (Or.inr (by decide)) (Or.inr (by decide)) (Or.inr (by decide)) (Or.inr (by decide)) (Or.inr (by decide))).trans pf1
  have pf2 := (yz159531.1 _ 2 (Or.inl (by rw [g0]; decide)) (Or.inr (by decide)) (Or.inr (by decide)) (Or.inr (by decide)) (Or.inr (by decide)) (Or.inr (by decide)) (Or.inr (by decide)) (Or.inr (by decide))).trans pf2
  have pf3 := (yz159531.1 _ 0 (Or.inr (by decide)) (Or.inr (by decide)) (Or.inr (by decide)) (Or.inr (by decide)) (Or.inr (by decide)) (Or.inr (by decide)) (Or.inr (by decide)) (Or.inr (by decide))).trans pf3
  have pf4 := (yz159531.1 _ 10 (Or.inr (by decide)) (Or.inr (by decide)) (Or.inr (by decide)) (Or.inr (by decide)) (Or.inr (by decide)) (Or.inr (by decide)) (Or.inr (by decide)) (Or.inr (by decide))).trans pf4
  have pf5 := (yz159531.1 _ 11 (Or.inr (by decide)) (Or.inr (by decide)) (Or.inr (by decide)) (Or.inr (by decide)) (Or.inr (by decide)) (Or.inr (by decide)) (Or.inr (by decide)) (Or.inr (by decide))).trans pf5
  have v159530 := (yz159531.1 _ 0 (Or.inr (by decide)) (Or.inr (by decide)) (Or.inr (by decide)) (Or.inr (by decide)) (Or.inr (by decide)) (Or.inr (by decide)) (Or.inr (by decide)) (Or.inr (by decide))).trans v159530
  have hfr : (∀ b j : Nat, (tag b ≠ 18 ∨ j ≠ 4) → (tag b ≠ 18 ∨ j ≠ 5) → (tag b ≠ 18 ∨ j ≠ 6) → (tag b ≠ 19 ∨ j ≠ 0) → (tag b ≠ 24 ∨ j ≠ 2) → (tag b ≠ 24 ∨ j ≠ 3) → (tag b ≠ 24 ∨ j ≠ 4) → (tag b ≠ 24 ∨ j ≠ 5) → (tag b ≠ 24 ∨ j ≠ 6) → (tag b ≠ 24 ∨ j ≠ 7) → (tag b ≠ 25 ∨ j ≠ 3) → (tag b ≠ 25 ∨ j ≠ 4) → (tag b ≠ 25 ∨ j ≠ 6) → fld F b j = fld Fo b j) ∧ EF tag F Fo := ⟨fun b j n18_4 n18_5 n18_6 n19_0 n24_2 n24_3 n24_4 n24_5 n24_6 n24_7 n25_3 n25_4 n25_6 => (yz159531.1 b j n24_2 n24_3 n24_4 n24_5 n24_6 n24_7 n25_3 n25_4).trans (hfr.1 b j n18_4 n18_5 n18_6 n19_0 n24_2 n24_3 n24_4 n24_5 n24_6 n24_7 n25_3 n25_4 n25_6), fun b j hb => (yz159531.2 b j hb).trans (hfr.2 b j hb)⟩
  refine lv_aload_n hx hb dX3_readYears_21 rfl (lv_at hl 0 rfl) ?_
  refine t_get (C := RX3) (T := TX3) (N := 13) X hT m0 g0 rfl rfl 1 (by decide) qw_161 inlX3 rfl dX3_readYears_22 (fun v159532 hv159532 ov159532 => ?_)
  obtain rfl : v159532 = .ref x1 := hv159532.symm.trans pf1
  refine lv_aload_n hx hb dX3_readYears_25 rfl (lv_at hl 0 rfl) ?_
  refine lv_iconst (v := 0) hx hb dX3_readYears_26 (by decide) ?_
  refine lv_bipush (v := 100) hx hb dX3_readYears_27 (by decide) ?_
  refine t_cVi (n := 2) (C := RX3) (T := TX3) (N := 13) (As := [.int 0, .int 100]) (rest := [.ref x1]) X hT (kt466_X3_whole l G tag L F hT.2.2.2 p0 0 100 x0 x1 x2 x3 x4 x5 m0 g0 (by decide) (by decide) mx0 gx0 pf0 mx1 gx1 pf1 mx2 gx2 pf2 mx3 gx3 pf3 mx4 gx4 pf4 mx5 gx5 pf5) m0 g0 rfl rfl qw_318 qw_319 qw_320 qw_28 qw_321 ⟨rfl, by decide +kernel, by decide +kernel, by decide +kernel⟩ ⟨Nat.le_of_ble_eq_true rfl, Nat.le_of_ble_eq_true rfl⟩ hl rfl rfl (Nat.le_of_ble_eq_true rfl) dX3_readYears_29 ⟨Nat.le_of_ble_eq_true rfl, Nat.le_of_ble_eq_true rfl⟩ (fun z159533 F H locs hT hz159533 => ?_)
  obtain ⟨hz159533, yz159533⟩ := hz159533
  have pf0 := (yz159533.1 _ 0 (Or.inr (by decide)) (Or.inr (by decide)) (Or.inr (by decide)) (Or.inr (by decide)) (Or.inr (by decide)) (Or.inr (by decide)) (Or.inr (by decide)) (Or.inr (by decide))).trans pf0
  have pf1 := (yz159533.1 _ 1 (Or.inr (by decide)) (Or.inr (by decide)) (Or.inr (by decide)) (Or.inr (by decide)) (Or.inr (by decide)) (Or.inr (by decide)) (Or.inr (by decide)) (Or.inr (by decide))).trans pf1
  have pf2 := (yz159533.1 _ 2 (Or.inl (by rw [g0]; decide)) (Or.inr (by decide)) (Or.inr (by decide)) (Or.inr (by decide)) (Or.inr (by decide)) (Or.inr (by decide)) (Or.inr (by decide)) (Or.inr (by decide))).trans pf2
  have pf3 := (yz159533.1 _ 0 (Or.inr (by decide)) (Or.inr (by decide)) (Or.inr (by decide)) (Or.inr (by decide)) (Or.inr (by decide)) (Or.inr (by decide)) (Or.inr (by decide)) (Or.inr (by decide))).trans pf3
  have pf4 := (yz159533.1 _ 10 (Or.inr (by decide)) (Or.inr (by decide)) (Or.inr (by decide)) (Or.inr (by decide)) (Or.inr (by decide)) (Or.inr (by decide)) (Or.inr (by decide)) (Or.inr (by decide))).trans pf4
  have pf5 := (yz159533.1 _ 11 (Or.inr (by decide)) (Or.inr (by decide)) (Or.inr (by decide)) (Or.inr (by decide)) (Or.inr (by decide)) (Or.inr (by decide)) (Or.inr (by decide)) (Or.inr (by decide))).trans pf5
  have v159530 := (yz159533.1 _ 0 (Or.inr (by decide)) (Or.inr (by decide)) (Or.inr (by decide)) (Or.inr (by decide)) (Or.inr (by decide)) (Or.inr (by decide)) (Or.inr (by decide)) (Or.inr (by decide))).trans v159530
  have hfr : (∀ b j : Nat, (tag b ≠ 18 ∨ j ≠ 4) → (tag b ≠ 18 ∨ j ≠ 5) → (tag b ≠ 18 ∨ j ≠ 6) → (tag b ≠ 19 ∨ j ≠ 0) → (tag b ≠ 24 ∨ j ≠ 2) → (tag b ≠ 24 ∨ j ≠ 3) → (tag b ≠ 24 ∨ j ≠ 4) → (tag b ≠ 24 ∨ j ≠ 5) → (tag b ≠ 24 ∨ j ≠ 6) → (tag b ≠ 24 ∨ j ≠ 7) → (tag b ≠ 25 ∨ j ≠ 3) → (tag b ≠ 25 ∨ j ≠ 4) → (tag b ≠ 25 ∨ j ≠ 6) → fld F b j = fld Fo b j) ∧ EF tag F Fo := ⟨fun b j n18_4 n18_5 n18_6 n19_0 n24_2 n24_3 n24_4 n24_5 n24_6 n24_7 n25_3 n25_4 n25_6 => (yz159533.1 b j n24_2 n24_3 n24_4 n24_5 n24_6 n24_7 n25_3 n25_4).trans (hfr.1 b j n18_4 n18_5 n18_6 n19_0 n24_2 n24_3 n24_4 n24_5 n24_6 n24_7 n25_3 n25_4 n25_6), fun b j hb => (yz159533.2 b j hb).trans (hfr.2 b j hb)⟩
  refine t_put (C := RX1) (T := TX1) (N := 20) (v := .int z159533) X hT mx1 gx1 rfl tyX1 tyX1_ok nmX1 rfl 4 (by decide) qw_332 inlX1 rfl (by first | rfl | decide) (by first | rfl | decide) rfl (⟨_, rfl, (show (-2147483648) ≤ (z159533 : Int32).toInt from (by omega)), (show (z159533 : Int32).toInt ≤ 2147483647 from (by omega))⟩) dX3_readYears_32 (fun F H locs hT v159534 h1v159534 h2v159534 => ?_)
  have pf0 := (h1v159534 _ _ (Or.inr (by decide))).trans pf0
  have pf1 := (h1v159534 _ _ (Or.inr (by decide))).trans pf1
  have pf2 := (h1v159534 _ _ (Or.inr (by decide))).trans pf2
  have pf3 := (h1v159534 _ _ (Or.inr (by decide))).trans pf3
  have pf4 := (h1v159534 _ _ (Or.inr (by decide))).trans pf4
  have pf5 := (h1v159534 _ _ (Or.inr (by decide))).trans pf5
  have v159530 := (h1v159534 _ _ (Or.inr (by decide))).trans v159530
  have hfr : (∀ b j : Nat, (tag b ≠ 18 ∨ j ≠ 4) → (tag b ≠ 18 ∨ j ≠ 5) → (tag b ≠ 18 ∨ j ≠ 6) → (tag b ≠ 19 ∨ j ≠ 0) → (tag b ≠ 24 ∨ j ≠ 2) → (tag b ≠ 24 ∨ j ≠ 3) → (tag b ≠ 24 ∨ j ≠ 4) → (tag b ≠ 24 ∨ j ≠ 5) → (tag b ≠ 24 ∨ j ≠ 6) → (tag b ≠ 24 ∨ j ≠ 7) → (tag b ≠ 25 ∨ j ≠ 3) → (tag b ≠ 25 ∨ j ≠ 4) → (tag b ≠ 25 ∨ j ≠ 6) → fld F b j = fld Fo b j) ∧ EF tag F Fo := ⟨fun b j n18_4 n18_5 n18_6 n19_0 n24_2 n24_3 n24_4 n24_5 n24_6 n24_7 n25_3 n25_4 n25_6 => (h1v159534 b j (fr_ne gx1 n18_4)).trans (hfr.1 b j n18_4 n18_5 n18_6 n19_0 n24_2 n24_3 n24_4 n24_5 n24_6 n24_7 n25_3 n25_4 n25_6), fun b j hb => (h2v159534 b j).trans (hfr.2 b j hb)⟩
  refine lv_aload_n hx hb dX3_readYears_35 rfl (lv_at hl 0 rfl) ?_
  refine m_ldcK X 21 rfl dX3_readYears_36 ?_
  refine t_cVv (n := 1) (C := RX3) (T := TX3) (N := 13) (As := [.ref (G.2 (100 + 21))]) (rest := []) X hT (kt450_X3_word l G tag L F hT.2.2.2 p0 21 x0 x1 x2 x3 x4 x5 m0 g0 (by decide) mx0 gx0 pf0 mx1 gx1 pf1 mx2 gx2 pf2 mx3 gx3 pf3 mx4 gx4 pf4 mx5 gx5 pf5) m0 g0 rfl rfl qw_314 qw_315 qw_316 qw_28 qw_317 ⟨rfl, by decide +kernel, by decide +kernel, by decide +kernel⟩ ⟨Nat.le_of_ble_eq_true rfl, Nat.le_of_ble_eq_true rfl⟩ hl rfl rfl (Nat.le_of_ble_eq_true rfl) dX3_readYears_38 ⟨Nat.le_of_ble_eq_true rfl, Nat.le_of_ble_eq_true rfl⟩ (fun F H locs hT hz159535 => ?_)
  have yz159535 := hz159535
  have pf0 := (yz159535.1 _ 0 (Or.inr (by decide)) (Or.inr (by decide)) (Or.inr (by decide)) (Or.inr (by decide)) (Or.inr (by decide)) (Or.inr (by decide)) (Or.inr (by decide)) (Or.inr (by decide))).trans pf0
  have pf1 := (yz159535.1 _ 1 (Or.inr (by decide)) (Or.inr (by decide)) (Or.inr (by decide)) (Or.inr (by decide)) (Or.inr (by decide)) (Or.inr (by decide)) (Or.inr (by decide)) (Or.inr (by decide))).trans pf1
  have pf2 := (yz159535.1 _ 2 (Or.inl (by rw [g0]; decide)) (Or.inr (by decide)) (Or.inr (by decide)) (Or.inr (by decide)) (Or.inr (by decide)) (Or.inr (by decide)) (Or.inr (by decide)) (Or.inr (by decide))).trans pf2
  have pf3 := (yz159535.1 _ 0 (Or.inr (by decide)) (Or.inr (by decide)) (Or.inr (by decide)) (Or.inr (by decide)) (Or.inr (by decide)) (Or.inr (by decide)) (Or.inr (by decide)) (Or.inr (by decide))).trans pf3
  have pf4 := (yz159535.1 _ 10 (Or.inr (by decide)) (Or.inr (by decide)) (Or.inr (by decide)) (Or.inr (by decide)) (Or.inr (by decide)) (Or.inr (by decide)) (Or.inr (by decide)) (Or.inr (by decide))).trans pf4
  have pf5 := (yz159535.1 _ 11 (Or.inr (by decide)) (Or.inr (by decide)) (Or.inr (by decide)) (Or.inr (by decide)) (Or.inr (by decide)) (Or.inr (by decide)) (Or.inr (by decide)) (Or.inr (by decide))).trans pf5
  have v159530 := (yz159535.1 _ 0 (Or.inr (by decide)) (Or.inr (by decide)) (Or.inr (by decide)) (Or.inr (by decide)) (Or.inr (by decide)) (Or.inr (by decide)) (Or.inr (by decide)) (Or.inr (by decide))).trans v159530
  have v159534 := (yz159535.1 _ 4 (Or.inr (by decide)) (Or.inr (by decide)) (Or.inl (by rw [gx1]; decide)) (Or.inr (by decide)) (Or.inr (by decide)) (Or.inr (by decide)) (Or.inr (by decide)) (Or.inl (by rw [gx1]; decide))).trans v159534
  have hfr : (∀ b j : Nat, (tag b ≠ 18 ∨ j ≠ 4) → (tag b ≠ 18 ∨ j ≠ 5) → (tag b ≠ 18 ∨ j ≠ 6) → (tag b ≠ 19 ∨ j ≠ 0) → (tag b ≠ 24 ∨ j ≠ 2) → (tag b ≠ 24 ∨ j ≠ 3) → (tag b ≠ 24 ∨ j ≠ 4) → (tag b ≠ 24 ∨ j ≠ 5) → (tag b ≠ 24 ∨ j ≠ 6) → (tag b ≠ 24 ∨ j ≠ 7) → (tag b ≠ 25 ∨ j ≠ 3) → (tag b ≠ 25 ∨ j ≠ 4) → (tag b ≠ 25 ∨ j ≠ 6) → fld F b j = fld Fo b j) ∧ EF tag F Fo := ⟨fun b j n18_4 n18_5 n18_6 n19_0 n24_2 n24_3 n24_4 n24_5 n24_6 n24_7 n25_3 n25_4 n25_6 => (yz159535.1 b j n24_2 n24_3 n24_4 n24_5 n24_6 n24_7 n25_3 n25_4).trans (hfr.1 b j n18_4 n18_5 n18_6 n19_0 n24_2 n24_3 n24_4 n24_5 n24_6 n24_7 n25_3 n25_4 n25_6), fun b j hb => (yz159535.2 b j hb).trans (hfr.2 b j hb)⟩
  refine lv_aload_n hx hb dX3_readYears_41 rfl (lv_at hl 0 rfl) ?_
  refine t_get (C := RX3) (T := TX3) (N := 13) X hT m0 g0 rfl rfl 1 (by decide) qw_161 inlX3 rfl dX3_readYears_42 (fun v159536 hv159536 ov159536 => ?_)
  obtain rfl : v159536 = .ref x1 := hv159536.symm.trans pf1
  refine lv_aload_n hx hb dX3_readYears_45 rfl (lv_at hl 0 rfl) ?_
  refine lv_iconst (v := 0) hx hb dX3_readYears_46 (by decide) ?_
  refine lv_bipush (v := 100) hx hb dX3_readYears_47 (by decide) ?_
  refine t_cVi (n := 2) (C := RX3) (T := TX3) (N := 13) (As := [.int 0, .int 100]) (rest := [.ref x1]) X hT (kt466_X3_whole l G tag L F hT.2.2.2 p0 0 100 x0 x1 x2 x3 x4 x5 m0 g0 (by decide) (by decide) mx0 gx0 pf0 mx1 gx1 pf1 mx2 gx2 pf2 mx3 gx3 pf3 mx4 gx4 pf4 mx5 gx5 pf5) m0 g0 rfl rfl qw_318 qw_319 qw_320 qw_28 qw_321 ⟨rfl, by decide +kernel, by decide +kernel, by decide +kernel⟩ ⟨Nat.le_of_ble_eq_true rfl, Nat.le_of_ble_eq_true rfl⟩ hl rfl rfl (Nat.le_of_ble_eq_true rfl) dX3_readYears_49 ⟨Nat.le_of_ble_eq_true rfl, Nat.le_of_ble_eq_true rfl⟩ (fun z159537 F H locs hT hz159537 => ?_)
  obtain ⟨hz159537, yz159537⟩ := hz159537
  have pf0 := (yz159537.1 _ 0 (Or.inr (by decide)) (Or.inr (by decide)) (Or.inr (by decide)) (Or.inr (by decide)) (Or.inr (by decide)) (Or.inr (by decide)) (Or.inr (by decide)) (Or.inr (by decide))).trans pf0
  have pf1 := (yz159537.1 _ 1 (Or.inr (by decide)) (Or.inr (by decide)) (Or.inr (by decide)) (Or.inr (by decide)) (Or.inr (by decide)) (Or.inr (by decide)) (Or.inr (by decide)) (Or.inr (by decide))).trans pf1
  have pf2 := (yz159537.1 _ 2 (Or.inl (by rw [g0]; decide)) (Or.inr (by decide)) (Or.inr (by decide)) (Or.inr (by decide)) (Or.inr (by decide)) (Or.inr (by decide)) (Or.inr (by decide)) (Or.inr (by decide))).trans pf2
  have pf3 := (yz159537.1 _ 0 (Or.inr (by decide)) (Or.inr (by decide)) (Or.inr (by decide)) (Or.inr (by decide)) (Or.inr (by decide)) (Or.inr (by decide)) (Or.inr (by decide)) (Or.inr (by decide))).trans pf3
  have pf4 := (yz159537.1 _ 10 (Or.inr (by decide)) (Or.inr (by decide)) (Or.inr (by decide)) (Or.inr (by decide)) (Or.inr (by decide)) (Or.inr (by decide)) (Or.inr (by decide)) (Or.inr (by decide))).trans pf4
  have pf5 := (yz159537.1 _ 11 (Or.inr (by decide)) (Or.inr (by decide)) (Or.inr (by decide)) (Or.inr (by decide)) (Or.inr (by decide)) (Or.inr (by decide)) (Or.inr (by decide)) (Or.inr (by decide))).trans pf5
  have v159530 := (yz159537.1 _ 0 (Or.inr (by decide)) (Or.inr (by decide)) (Or.inr (by decide)) (Or.inr (by decide)) (Or.inr (by decide)) (Or.inr (by decide)) (Or.inr (by decide)) (Or.inr (by decide))).trans v159530
  have v159534 := (yz159537.1 _ 4 (Or.inr (by decide)) (Or.inr (by decide)) (Or.inl (by rw [gx1]; decide)) (Or.inr (by decide)) (Or.inr (by decide)) (Or.inr (by decide)) (Or.inr (by decide)) (Or.inl (by rw [gx1]; decide))).trans v159534
  have hfr : (∀ b j : Nat, (tag b ≠ 18 ∨ j ≠ 4) → (tag b ≠ 18 ∨ j ≠ 5) → (tag b ≠ 18 ∨ j ≠ 6) → (tag b ≠ 19 ∨ j ≠ 0) → (tag b ≠ 24 ∨ j ≠ 2) → (tag b ≠ 24 ∨ j ≠ 3) → (tag b ≠ 24 ∨ j ≠ 4) → (tag b ≠ 24 ∨ j ≠ 5) → (tag b ≠ 24 ∨ j ≠ 6) → (tag b ≠ 24 ∨ j ≠ 7) → (tag b ≠ 25 ∨ j ≠ 3) → (tag b ≠ 25 ∨ j ≠ 4) → (tag b ≠ 25 ∨ j ≠ 6) → fld F b j = fld Fo b j) ∧ EF tag F Fo := ⟨fun b j n18_4 n18_5 n18_6 n19_0 n24_2 n24_3 n24_4 n24_5 n24_6 n24_7 n25_3 n25_4 n25_6 => (yz159537.1 b j n24_2 n24_3 n24_4 n24_5 n24_6 n24_7 n25_3 n25_4).trans (hfr.1 b j n18_4 n18_5 n18_6 n19_0 n24_2 n24_3 n24_4 n24_5 n24_6 n24_7 n25_3 n25_4 n25_6), fun b j hb => (yz159537.2 b j hb).trans (hfr.2 b j hb)⟩
  refine t_put (C := RX1) (T := TX1) (N := 20) (v := .int z159537) X hT mx1 gx1 rfl tyX1 tyX1_ok nmX1 rfl 5 (by decide) qw_333 inlX1 rfl (by first | rfl | decide) (by first | rfl | decide) rfl (⟨_, rfl, (show (-2147483648) ≤ (z159537 : Int32).toInt from (by omega)), (show (z159537 : Int32).toInt ≤ 2147483647 from (by omega))⟩) dX3_readYears_52 (fun F H locs hT v159538 h1v159538 h2v159538 => ?_)
  have pf0 := (h1v159538 _ _ (Or.inr (by decide))).trans pf0
  have pf1 := (h1v159538 _ _ (Or.inr (by decide))).trans pf1
  have pf2 := (h1v159538 _ _ (Or.inr (by decide))).trans pf2
  have pf3 := (h1v159538 _ _ (Or.inr (by decide))).trans pf3
  have pf4 := (h1v159538 _ _ (Or.inr (by decide))).trans pf4
  have pf5 := (h1v159538 _ _ (Or.inr (by decide))).trans pf5
  have v159530 := (h1v159538 _ _ (Or.inr (by decide))).trans v159530
  have v159534 := (h1v159538 _ _ (Or.inr (by decide))).trans v159534
  have hfr : (∀ b j : Nat, (tag b ≠ 18 ∨ j ≠ 4) → (tag b ≠ 18 ∨ j ≠ 5) → (tag b ≠ 18 ∨ j ≠ 6) → (tag b ≠ 19 ∨ j ≠ 0) → (tag b ≠ 24 ∨ j ≠ 2) → (tag b ≠ 24 ∨ j ≠ 3) → (tag b ≠ 24 ∨ j ≠ 4) → (tag b ≠ 24 ∨ j ≠ 5) → (tag b ≠ 24 ∨ j ≠ 6) → (tag b ≠ 24 ∨ j ≠ 7) → (tag b ≠ 25 ∨ j ≠ 3) → (tag b ≠ 25 ∨ j ≠ 4) → (tag b ≠ 25 ∨ j ≠ 6) → fld F b j = fld Fo b j) ∧ EF tag F Fo := ⟨fun b j n18_4 n18_5 n18_6 n19_0 n24_2 n24_3 n24_4 n24_5 n24_6 n24_7 n25_3 n25_4 n25_6 => (h1v159538 b j (fr_ne gx1 n18_5)).trans (hfr.1 b j n18_4 n18_5 n18_6 n19_0 n24_2 n24_3 n24_4 n24_5 n24_6 n24_7 n25_3 n25_4 n25_6), fun b j hb => (h2v159538 b j).trans (hfr.2 b j hb)⟩
  refine lv_aload_n hx hb dX3_readYears_55 rfl (lv_at hl 0 rfl) ?_
  refine m_ldcK X 22 rfl dX3_readYears_56 ?_
  refine t_cVv (n := 1) (C := RX3) (T := TX3) (N := 13) (As := [.ref (G.2 (100 + 22))]) (rest := []) X hT (kt450_X3_word l G tag L F hT.2.2.2 p0 22 x0 x1 x2 x3 x4 x5 m0 g0 (by decide) mx0 gx0 pf0 mx1 gx1 pf1 mx2 gx2 pf2 mx3 gx3 pf3 mx4 gx4 pf4 mx5 gx5 pf5) m0 g0 rfl rfl qw_314 qw_315 qw_316 qw_28 qw_317 ⟨rfl, by decide +kernel, by decide +kernel, by decide +kernel⟩ ⟨Nat.le_of_ble_eq_true rfl, Nat.le_of_ble_eq_true rfl⟩ hl rfl rfl (Nat.le_of_ble_eq_true rfl) dX3_readYears_58 ⟨Nat.le_of_ble_eq_true rfl, Nat.le_of_ble_eq_true rfl⟩ (fun F H locs hT hz159539 => ?_)
  have yz159539 := hz159539
  have pf0 := (yz159539.1 _ 0 (Or.inr (by decide)) (Or.inr (by decide)) (Or.inr (by decide)) (Or.inr (by decide)) (Or.inr (by decide)) (Or.inr (by decide)) (Or.inr (by decide)) (Or.inr (by decide))).trans pf0
  have pf1 := (yz159539.1 _ 1 (Or.inr (by decide)) (Or.inr (by decide)) (Or.inr (by decide)) (Or.inr (by decide)) (Or.inr (by decide)) (Or.inr (by decide)) (Or.inr (by decide)) (Or.inr (by decide))).trans pf1
  have pf2 := (yz159539.1 _ 2 (Or.inl (by rw [g0]; decide)) (Or.inr (by decide)) (Or.inr (by decide)) (Or.inr (by decide)) (Or.inr (by decide)) (Or.inr (by decide)) (Or.inr (by decide)) (Or.inr (by decide))).trans pf2
  have pf3 := (yz159539.1 _ 0 (Or.inr (by decide)) (Or.inr (by decide)) (Or.inr (by decide)) (Or.inr (by decide)) (Or.inr (by decide)) (Or.inr (by decide)) (Or.inr (by decide)) (Or.inr (by decide))).trans pf3
  have pf4 := (yz159539.1 _ 10 (Or.inr (by decide)) (Or.inr (by decide)) (Or.inr (by decide)) (Or.inr (by decide)) (Or.inr (by decide)) (Or.inr (by decide)) (Or.inr (by decide)) (Or.inr (by decide))).trans pf4
  have pf5 := (yz159539.1 _ 11 (Or.inr (by decide)) (Or.inr (by decide)) (Or.inr (by decide)) (Or.inr (by decide)) (Or.inr (by decide)) (Or.inr (by decide)) (Or.inr (by decide)) (Or.inr (by decide))).trans pf5
  have v159530 := (yz159539.1 _ 0 (Or.inr (by decide)) (Or.inr (by decide)) (Or.inr (by decide)) (Or.inr (by decide)) (Or.inr (by decide)) (Or.inr (by decide)) (Or.inr (by decide)) (Or.inr (by decide))).trans v159530
  have v159534 := (yz159539.1 _ 4 (Or.inr (by decide)) (Or.inr (by decide)) (Or.inl (by rw [gx1]; decide)) (Or.inr (by decide)) (Or.inr (by decide)) (Or.inr (by decide)) (Or.inr (by decide)) (Or.inl (by rw [gx1]; decide))).trans v159534
  have v159538 := (yz159539.1 _ 5 (Or.inr (by decide)) (Or.inr (by decide)) (Or.inr (by decide)) (Or.inl (by rw [gx1]; decide)) (Or.inr (by decide)) (Or.inr (by decide)) (Or.inr (by decide)) (Or.inr (by decide))).trans v159538
  have hfr : (∀ b j : Nat, (tag b ≠ 18 ∨ j ≠ 4) → (tag b ≠ 18 ∨ j ≠ 5) → (tag b ≠ 18 ∨ j ≠ 6) → (tag b ≠ 19 ∨ j ≠ 0) → (tag b ≠ 24 ∨ j ≠ 2) → (tag b ≠ 24 ∨ j ≠ 3) → (tag b ≠ 24 ∨ j ≠ 4) → (tag b ≠ 24 ∨ j ≠ 5) → (tag b ≠ 24 ∨ j ≠ 6) → (tag b ≠ 24 ∨ j ≠ 7) → (tag b ≠ 25 ∨ j ≠ 3) → (tag b ≠ 25 ∨ j ≠ 4) → (tag b ≠ 25 ∨ j ≠ 6) → fld F b j = fld Fo b j) ∧ EF tag F Fo := ⟨fun b j n18_4 n18_5 n18_6 n19_0 n24_2 n24_3 n24_4 n24_5 n24_6 n24_7 n25_3 n25_4 n25_6 => (yz159539.1 b j n24_2 n24_3 n24_4 n24_5 n24_6 n24_7 n25_3 n25_4).trans (hfr.1 b j n18_4 n18_5 n18_6 n19_0 n24_2 n24_3 n24_4 n24_5 n24_6 n24_7 n25_3 n25_4 n25_6), fun b j hb => (yz159539.2 b j hb).trans (hfr.2 b j hb)⟩
  refine lv_aload_n hx hb dX3_readYears_61 rfl (lv_at hl 0 rfl) ?_
  refine t_get (C := RX3) (T := TX3) (N := 13) X hT m0 g0 rfl rfl 1 (by decide) qw_161 inlX3 rfl dX3_readYears_62 (fun v159540 hv159540 ov159540 => ?_)
  obtain rfl : v159540 = .ref x1 := hv159540.symm.trans pf1
  refine lv_aload_n hx hb dX3_readYears_65 rfl (lv_at hl 0 rfl) ?_
  refine lv_iconst (v := 0) hx hb dX3_readYears_66 (by decide) ?_
  refine lv_bipush (v := 9) hx hb dX3_readYears_67 (by decide) ?_
  refine t_cVi (n := 2) (C := RX3) (T := TX3) (N := 13) (As := [.int 0, .int 9]) (rest := [.ref x1]) X hT (kt451_X3_whole l G tag L F hT.2.2.2 p0 0 9 x0 x1 x2 x3 x4 x5 m0 g0 (by decide) (by decide) mx0 gx0 pf0 mx1 gx1 pf1 mx2 gx2 pf2 mx3 gx3 pf3 mx4 gx4 pf4 mx5 gx5 pf5) m0 g0 rfl rfl qw_318 qw_319 qw_320 qw_28 qw_321 ⟨rfl, by decide +kernel, by decide +kernel, by decide +kernel⟩ ⟨Nat.le_of_ble_eq_true rfl, Nat.le_of_ble_eq_true rfl⟩ hl rfl rfl (Nat.le_of_ble_eq_true rfl) dX3_readYears_69 ⟨Nat.le_of_ble_eq_true rfl, Nat.le_of_ble_eq_true rfl⟩ (fun z159541 F H locs hT hz159541 => ?_)
  obtain ⟨hz159541, yz159541⟩ := hz159541
  have pf0 := (yz159541.1 _ 0 (Or.inr (by decide)) (Or.inr (by decide)) (Or.inr (by decide)) (Or.inr (by decide)) (Or.inr (by decide)) (Or.inr (by decide)) (Or.inr (by decide)) (Or.inr (by decide))).trans pf0
  have pf1 := (yz159541.1 _ 1 (Or.inr (by decide)) (Or.inr (by decide)) (Or.inr (by decide)) (Or.inr (by decide)) (Or.inr (by decide)) (Or.inr (by decide)) (Or.inr (by decide)) (Or.inr (by decide))).trans pf1
  have pf2 := (yz159541.1 _ 2 (Or.inl (by rw [g0]; decide)) (Or.inr (by decide)) (Or.inr (by decide)) (Or.inr (by decide)) (Or.inr (by decide)) (Or.inr (by decide)) (Or.inr (by decide)) (Or.inr (by decide))).trans pf2
  have pf3 := (yz159541.1 _ 0 (Or.inr (by decide)) (Or.inr (by decide)) (Or.inr (by decide)) (Or.inr (by decide)) (Or.inr (by decide)) (Or.inr (by decide)) (Or.inr (by decide)) (Or.inr (by decide))).trans pf3
  have pf4 := (yz159541.1 _ 10 (Or.inr (by decide)) (Or.inr (by decide)) (Or.inr (by decide)) (Or.inr (by decide)) (Or.inr (by decide)) (Or.inr (by decide)) (Or.inr (by decide)) (Or.inr (by decide))).trans pf4
  have pf5 := (yz159541.1 _ 11 (Or.inr (by decide)) (Or.inr (by decide)) (Or.inr (by decide)) (Or.inr (by decide)) (Or.inr (by decide)) (Or.inr (by decide)) (Or.inr (by decide)) (Or.inr (by decide))).trans pf5
  have v159530 := (yz159541.1 _ 0 (Or.inr (by decide)) (Or.inr (by decide)) (Or.inr (by decide)) (Or.inr (by decide)) (Or.inr (by decide)) (Or.inr (by decide)) (Or.inr (by decide)) (Or.inr (by decide))).trans v159530
  have v159534 := (yz159541.1 _ 4 (Or.inr (by decide)) (Or.inr (by decide)) (Or.inl (by rw [gx1]; decide)) (Or.inr (by decide)) (Or.inr (by decide)) (Or.inr (by decide)) (Or.inr (by decide)) (Or.inl (by rw [gx1]; decide))).trans v159534
  have v159538 := (yz159541.1 _ 5 (Or.inr (by decide)) (Or.inr (by decide)) (Or.inr (by decide)) (Or.inl (by rw [gx1]; decide)) (Or.inr (by decide)) (Or.inr (by decide)) (Or.inr (by decide)) (Or.inr (by decide))).trans v159538
  have hfr : (∀ b j : Nat, (tag b ≠ 18 ∨ j ≠ 4) → (tag b ≠ 18 ∨ j ≠ 5) → (tag b ≠ 18 ∨ j ≠ 6) → (tag b ≠ 19 ∨ j ≠ 0) → (tag b ≠ 24 ∨ j ≠ 2) → (tag b ≠ 24 ∨ j ≠ 3) → (tag b ≠ 24 ∨ j ≠ 4) → (tag b ≠ 24 ∨ j ≠ 5) → (tag b ≠ 24 ∨ j ≠ 6) → (tag b ≠ 24 ∨ j ≠ 7) → (tag b ≠ 25 ∨ j ≠ 3) → (tag b ≠ 25 ∨ j ≠ 4) → (tag b ≠ 25 ∨ j ≠ 6) → fld F b j = fld Fo b j) ∧ EF tag F Fo := ⟨fun b j n18_4 n18_5 n18_6 n19_0 n24_2 n24_3 n24_4 n24_5 n24_6 n24_7 n25_3 n25_4 n25_6 => (yz159541.1 b j n24_2 n24_3 n24_4 n24_5 n24_6 n24_7 n25_3 n25_4).trans (hfr.1 b j n18_4 n18_5 n18_6 n19_0 n24_2 n24_3 n24_4 n24_5 n24_6 n24_7 n25_3 n25_4 n25_6), fun b j hb => (yz159541.2 b j hb).trans (hfr.2 b j hb)⟩
  refine t_put (C := RX1) (T := TX1) (N := 20) (v := .int z159541) X hT mx1 gx1 rfl tyX1 tyX1_ok nmX1 rfl 6 (by decide) qw_334 inlX1 rfl (by first | rfl | decide) (by first | rfl | decide) rfl (⟨_, rfl, (show (-2147483648) ≤ (z159541 : Int32).toInt from (by omega)), (show (z159541 : Int32).toInt ≤ 2147483647 from (by omega))⟩) dX3_readYears_72 (fun F H locs hT v159542 h1v159542 h2v159542 => ?_)
  have pf0 := (h1v159542 _ _ (Or.inr (by decide))).trans pf0
  have pf1 := (h1v159542 _ _ (Or.inr (by decide))).trans pf1
  have pf2 := (h1v159542 _ _ (Or.inr (by decide))).trans pf2
  have pf3 := (h1v159542 _ _ (Or.inr (by decide))).trans pf3
  have pf4 := (h1v159542 _ _ (Or.inr (by decide))).trans pf4
  have pf5 := (h1v159542 _ _ (Or.inr (by decide))).trans pf5
  have v159530 := (h1v159542 _ _ (Or.inr (by decide))).trans v159530
  have v159534 := (h1v159542 _ _ (Or.inr (by decide))).trans v159534
  have v159538 := (h1v159542 _ _ (Or.inr (by decide))).trans v159538
  have hfr : (∀ b j : Nat, (tag b ≠ 18 ∨ j ≠ 4) → (tag b ≠ 18 ∨ j ≠ 5) → (tag b ≠ 18 ∨ j ≠ 6) → (tag b ≠ 19 ∨ j ≠ 0) → (tag b ≠ 24 ∨ j ≠ 2) → (tag b ≠ 24 ∨ j ≠ 3) → (tag b ≠ 24 ∨ j ≠ 4) → (tag b ≠ 24 ∨ j ≠ 5) → (tag b ≠ 24 ∨ j ≠ 6) → (tag b ≠ 24 ∨ j ≠ 7) → (tag b ≠ 25 ∨ j ≠ 3) → (tag b ≠ 25 ∨ j ≠ 4) → (tag b ≠ 25 ∨ j ≠ 6) → fld F b j = fld Fo b j) ∧ EF tag F Fo := ⟨fun b j n18_4 n18_5 n18_6 n19_0 n24_2 n24_3 n24_4 n24_5 n24_6 n24_7 n25_3 n25_4 n25_6 => (h1v159542 b j (fr_ne gx1 n18_6)).trans (hfr.1 b j n18_4 n18_5 n18_6 n19_0 n24_2 n24_3 n24_4 n24_5 n24_6 n24_7 n25_3 n25_4 n25_6), fun b j hb => (h2v159542 b j).trans (hfr.2 b j hb)⟩
  refine lv_aload_n hx hb dX3_readYears_75 rfl (lv_at hl 0 rfl) ?_
  refine lv_iconst (v := 1) hx hb dX3_readYears_76 (by decide) ?_
  refine t_put (C := RX3) (T := TX3) (N := 13) (v := .int 1) X hT m0 g0 rfl tyX3 tyX3_ok nmX3 rfl 6 (by decide) qw_166 inlX3 rfl (by first | rfl | decide) (by first | rfl | decide) rfl (⟨_, rfl, (show 0 ≤ (1 : Int32).toInt from (by decide)), (show (1 : Int32).toInt ≤ 1 from (by decide))⟩) dX3_readYears_77 (fun F H locs hT v159543 h1v159543 h2v159543 => ?_)
  have pf0 := (h1v159543 _ _ (Or.inr (by decide))).trans pf0
  have pf1 := (h1v159543 _ _ (Or.inr (by decide))).trans pf1
  have pf2 := (h1v159543 _ _ (Or.inr (by decide))).trans pf2
  have pf3 := (h1v159543 _ _ (Or.inr (by decide))).trans pf3
  have pf4 := (h1v159543 _ _ (Or.inr (by decide))).trans pf4
  have pf5 := (h1v159543 _ _ (Or.inr (by decide))).trans pf5
  have v159530 := (h1v159543 _ _ (Or.inr (by decide))).trans v159530
  have v159534 := (h1v159543 _ _ (Or.inr (by decide))).trans v159534
  have v159538 := (h1v159543 _ _ (Or.inr (by decide))).trans v159538
  have v159542 := (h1v159543 _ _ (Or.inl (tne gx1 g0 (by decide)))).trans v159542
  have hfr : (∀ b j : Nat, (tag b ≠ 18 ∨ j ≠ 4) → (tag b ≠ 18 ∨ j ≠ 5) → (tag b ≠ 18 ∨ j ≠ 6) → (tag b ≠ 19 ∨ j ≠ 0) → (tag b ≠ 24 ∨ j ≠ 2) → (tag b ≠ 24 ∨ j ≠ 3) → (tag b ≠ 24 ∨ j ≠ 4) → (tag b ≠ 24 ∨ j ≠ 5) → (tag b ≠ 24 ∨ j ≠ 6) → (tag b ≠ 24 ∨ j ≠ 7) → (tag b ≠ 25 ∨ j ≠ 3) → (tag b ≠ 25 ∨ j ≠ 4) → (tag b ≠ 25 ∨ j ≠ 6) → fld F b j = fld Fo b j) ∧ EF tag F Fo := ⟨fun b j n18_4 n18_5 n18_6 n19_0 n24_2 n24_3 n24_4 n24_5 n24_6 n24_7 n25_3 n25_4 n25_6 => (h1v159543 b j (fr_ne g0 n25_6)).trans (hfr.1 b j n18_4 n18_5 n18_6 n19_0 n24_2 n24_3 n24_4 n24_5 n24_6 n24_7 n25_3 n25_4 n25_6), fun b j hb => (h2v159543 b j).trans (hfr.2 b j hb)⟩
  exact t_vret hQ X hT hfr (Nat.le_of_ble_eq_true rfl) (Nat.le_of_ble_eq_true rfl) dX3_readYears_80
