set_option maxHeartbeats 4000000 in
set_option maxRecDepth 100000 in
theorem kt146_X3_readYearOfWall (l : Launch) (G : KG) (tag : Nat → Nat) (L : List Nat) (Fo : Nat → va_E) (ho : okT G ttC tag L Fo) (p0 : Nat) (p1 : Nat) (x0 : Nat) (x1 : Nat) (x2 : Nat) (x3 : Nat) (x4 : Nat) (x5 : Nat) (m0 : p0 ∈ L) (g0 : tag p0 = 25) (m1 : p1 ∈ L) (g1 : tag p1 = 7) (mx0 : x0 ∈ L) (gx0 : tag x0 = 24) (pf0 : fld Fo p0 0 = .ref x0) (mx1 : x1 ∈ L) (gx1 : tag x1 = 18) (pf1 : fld Fo p0 1 = .ref x1) (mx2 : x2 ∈ L) (gx2 : tag x2 = 19) (pf2 : fld Fo p0 2 = .ref x2) (mx3 : x3 ∈ L) (gx3 : tag x3 = 1) (pf3 : fld Fo x0 0 = .ref x3) (mx4 : x4 ∈ L) (gx4 : tag x4 = 14) (pf4 : fld Fo p0 10 = .ref x4) (mx5 : x5 ∈ L) (gx5 : tag x5 = 15) (pf5 : fld Fo p0 11 = .ref x5) (hrel : NSR Fo x4 x5) : TMv l yX3_readYearOfWall cX3_readYearOfWall 3 { frames := 7, cells := 0, slots := 0, locals := 150 } G ttC tag L Fo [.ref p0, .ref p1] (fun F1 => ((∀ b j : Nat, (tag b ≠ 24 ∨ j ≠ 2) → (tag b ≠ 24 ∨ j ≠ 3) → (tag b ≠ 24 ∨ j ≠ 4) → (tag b ≠ 24 ∨ j ≠ 5) → (tag b ≠ 24 ∨ j ≠ 6) → (tag b ≠ 24 ∨ j ≠ 7) → (tag b ≠ 25 ∨ j ≠ 3) → (tag b ≠ 25 ∨ j ≠ 4) → fld F1 b j = fld Fo b j) ∧ EF tag F1 Fo) ∧ (NSR F1 x4 x5)) := by
  refine t_bodyv (y := yX3_readYearOfWall) (cd := cX3_readYearOfWall) (mL := 3) (rm := { frames := 7, cells := 0, slots := 0, locals := 150 }) (av := [.ref p0, .ref p1]) (by decide) (Nat.le_of_ble_eq_true rfl) ho ?_
  intro p e s m args below meth c ls A Q hQ X hT hl
  have hx := X.1.1
  have hb := X.1.2.1
  have hl : lv_has ls 3 [(0, .ref p0), (1, .ref p1)] := hl
  obtain ⟨F, hFo⟩ : ∃ F : Nat → va_E, F = Fo := ⟨_, rfl⟩
  rw [← hFo] at hT pf0 pf1 pf2 pf3 pf4 pf5 hrel
  have hfr : (∀ b j : Nat, (tag b ≠ 24 ∨ j ≠ 2) → (tag b ≠ 24 ∨ j ≠ 3) → (tag b ≠ 24 ∨ j ≠ 4) → (tag b ≠ 24 ∨ j ≠ 5) → (tag b ≠ 24 ∨ j ≠ 6) → (tag b ≠ 24 ∨ j ≠ 7) → (tag b ≠ 25 ∨ j ≠ 3) → (tag b ≠ 25 ∨ j ≠ 4) → fld F b j = fld Fo b j) ∧ EF tag F Fo := by
    rw [hFo]
    exact ⟨by intros; rfl, fun _ _ _ => rfl⟩
  have K26 : ∀ (z59924 : Int32) (F : Nat → va_E) (H : Heap) (locs : List Loc) (ls : Array Slot), (0 ≤ z59924.toInt ∧ z59924.toInt ≤ 5) → TH G ttC A s tag L F H locs → ((∀ b j : Nat, (tag b ≠ 24 ∨ j ≠ 2) → (tag b ≠ 24 ∨ j ≠ 3) → (tag b ≠ 24 ∨ j ≠ 4) → (tag b ≠ 24 ∨ j ≠ 5) → (tag b ≠ 24 ∨ j ≠ 6) → (tag b ≠ 24 ∨ j ≠ 7) → (tag b ≠ 25 ∨ j ≠ 3) → (tag b ≠ 25 ∨ j ≠ 4) → fld F b j = fld Fo b j) ∧ EF tag F Fo) → NSR F x4 x5 → fld F p0 0 = .ref x0 → fld F p0 1 = .ref x1 → fld F p0 2 = .ref x2 → fld F x0 0 = .ref x3 → fld F p0 10 = .ref x4 → fld F p0 11 = .ref x5 → lv_has ls 3 [(0, .ref p0), (1, .ref p1), (2, .int z59924)] → W p l e { frames := 7, cells := 0, slots := 0, locals := 150 } s m args below meth c H locs 0 0 Q (F0 m 26 ls []) := by
    intro z59924 F H locs ls rz59924 hT hfr hrel pf0 pf1 pf2 pf3 pf4 pf5 hl
    refine lv_aload_n hx hb dX3_readYearOfWall_26 rfl (lv_at hl 1 rfl) ?_
    refine lv_iload_n hx hb dX3_readYearOfWall_27 rfl (lv_at hl 2 rfl) ?_
    refine lv_aload_n hx hb dX3_readYearOfWall_28 rfl (lv_at hl 0 rfl) ?_
    refine lv_iconst (v := 0) hx hb dX3_readYearOfWall_29 (by decide) ?_
    refine lv_sipush (v := 999) hx hb dX3_readYearOfWall_30 (by decide) ?_
    refine t_cVi (n := 2) (C := RX3) (T := TX3) (N := 13) (As := [.int 0, .int 999]) (rest := [.int z59924, .ref p1]) X hT (kt120_X3_whole l G tag L F hT.2.2.2 p0 0 999 x0 x1 x2 x3 x4 x5 m0 g0 (by decide) (by decide) mx0 gx0 pf0 mx1 gx1 pf1 mx2 gx2 pf2 mx3 gx3 pf3 mx4 gx4 pf4 mx5 gx5 pf5) m0 g0 rfl rfl qw_318 qw_319 qw_320 qw_28 qw_321 ⟨rfl, by decide +kernel, by decide +kernel, by decide +kernel⟩ ⟨Nat.le_of_ble_eq_true rfl, Nat.le_of_ble_eq_true rfl⟩ hl rfl rfl (Nat.le_of_ble_eq_true rfl) dX3_readYearOfWall_33 ⟨Nat.le_of_ble_eq_true rfl, Nat.le_of_ble_eq_true rfl⟩ (fun z59925 F H locs hT hz59925 => ?_)
    obtain ⟨hz59925, yz59925⟩ := hz59925
    have pf0 := (yz59925.1 _ 0 (Or.inr (by decide)) (Or.inr (by decide)) (Or.inr (by decide)) (Or.inr (by decide)) (Or.inr (by decide)) (Or.inr (by decide)) (Or.inr (by decide)) (Or.inr (by decide))).trans pf0
    have pf1 := (yz59925.1 _ 1 (Or.inr (by decide)) (Or.inr (by decide)) (Or.inr (by decide)) (Or.inr (by decide)) (Or.inr (by decide)) (Or.inr (by decide)) (Or.inr (by decide)) (Or.inr (by decide))).trans pf1
    have pf2 := (yz59925.1 _ 2 (Or.inl (by rw [g0]; decide)) (Or.inr (by decide)) (Or.inr (by decide)) (Or.inr (by decide)) (Or.inr (by decide)) (Or.inr (by decide)) (Or.inr (by decide)) (Or.inr (by decide))).trans pf2
    have pf3 := (yz59925.1 _ 0 (Or.inr (by decide)) (Or.inr (by decide)) (Or.inr (by decide)) (Or.inr (by decide)) (Or.inr (by decide)) (Or.inr (by decide)) (Or.inr (by decide)) (Or.inr (by decide))).trans pf3
    have pf4 := (yz59925.1 _ 10 (Or.inr (by decide)) (Or.inr (by decide)) (Or.inr (by decide)) (Or.inr (by decide)) (Or.inr (by decide)) (Or.inr (by decide)) (Or.inr (by decide)) (Or.inr (by decide))).trans pf4
    have pf5 := (yz59925.1 _ 11 (Or.inr (by decide)) (Or.inr (by decide)) (Or.inr (by decide)) (Or.inr (by decide)) (Or.inr (by decide)) (Or.inr (by decide)) (Or.inr (by decide)) (Or.inr (by decide))).trans pf5
    have hfr : (∀ b j : Nat, (tag b ≠ 24 ∨ j ≠ 2) → (tag b ≠ 24 ∨ j ≠ 3) → (tag b ≠ 24 ∨ j ≠ 4) → (tag b ≠ 24 ∨ j ≠ 5) → (tag b ≠ 24 ∨ j ≠ 6) → (tag b ≠ 24 ∨ j ≠ 7) → (tag b ≠ 25 ∨ j ≠ 3) → (tag b ≠ 25 ∨ j ≠ 4) → fld F b j = fld Fo b j) ∧ EF tag F Fo := ⟨fun b j n24_2 n24_3 n24_4 n24_5 n24_6 n24_7 n25_3 n25_4 => (yz59925.1 b j n24_2 n24_3 n24_4 n24_5 n24_6 n24_7 n25_3 n25_4).trans (hfr.1 b j n24_2 n24_3 n24_4 n24_5 n24_6 n24_7 n25_3 n25_4), fun b j hb => (yz59925.2 b j hb).trans (hfr.2 b j hb)⟩
    have hrel := nsr_of (fun j => yz59925.2 _ j (Or.inl gx4)) (fun j => yz59925.2 _ j (Or.inr gx5)) hrel
    refine t_ist X hT m1 g1 rfl (by omega) (show (-2147483648) ≤ (z59925 : Int32).toInt ∧ (z59925 : Int32).toInt ≤ 2147483647 from (by omega)) dX3_readYearOfWall_36 (fun F H locs hT v59926 h1v59926 h2v59926 => ?_)
    have pf0 := (h2v59926 _ _).trans pf0
    have pf1 := (h2v59926 _ _).trans pf1
    have pf2 := (h2v59926 _ _).trans pf2
    have pf3 := (h2v59926 _ _).trans pf3
    have pf4 := (h2v59926 _ _).trans pf4
    have pf5 := (h2v59926 _ _).trans pf5
    have hfr : (∀ b j : Nat, (tag b ≠ 24 ∨ j ≠ 2) → (tag b ≠ 24 ∨ j ≠ 3) → (tag b ≠ 24 ∨ j ≠ 4) → (tag b ≠ 24 ∨ j ≠ 5) → (tag b ≠ 24 ∨ j ≠ 6) → (tag b ≠ 24 ∨ j ≠ 7) → (tag b ≠ 25 ∨ j ≠ 3) → (tag b ≠ 25 ∨ j ≠ 4) → fld F b j = fld Fo b j) ∧ EF tag F Fo := ⟨fun b j n24_2 n24_3 n24_4 n24_5 n24_6 n24_7 n25_3 n25_4 => (h2v59926 b j).trans (hfr.1 b j n24_2 n24_3 n24_4 n24_5 n24_6 n24_7 n25_3 n25_4), fun b j hb => (h1v59926 b j (Or.inl (ns_ne hb g1 (by decide)))).trans (hfr.2 b j hb)⟩
    have hrel := nsr_of (fun j => h1v59926 _ j (Or.inl (tne gx4 g1 (by decide)))) (fun j => h1v59926 _ j (Or.inl (tne gx5 g1 (by decide)))) hrel
    exact t_vret hQ X hT ⟨hfr, hrel⟩ (Nat.le_of_ble_eq_true rfl) (Nat.le_of_ble_eq_true rfl) dX3_readYearOfWall_37
  refine lv_aload_n hx hb dX3_readYearOfWall_0 rfl (lv_at hl 0 rfl) ?_
  refine lv_bipush (v := 7) hx hb dX3_readYearOfWall_1 (by decide) ?_
  refine t_cVi (n := 1) (C := RX3) (T := TX3) (N := 13) (As := [.int 7]) (rest := []) X hT (kt144_X3_name l G tag L F hT.2.2.2 p0 7 x0 x1 x2 x3 x4 x5 m0 g0 (by decide) mx0 gx0 pf0 mx1 gx1 pf1 mx2 gx2 pf2 mx3 gx3 pf3 mx4 gx4 pf4 mx5 gx5 pf5 hrel) m0 g0 rfl rfl qw_393 qw_394 qw_395 qw_28 qw_396 ⟨rfl, by decide +kernel, by decide +kernel, by decide +kernel⟩ ⟨Nat.le_of_ble_eq_true rfl, Nat.le_of_ble_eq_true rfl⟩ hl rfl rfl (Nat.le_of_ble_eq_true rfl) dX3_readYearOfWall_3 ⟨Nat.le_of_ble_eq_true rfl, Nat.le_of_ble_eq_true rfl⟩ (fun z59927 F H locs hT hz59927 => ?_)
  obtain ⟨hz59927, yz59927, hrel⟩ := hz59927
  have pf0 := (yz59927.1 _ 0 (Or.inr (by decide)) (Or.inr (by decide)) (Or.inr (by decide)) (Or.inr (by decide)) (Or.inr (by decide)) (Or.inr (by decide)) (Or.inr (by decide)) (Or.inr (by decide))).trans pf0
  have pf1 := (yz59927.1 _ 1 (Or.inr (by decide)) (Or.inr (by decide)) (Or.inr (by decide)) (Or.inr (by decide)) (Or.inr (by decide)) (Or.inr (by decide)) (Or.inr (by decide)) (Or.inr (by decide))).trans pf1
  have pf2 := (yz59927.1 _ 2 (Or.inl (by rw [g0]; decide)) (Or.inr (by decide)) (Or.inr (by decide)) (Or.inr (by decide)) (Or.inr (by decide)) (Or.inr (by decide)) (Or.inr (by decide)) (Or.inr (by decide))).trans pf2
  have pf3 := (yz59927.1 _ 0 (Or.inr (by decide)) (Or.inr (by decide)) (Or.inr (by decide)) (Or.inr (by decide)) (Or.inr (by decide)) (Or.inr (by decide)) (Or.inr (by decide)) (Or.inr (by decide))).trans pf3
  have pf4 := (yz59927.1 _ 10 (Or.inr (by decide)) (Or.inr (by decide)) (Or.inr (by decide)) (Or.inr (by decide)) (Or.inr (by decide)) (Or.inr (by decide)) (Or.inr (by decide)) (Or.inr (by decide))).trans pf4
  have pf5 := (yz59927.1 _ 11 (Or.inr (by decide)) (Or.inr (by decide)) (Or.inr (by decide)) (Or.inr (by decide)) (Or.inr (by decide)) (Or.inr (by decide)) (Or.inr (by decide)) (Or.inr (by decide))).trans pf5
  have hfr : (∀ b j : Nat, (tag b ≠ 24 ∨ j ≠ 2) → (tag b ≠ 24 ∨ j ≠ 3) → (tag b ≠ 24 ∨ j ≠ 4) → (tag b ≠ 24 ∨ j ≠ 5) → (tag b ≠ 24 ∨ j ≠ 6) → (tag b ≠ 24 ∨ j ≠ 7) → (tag b ≠ 25 ∨ j ≠ 3) → (tag b ≠ 25 ∨ j ≠ 4) → fld F b j = fld Fo b j) ∧ EF tag F Fo := ⟨fun b j n24_2 n24_3 n24_4 n24_5 n24_6 n24_7 n25_3 n25_4 => (yz59927.1 b j n24_2 n24_3 n24_4 n24_5 n24_6 n24_7 n25_3 n25_4).trans (hfr.1 b j n24_2 n24_3 n24_4 n24_5 n24_6 n24_7 n25_3 n25_4), fun b j hb => (yz59927.2 b j hb).trans (hfr.2 b j hb)⟩
  refine lv_istore_n (lv' := [(2, .int z59927), (0, .ref p0), (1, .ref p1)]) hx hb dX3_readYearOfWall_6 rfl hl (by decide) rfl (fun ls hl => ?_)
  refine lv_aload_n hx hb dX3_readYearOfWall_7 rfl (lv_at hl 2 rfl) ?_
  refine lv_iload_n hx hb dX3_readYearOfWall_8 rfl (lv_at hl 0 rfl) ?_
  refine t_ild X hT m1 g1 rfl (by omega) dX3_readYearOfWall_9 (fun z59928 vz59928 rz59928 => ?_)
  have rz59928 : (-2147483648) ≤ z59928.toInt ∧ z59928.toInt ≤ 2147483647 := rz59928
  refine lv_iconst (v := (-1)) hx hb dX3_readYearOfWall_10 (by decide) ?_
  refine lv_icmp_eq (tgt := 26) hx hb dX3_readYearOfWall_11 (by decide) (fun c59929 => ?_) (fun c59929 => ?_)
  · have w59930 := cv_eq (rfl : z59928.toInt = z59928.toInt) (by decide : ((-1) : Int32).toInt = (-1)) c59929
    exact K26 z59927 _ _ _ _ (by omega) hT hfr hrel pf0 pf1 pf2 pf3 pf4 pf5 (lv_sub hl [1, 2, 0] rfl)
  · have w59931 := cv_ne (rfl : z59928.toInt = z59928.toInt) (by decide : ((-1) : Int32).toInt = (-1)) c59929
    refine lv_aload_n hx hb dX3_readYearOfWall_14 rfl (lv_at hl 1 rfl) ?_
    refine lv_iconst (v := 3) hx hb dX3_readYearOfWall_15 (by decide) ?_
    refine lv_aload_n hx hb dX3_readYearOfWall_16 rfl (lv_at hl 1 rfl) ?_
    refine t_get (C := RX3) (T := TX3) (N := 13) X hT m0 g0 rfl rfl 0 (by decide) qw_73 inlX3 rfl dX3_readYearOfWall_17 (fun v59932 hv59932 ov59932 => ?_)
    obtain rfl : v59932 = .ref x0 := hv59932.symm.trans pf0
    refine t_get (C := RX8) (T := TX8) (N := 8) X hT mx0 gx0 rfl rfl 5 (by decide) qw_339 inlX8 rfl dX3_readYearOfWall_20 (fun v59933 hv59933 ov59933 => ?_)
    obtain ⟨z59934, rfl, rz59934⟩ := okV_i ov59933
    refine t_cVv (n := 2) (C := RX3) (T := TX3) (N := 13) (As := [.int 3, .int z59934]) (rest := []) X hT (kt111_X3_fail l G tag L F hT.2.2.2 p0 3 z59934 m0 g0 (by decide)) m0 g0 rfl rfl qw_287 qw_288 qw_289 qw_28 qw_290 ⟨rfl, by decide +kernel, by decide +kernel, by decide +kernel⟩ ⟨Nat.le_of_ble_eq_true rfl, Nat.le_of_ble_eq_true rfl⟩ hl rfl rfl (Nat.le_of_ble_eq_true rfl) dX3_readYearOfWall_23 ⟨Nat.le_of_ble_eq_true rfl, Nat.le_of_ble_eq_true rfl⟩ (fun F H locs hT hz59935 => ?_)
    obtain ⟨yz59935, xz59935_0⟩ := hz59935
    have pf0 := (yz59935.1 _ 0 (Or.inr (by decide)) (Or.inr (by decide))).trans pf0
    have pf1 := (yz59935.1 _ 1 (Or.inr (by decide)) (Or.inr (by decide))).trans pf1
    have pf2 := (yz59935.1 _ 2 (Or.inr (by decide)) (Or.inr (by decide))).trans pf2
    have pf3 := (yz59935.1 _ 0 (Or.inr (by decide)) (Or.inr (by decide))).trans pf3
    have pf4 := (yz59935.1 _ 10 (Or.inr (by decide)) (Or.inr (by decide))).trans pf4
    have pf5 := (yz59935.1 _ 11 (Or.inr (by decide)) (Or.inr (by decide))).trans pf5
    have hv59933 := (yz59935.1 _ 5 (Or.inr (by decide)) (Or.inr (by decide))).trans hv59933
    have hfr : (∀ b j : Nat, (tag b ≠ 24 ∨ j ≠ 2) → (tag b ≠ 24 ∨ j ≠ 3) → (tag b ≠ 24 ∨ j ≠ 4) → (tag b ≠ 24 ∨ j ≠ 5) → (tag b ≠ 24 ∨ j ≠ 6) → (tag b ≠ 24 ∨ j ≠ 7) → (tag b ≠ 25 ∨ j ≠ 3) → (tag b ≠ 25 ∨ j ≠ 4) → fld F b j = fld Fo b j) ∧ EF tag F Fo := ⟨fun b j n24_2 n24_3 n24_4 n24_5 n24_6 n24_7 n25_3 n25_4 => (yz59935.1 b j n25_3 n25_4).trans (hfr.1 b j n24_2 n24_3 n24_4 n24_5 n24_6 n24_7 n25_3 n25_4), fun b j hb => (yz59935.2 b j hb).trans (hfr.2 b j hb)⟩
    have hrel := nsr_of (fun j => yz59935.2 _ j (Or.inl gx4)) (fun j => yz59935.2 _ j (Or.inr gx5)) hrel
    obtain ⟨z59936, qz59936, rz59936⟩ := xz59935_0
    exact K26 z59927 _ _ _ _ (by omega) hT hfr hrel pf0 pf1 pf2 pf3 pf4 pf5 (lv_sub hl [1, 2, 0] rfl)
set_option maxHeartbeats 4000000 in
set_option maxRecDepth 100000 in
theorem kt147_X3_readLine (l : Launch) (G : KG) (tag : Nat → Nat) (L : List Nat) (Fo : Nat → va_E) (ho : okT G ttC tag L Fo) (p0 : Nat) (x0 : Nat) (x1 : Nat) (x2 : Nat) (x3 : Nat) (x4 : Nat) (x5 : Nat) (m0 : p0 ∈ L) (g0 : tag p0 = 25) (mx0 : x0 ∈ L) (gx0 : tag x0 = 24) (pf0 : fld Fo p0 0 = .ref x0) (mx1 : x1 ∈ L) (gx1 : tag x1 = 18) (pf1 : fld Fo p0 1 = .ref x1) (mx2 : x2 ∈ L) (gx2 : tag x2 = 19) (pf2 : fld Fo p0 2 = .ref x2) (mx3 : x3 ∈ L) (gx3 : tag x3 = 1) (pf3 : fld Fo x0 0 = .ref x3) (mx4 : x4 ∈ L) (gx4 : tag x4 = 14) (pf4 : fld Fo p0 10 = .ref x4) (mx5 : x5 ∈ L) (gx5 : tag x5 = 15) (pf5 : fld Fo p0 11 = .ref x5) (hrel : NSR Fo x4 x5) : TMv l yX3_readLine cX3_readLine 2 { frames := 8, cells := 0, slots := 0, locals := 176 } G ttC tag L Fo [.ref p0] (fun F1 => (∀ b j : Nat, (tag b ≠ 18 ∨ j ≠ 0) → (tag b ≠ 18 ∨ j ≠ 1) → (tag b ≠ 18 ∨ j ≠ 2) → (tag b ≠ 18 ∨ j ≠ 3) → (tag b ≠ 18 ∨ j ≠ 4) → (tag b ≠ 18 ∨ j ≠ 5) → (tag b ≠ 18 ∨ j ≠ 6) → (tag b ≠ 18 ∨ j ≠ 8) → (tag b ≠ 18 ∨ j ≠ 10) → (tag b ≠ 18 ∨ j ≠ 14) → (tag b ≠ 18 ∨ j ≠ 16) → (tag b ≠ 19 ∨ j ≠ 0) → (tag b ≠ 24 ∨ j ≠ 2) → (tag b ≠ 24 ∨ j ≠ 3) → (tag b ≠ 24 ∨ j ≠ 4) → (tag b ≠ 24 ∨ j ≠ 5) → (tag b ≠ 24 ∨ j ≠ 6) → (tag b ≠ 24 ∨ j ≠ 7) → (tag b ≠ 25 ∨ j ≠ 3) → (tag b ≠ 25 ∨ j ≠ 4) → (tag b ≠ 25 ∨ j ≠ 5) → (tag b ≠ 25 ∨ j ≠ 6) → (tag b ≠ 25 ∨ j ≠ 7) → (tag b ≠ 25 ∨ j ≠ 8) → (tag b ≠ 25 ∨ j ≠ 12) → fld F1 b j = fld Fo b j) ∧ (NSR F1 x4 x5)) := by
  refine t_bodyv (y := yX3_readLine) (cd := cX3_readLine) (mL := 2) (rm := { frames := 8, cells := 0, slots := 0, locals := 176 }) (av := [.ref p0]) (by decide) (Nat.le_of_ble_eq_true rfl) ho ?_
  intro p e s m args below meth c ls A Q hQ X hT hl
  have hx := X.1.1
  have hb := X.1.2.1
  have hl : lv_has ls 2 [(0, .ref p0)] := hl
  obtain ⟨F, hFo⟩ : ∃ F : Nat → va_E, F = Fo := ⟨_, rfl⟩
  rw [← hFo] at hT pf0 pf1 pf2 pf3 pf4 pf5 hrel
  have hfr : ∀ b j : Nat, (tag b ≠ 18 ∨ j ≠ 0) → (tag b ≠ 18 ∨ j ≠ 1) → (tag b ≠ 18 ∨ j ≠ 2) → (tag b ≠ 18 ∨ j ≠ 3) → (tag b ≠ 18 ∨ j ≠ 4) → (tag b ≠ 18 ∨ j ≠ 5) → (tag b ≠ 18 ∨ j ≠ 6) → (tag b ≠ 18 ∨ j ≠ 8) → (tag b ≠ 18 ∨ j ≠ 10) → (tag b ≠ 18 ∨ j ≠ 14) → (tag b ≠ 18 ∨ j ≠ 16) → (tag b ≠ 19 ∨ j ≠ 0) → (tag b ≠ 24 ∨ j ≠ 2) → (tag b ≠ 24 ∨ j ≠ 3) → (tag b ≠ 24 ∨ j ≠ 4) → (tag b ≠ 24 ∨ j ≠ 5) → (tag b ≠ 24 ∨ j ≠ 6) → (tag b ≠ 24 ∨ j ≠ 7) → (tag b ≠ 25 ∨ j ≠ 3) → (tag b ≠ 25 ∨ j ≠ 4) → (tag b ≠ 25 ∨ j ≠ 5) → (tag b ≠ 25 ∨ j ≠ 6) → (tag b ≠ 25 ∨ j ≠ 7) → (tag b ≠ 25 ∨ j ≠ 8) → (tag b ≠ 25 ∨ j ≠ 12) → fld F b j = fld Fo b j := by
    rw [hFo]
    intros
    rfl
  refine lv_aload_n hx hb dX3_readLine_0 rfl (lv_at hl 0 rfl) ?_
  refine t_cVi (n := 0) (C := RX3) (T := TX3) (N := 13) (As := []) (rest := []) X hT (kt108_X3_lineSort l G tag L F hT.2.2.2 p0 x0 x1 x2 x3 x4 x5 m0 g0 mx0 gx0 pf0 mx1 gx1 pf1 mx2 gx2 pf2 mx3 gx3 pf3 mx4 gx4 pf4 mx5 gx5 pf5) m0 g0 rfl rfl qw_230 qw_231 qw_232 qw_28 qw_233 ⟨rfl, by decide +kernel, by decide +kernel, by decide +kernel⟩ ⟨Nat.le_of_ble_eq_true rfl, Nat.le_of_ble_eq_true rfl⟩ hl rfl rfl (Nat.le_of_ble_eq_true rfl) dX3_readLine_1 ⟨Nat.le_of_ble_eq_true rfl, Nat.le_of_ble_eq_true rfl⟩ (fun z60954 F9 H locs hT hz60954 => ?_)
  obtain ⟨fz60954, hz60954⟩ := hz60954
  rw [fz60954] at hT
  refine lv_istore_n (lv' := [(1, .int z60954), (0, .ref p0)]) hx hb dX3_readLine_4 rfl hl (by decide) rfl (fun ls hl => ?_)
  refine lv_iload_n hx hb dX3_readLine_5 rfl (lv_at hl 0 rfl) ?_
  refine lv_iconst (v := (-1)) hx hb dX3_readLine_6 (by decide) ?_
  refine lv_icmp_ne (tgt := 25) hx hb dX3_readLine_7 (by decide) (fun c60955 => ?_) (fun c60955 => ?_)
  · have w60956 := cv_ne (rfl : z60954.toInt = z60954.toInt) (by decide : ((-1) : Int32).toInt = (-1)) c60955
    by_cases c60957 : z60954 = 4
    · subst c60957
      refine lv_aload_n hx hb dX3_readLine_25 rfl (lv_at hl 1 rfl) ?_
      refine lv_iload_n hx hb dX3_readLine_26 rfl (lv_at hl 0 rfl) ?_
      refine t_cVv (n := 1) (C := RX3) (T := TX3) (N := 13) (As := [.int 4]) (rest := []) X hT (kt112_X3_checkLine l G tag L F hT.2.2.2 p0 4 x0 x1 x2 x3 x4 x5 m0 g0 (by decide) mx0 gx0 pf0 mx1 gx1 pf1 mx2 gx2 pf2 mx3 gx3 pf3 mx4 gx4 pf4 mx5 gx5 pf5) m0 g0 rfl rfl qw_291 qw_292 qw_293 qw_28 qw_294 ⟨rfl, by decide +kernel, by decide +kernel, by decide +kernel⟩ ⟨Nat.le_of_ble_eq_true rfl, Nat.le_of_ble_eq_true rfl⟩ hl rfl rfl (Nat.le_of_ble_eq_true rfl) dX3_readLine_27 ⟨Nat.le_of_ble_eq_true rfl, Nat.le_of_ble_eq_true rfl⟩ (fun F H locs hT hz60958 => ?_)
      obtain ⟨yz60958, xz60958_0⟩ := hz60958
      have pf0 := (yz60958.1 _ 0 (Or.inr (by decide)) (Or.inr (by decide))).trans pf0
      have pf1 := (yz60958.1 _ 1 (Or.inr (by decide)) (Or.inr (by decide))).trans pf1
      have pf2 := (yz60958.1 _ 2 (Or.inr (by decide)) (Or.inr (by decide))).trans pf2
      have pf3 := (yz60958.1 _ 0 (Or.inr (by decide)) (Or.inr (by decide))).trans pf3
      have pf4 := (yz60958.1 _ 10 (Or.inr (by decide)) (Or.inr (by decide))).trans pf4
      have pf5 := (yz60958.1 _ 11 (Or.inr (by decide)) (Or.inr (by decide))).trans pf5
      have hfr : ∀ b j : Nat, (tag b ≠ 18 ∨ j ≠ 0) → (tag b ≠ 18 ∨ j ≠ 1) → (tag b ≠ 18 ∨ j ≠ 2) → (tag b ≠ 18 ∨ j ≠ 3) → (tag b ≠ 18 ∨ j ≠ 4) → (tag b ≠ 18 ∨ j ≠ 5) → (tag b ≠ 18 ∨ j ≠ 6) → (tag b ≠ 18 ∨ j ≠ 8) → (tag b ≠ 18 ∨ j ≠ 10) → (tag b ≠ 18 ∨ j ≠ 14) → (tag b ≠ 18 ∨ j ≠ 16) → (tag b ≠ 19 ∨ j ≠ 0) → (tag b ≠ 24 ∨ j ≠ 2) → (tag b ≠ 24 ∨ j ≠ 3) → (tag b ≠ 24 ∨ j ≠ 4) → (tag b ≠ 24 ∨ j ≠ 5) → (tag b ≠ 24 ∨ j ≠ 6) → (tag b ≠ 24 ∨ j ≠ 7) → (tag b ≠ 25 ∨ j ≠ 3) → (tag b ≠ 25 ∨ j ≠ 4) → (tag b ≠ 25 ∨ j ≠ 5) → (tag b ≠ 25 ∨ j ≠ 6) → (tag b ≠ 25 ∨ j ≠ 7) → (tag b ≠ 25 ∨ j ≠ 8) → (tag b ≠ 25 ∨ j ≠ 12) → fld F b j = fld Fo b j := fun b j n18_0 n18_1 n18_2 n18_3 n18_4 n18_5 n18_6 n18_8 n18_10 n18_14 n18_16 n19_0 n24_2 n24_3 n24_4 n24_5 n24_6 n24_7 n25_3 n25_4 n25_5 n25_6 n25_7 n25_8 n25_12 => (yz60958.1 b j n25_3 n25_4).trans (hfr b j n18_0 n18_1 n18_2 n18_3 n18_4 n18_5 n18_6 n18_8 n18_10 n18_14 n18_16 n19_0 n24_2 n24_3 n24_4 n24_5 n24_6 n24_7 n25_3 n25_4 n25_5 n25_6 n25_7 n25_8 n25_12)
      have hrel := nsr_of (fun j => yz60958.2 _ j (Or.inl gx4)) (fun j => yz60958.2 _ j (Or.inr gx5)) hrel
      rcases xz60958_0 with xz60958_0 | xz60958_0
      · obtain ⟨z60959, qz60959, rz60959⟩ := xz60958_0
        refine lv_aload_n hx hb dX3_readLine_30 rfl (lv_at hl 1 rfl) ?_
        refine t_get (C := RX3) (T := TX3) (N := 13) X hT m0 g0 rfl rfl 3 (by decide) qw_163 inlX3 rfl dX3_readLine_31 (fun v60960 hv60960 ov60960 => ?_)
        obtain rfl : v60960 = .int z60959 := hv60960.symm.trans qz60959
        refine lv_if_eq (tgt := 38) hx hb dX3_readLine_34 (by decide) (fun c60961 => ?_) (fun c60961 => ?_)
        · have w60962 := cv_eq (rfl : z60959.toInt = z60959.toInt) (by decide : (0 : Int32).toInt = 0) c60961
          exfalso
          omega
        · have w60963 := cv_ne (rfl : z60959.toInt = z60959.toInt) (by decide : (0 : Int32).toInt = 0) c60961
          exact t_vret hQ X hT ⟨hfr, hrel⟩ (Nat.le_of_ble_eq_true rfl) (Nat.le_of_ble_eq_true rfl) dX3_readLine_37
      · obtain ⟨z60964, qz60964, rz60964⟩ := xz60958_0
        refine lv_aload_n hx hb dX3_readLine_30 rfl (lv_at hl 1 rfl) ?_
        refine t_get (C := RX3) (T := TX3) (N := 13) X hT m0 g0 rfl rfl 3 (by decide) qw_163 inlX3 rfl dX3_readLine_31 (fun v60965 hv60965 ov60965 => ?_)
        obtain ⟨z60966, rfl, rz60966⟩ := okV_i ov60965
        refine lv_if_eq (tgt := 38) hx hb dX3_readLine_34 (by decide) (fun c60967 => ?_) (fun c60967 => ?_)
        · have w60968 := cv_eq (rfl : z60966.toInt = z60966.toInt) (by decide : (0 : Int32).toInt = 0) c60967
          refine lv_aload_n hx hb dX3_readLine_38 rfl (lv_at hl 1 rfl) ?_
          refine t_get (C := RX3) (T := TX3) (N := 13) X hT m0 g0 rfl rfl 0 (by decide) qw_73 inlX3 rfl dX3_readLine_39 (fun v60969 hv60969 ov60969 => ?_)
          obtain rfl : v60969 = .ref x0 := hv60969.symm.trans pf0
          refine t_cVv (n := 0) (C := RX8) (T := TX8) (N := 8) (As := []) (rest := []) X hT (kt98_X8_advance l G tag L F hT.2.2.2 x0 x3 mx0 gx0 mx3 gx3 pf3) mx0 gx0 rfl rfl qw_305 qw_197 qw_198 qw_72 qw_199 ⟨rfl, by decide +kernel, by decide +kernel, by decide +kernel⟩ ⟨Nat.le_of_ble_eq_true rfl, Nat.le_of_ble_eq_true rfl⟩ hl rfl rfl (Nat.le_of_ble_eq_true rfl) dX3_readLine_42 ⟨Nat.le_of_ble_eq_true rfl, Nat.le_of_ble_eq_true rfl⟩ (fun F H locs hT hz60970 => ?_)
          have yz60970 := hz60970
          have pf0 := (yz60970.1 _ 0 (Or.inr (by decide)) (Or.inr (by decide)) (Or.inr (by decide)) (Or.inr (by decide)) (Or.inr (by decide)) (Or.inr (by decide))).trans pf0
          have pf1 := (yz60970.1 _ 1 (Or.inr (by decide)) (Or.inr (by decide)) (Or.inr (by decide)) (Or.inr (by decide)) (Or.inr (by decide)) (Or.inr (by decide))).trans pf1
          have pf2 := (yz60970.1 _ 2 (Or.inl (by rw [g0]; decide)) (Or.inr (by decide)) (Or.inr (by decide)) (Or.inr (by decide)) (Or.inr (by decide)) (Or.inr (by decide))).trans pf2
          have pf3 := (yz60970.1 _ 0 (Or.inr (by decide)) (Or.inr (by decide)) (Or.inr (by decide)) (Or.inr (by decide)) (Or.inr (by decide)) (Or.inr (by decide))).trans pf3
          have pf4 := (yz60970.1 _ 10 (Or.inr (by decide)) (Or.inr (by decide)) (Or.inr (by decide)) (Or.inr (by decide)) (Or.inr (by decide)) (Or.inr (by decide))).trans pf4
          have pf5 := (yz60970.1 _ 11 (Or.inr (by decide)) (Or.inr (by decide)) (Or.inr (by decide)) (Or.inr (by decide)) (Or.inr (by decide)) (Or.inr (by decide))).trans pf5
          have qz60964 := (yz60970.1 _ 10 (Or.inr (by decide)) (Or.inr (by decide)) (Or.inr (by decide)) (Or.inr (by decide)) (Or.inr (by decide)) (Or.inr (by decide))).trans qz60964
          have hv60965 := (yz60970.1 _ 3 (Or.inr (by decide)) (Or.inl (by rw [g0]; decide)) (Or.inr (by decide)) (Or.inr (by decide)) (Or.inr (by decide)) (Or.inr (by decide))).trans hv60965
          have hfr : ∀ b j : Nat, (tag b ≠ 18 ∨ j ≠ 0) → (tag b ≠ 18 ∨ j ≠ 1) → (tag b ≠ 18 ∨ j ≠ 2) → (tag b ≠ 18 ∨ j ≠ 3) → (tag b ≠ 18 ∨ j ≠ 4) → (tag b ≠ 18 ∨ j ≠ 5) → (tag b ≠ 18 ∨ j ≠ 6) → (tag b ≠ 18 ∨ j ≠ 8) → (tag b ≠ 18 ∨ j ≠ 10) → (tag b ≠ 18 ∨ j ≠ 14) → (tag b ≠ 18 ∨ j ≠ 16) → (tag b ≠ 19 ∨ j ≠ 0) → (tag b ≠ 24 ∨ j ≠ 2) → (tag b ≠ 24 ∨ j ≠ 3) → (tag b ≠ 24 ∨ j ≠ 4) → (tag b ≠ 24 ∨ j ≠ 5) → (tag b ≠ 24 ∨ j ≠ 6) → (tag b ≠ 24 ∨ j ≠ 7) → (tag b ≠ 25 ∨ j ≠ 3) → (tag b ≠ 25 ∨ j ≠ 4) → (tag b ≠ 25 ∨ j ≠ 5) → (tag b ≠ 25 ∨ j ≠ 6) → (tag b ≠ 25 ∨ j ≠ 7) → (tag b ≠ 25 ∨ j ≠ 8) → (tag b ≠ 25 ∨ j ≠ 12) → fld F b j = fld Fo b j := fun b j n18_0 n18_1 n18_2 n18_3 n18_4 n18_5 n18_6 n18_8 n18_10 n18_14 n18_16 n19_0 n24_2 n24_3 n24_4 n24_5 n24_6 n24_7 n25_3 n25_4 n25_5 n25_6 n25_7 n25_8 n25_12 => (yz60970.1 b j n24_2 n24_3 n24_4 n24_5 n24_6 n24_7).trans (hfr b j n18_0 n18_1 n18_2 n18_3 n18_4 n18_5 n18_6 n18_8 n18_10 n18_14 n18_16 n19_0 n24_2 n24_3 n24_4 n24_5 n24_6 n24_7 n25_3 n25_4 n25_5 n25_6 n25_7 n25_8 n25_12)
          have hrel := nsr_of (fun j => yz60970.2 _ j (Or.inl gx4)) (fun j => yz60970.2 _ j (Or.inr gx5)) hrel
          refine lv_iload_n hx hb dX3_readLine_45 rfl (lv_at hl 0 rfl) ?_
          refine lv_tableIn (off := 78) (tgt := 124) hx hb dX3_readLine_46 (by decide) (by decide) (by decide) (by decide) ?_
          refine lv_aload_n hx hb dX3_readLine_124 rfl (lv_at hl 1 rfl) ?_
          refine t_cVv (n := 0) (C := RX3) (T := TX3) (N := 13) (As := []) (rest := []) X hT (kt121_X3_readHouse l G tag L F hT.2.2.2 p0 x0 x1 x2 x3 x4 x5 z60964 m0 g0 mx0 gx0 pf0 mx1 gx1 pf1 mx2 gx2 pf2 mx3 gx3 pf3 mx4 gx4 pf4 mx5 gx5 pf5 (by omega) qz60964 hrel) m0 g0 rfl rfl qw_369 qw_370 qw_371 qw_28 qw_372 ⟨rfl, by decide +kernel, by decide +kernel, by decide +kernel⟩ ⟨Nat.le_of_ble_eq_true rfl, Nat.le_of_ble_eq_true rfl⟩ hl rfl rfl (Nat.le_of_ble_eq_true rfl) dX3_readLine_125 ⟨Nat.le_of_ble_eq_true rfl, Nat.le_of_ble_eq_true rfl⟩ (fun F H locs hT hz60971 => ?_)
          obtain ⟨yz60971, hrel⟩ := hz60971
          have pf0 := (yz60971 _ 0 (Or.inr (by decide)) (Or.inr (by decide)) (Or.inr (by decide)) (Or.inr (by decide)) (Or.inr (by decide)) (Or.inr (by decide)) (Or.inr (by decide)) (Or.inr (by decide)) (Or.inr (by decide)) (Or.inr (by decide))).trans pf0
          have pf1 := (yz60971 _ 1 (Or.inr (by decide)) (Or.inr (by decide)) (Or.inr (by decide)) (Or.inr (by decide)) (Or.inr (by decide)) (Or.inr (by decide)) (Or.inr (by decide)) (Or.inr (by decide)) (Or.inr (by decide)) (Or.inr (by decide))).trans pf1
          have pf2 := (yz60971 _ 2 (Or.inr (by decide)) (Or.inl (by rw [g0]; decide)) (Or.inr (by decide)) (Or.inr (by decide)) (Or.inr (by decide)) (Or.inr (by decide)) (Or.inr (by decide)) (Or.inr (by decide)) (Or.inr (by decide)) (Or.inr (by decide))).trans pf2
          have pf3 := (yz60971 _ 0 (Or.inr (by decide)) (Or.inr (by decide)) (Or.inr (by decide)) (Or.inr (by decide)) (Or.inr (by decide)) (Or.inr (by decide)) (Or.inr (by decide)) (Or.inr (by decide)) (Or.inr (by decide)) (Or.inr (by decide))).trans pf3
          have pf4 := (yz60971 _ 10 (Or.inl (by rw [g0]; decide)) (Or.inr (by decide)) (Or.inr (by decide)) (Or.inr (by decide)) (Or.inr (by decide)) (Or.inr (by decide)) (Or.inr (by decide)) (Or.inr (by decide)) (Or.inr (by decide)) (Or.inr (by decide))).trans pf4
          have pf5 := (yz60971 _ 11 (Or.inr (by decide)) (Or.inr (by decide)) (Or.inr (by decide)) (Or.inr (by decide)) (Or.inr (by decide)) (Or.inr (by decide)) (Or.inr (by decide)) (Or.inr (by decide)) (Or.inr (by decide)) (Or.inr (by decide))).trans pf5
          have hfr : ∀ b j : Nat, (tag b ≠ 18 ∨ j ≠ 0) → (tag b ≠ 18 ∨ j ≠ 1) → (tag b ≠ 18 ∨ j ≠ 2) → (tag b ≠ 18 ∨ j ≠ 3) → (tag b ≠ 18 ∨ j ≠ 4) → (tag b ≠ 18 ∨ j ≠ 5) → (tag b ≠ 18 ∨ j ≠ 6) → (tag b ≠ 18 ∨ j ≠ 8) → (tag b ≠ 18 ∨ j ≠ 10) → (tag b ≠ 18 ∨ j ≠ 14) → (tag b ≠ 18 ∨ j ≠ 16) → (tag b ≠ 19 ∨ j ≠ 0) → (tag b ≠ 24 ∨ j ≠ 2) → (tag b ≠ 24 ∨ j ≠ 3) → (tag b ≠ 24 ∨ j ≠ 4) → (tag b ≠ 24 ∨ j ≠ 5) → (tag b ≠ 24 ∨ j ≠ 6) → (tag b ≠ 24 ∨ j ≠ 7) → (tag b ≠ 25 ∨ j ≠ 3) → (tag b ≠ 25 ∨ j ≠ 4) → (tag b ≠ 25 ∨ j ≠ 5) → (tag b ≠ 25 ∨ j ≠ 6) → (tag b ≠ 25 ∨ j ≠ 7) → (tag b ≠ 25 ∨ j ≠ 8) → (tag b ≠ 25 ∨ j ≠ 12) → fld F b j = fld Fo b j := fun b j n18_0 n18_1 n18_2 n18_3 n18_4 n18_5 n18_6 n18_8 n18_10 n18_14 n18_16 n19_0 n24_2 n24_3 n24_4 n24_5 n24_6 n24_7 n25_3 n25_4 n25_5 n25_6 n25_7 n25_8 n25_12 => (yz60971 b j n18_10 n24_2 n24_3 n24_4 n24_5 n24_6 n24_7 n25_3 n25_4 n25_12).trans (hfr b j n18_0 n18_1 n18_2 n18_3 n18_4 n18_5 n18_6 n18_8 n18_10 n18_14 n18_16 n19_0 n24_2 n24_3 n24_4 n24_5 n24_6 n24_7 n25_3 n25_4 n25_5 n25_6 n25_7 n25_8 n25_12)
          refine lv_goto (tgt := 186) hx hb dX3_readLine_128 (by decide) ?_
          exact t_vret hQ X hT ⟨hfr, hrel⟩ (Nat.le_of_ble_eq_true rfl) (Nat.le_of_ble_eq_true rfl) dX3_readLine_186
        · have w60972 := cv_ne (rfl : z60966.toInt = z60966.toInt) (by decide : (0 : Int32).toInt = 0) c60967
          exact t_vret hQ X hT ⟨hfr, hrel⟩ (Nat.le_of_ble_eq_true rfl) (Nat.le_of_ble_eq_true rfl) dX3_readLine_37
    have w60973 := cv_ne (rfl : z60954.toInt = z60954.toInt) (by decide : (4 : Int32).toInt = 4) c60957
    by_cases c60974 : z60954 = 7
    · subst c60974
      refine lv_aload_n hx hb dX3_readLine_25 rfl (lv_at hl 1 rfl) ?_
      refine lv_iload_n hx hb dX3_readLine_26 rfl (lv_at hl 0 rfl) ?_
      refine t_cVv (n := 1) (C := RX3) (T := TX3) (N := 13) (As := [.int 7]) (rest := []) X hT (kt123_X3_checkLine l G tag L F hT.2.2.2 p0 7 x0 x1 x2 x3 x4 x5 m0 g0 (by decide) mx0 gx0 pf0 mx1 gx1 pf1 mx2 gx2 pf2 mx3 gx3 pf3 mx4 gx4 pf4 mx5 gx5 pf5) m0 g0 rfl rfl qw_291 qw_292 qw_293 qw_28 qw_294 ⟨rfl, by decide +kernel, by decide +kernel, by decide +kernel⟩ ⟨Nat.le_of_ble_eq_true rfl, Nat.le_of_ble_eq_true rfl⟩ hl rfl rfl (Nat.le_of_ble_eq_true rfl) dX3_readLine_27 ⟨Nat.le_of_ble_eq_true rfl, Nat.le_of_ble_eq_true rfl⟩ (fun F H locs hT hz60975 => ?_)
      obtain ⟨yz60975, xz60975_0⟩ := hz60975
      have pf0 := (yz60975.1 _ 0 (Or.inr (by decide)) (Or.inr (by decide))).trans pf0
      have pf1 := (yz60975.1 _ 1 (Or.inr (by decide)) (Or.inr (by decide))).trans pf1
      have pf2 := (yz60975.1 _ 2 (Or.inr (by decide)) (Or.inr (by decide))).trans pf2
      have pf3 := (yz60975.1 _ 0 (Or.inr (by decide)) (Or.inr (by decide))).trans pf3
      have pf4 := (yz60975.1 _ 10 (Or.inr (by decide)) (Or.inr (by decide))).trans pf4
      have pf5 := (yz60975.1 _ 11 (Or.inr (by decide)) (Or.inr (by decide))).trans pf5
      have hfr : ∀ b j : Nat, (tag b ≠ 18 ∨ j ≠ 0) → (tag b ≠ 18 ∨ j ≠ 1) → (tag b ≠ 18 ∨ j ≠ 2) → (tag b ≠ 18 ∨ j ≠ 3) → (tag b ≠ 18 ∨ j ≠ 4) → (tag b ≠ 18 ∨ j ≠ 5) → (tag b ≠ 18 ∨ j ≠ 6) → (tag b ≠ 18 ∨ j ≠ 8) → (tag b ≠ 18 ∨ j ≠ 10) → (tag b ≠ 18 ∨ j ≠ 14) → (tag b ≠ 18 ∨ j ≠ 16) → (tag b ≠ 19 ∨ j ≠ 0) → (tag b ≠ 24 ∨ j ≠ 2) → (tag b ≠ 24 ∨ j ≠ 3) → (tag b ≠ 24 ∨ j ≠ 4) → (tag b ≠ 24 ∨ j ≠ 5) → (tag b ≠ 24 ∨ j ≠ 6) → (tag b ≠ 24 ∨ j ≠ 7) → (tag b ≠ 25 ∨ j ≠ 3) → (tag b ≠ 25 ∨ j ≠ 4) → (tag b ≠ 25 ∨ j ≠ 5) → (tag b ≠ 25 ∨ j ≠ 6) → (tag b ≠ 25 ∨ j ≠ 7) → (tag b ≠ 25 ∨ j ≠ 8) → (tag b ≠ 25 ∨ j ≠ 12) → fld F b j = fld Fo b j := fun b j n18_0 n18_1 n18_2 n18_3 n18_4 n18_5 n18_6 n18_8 n18_10 n18_14 n18_16 n19_0 n24_2 n24_3 n24_4 n24_5 n24_6 n24_7 n25_3 n25_4 n25_5 n25_6 n25_7 n25_8 n25_12 => (yz60975.1 b j n25_3 n25_4).trans (hfr b j n18_0 n18_1 n18_2 n18_3 n18_4 n18_5 n18_6 n18_8 n18_10 n18_14 n18_16 n19_0 n24_2 n24_3 n24_4 n24_5 n24_6 n24_7 n25_3 n25_4 n25_5 n25_6 n25_7 n25_8 n25_12)
      have hrel := nsr_of (fun j => yz60975.2 _ j (Or.inl gx4)) (fun j => yz60975.2 _ j (Or.inr gx5)) hrel
      rcases xz60975_0 with xz60975_0 | xz60975_0
      · obtain ⟨z60976, qz60976, rz60976⟩ := xz60975_0
        refine lv_aload_n hx hb dX3_readLine_30 rfl (lv_at hl 1 rfl) ?_
        refine t_get (C := RX3) (T := TX3) (N := 13) X hT m0 g0 rfl rfl 3 (by decide) qw_163 inlX3 rfl dX3_readLine_31 (fun v60977 hv60977 ov60977 => ?_)
        obtain rfl : v60977 = .int z60976 := hv60977.symm.trans qz60976
        refine lv_if_eq (tgt := 38) hx hb dX3_readLine_34 (by decide) (fun c60978 => ?_) (fun c60978 => ?_)
        · have w60979 := cv_eq (rfl : z60976.toInt = z60976.toInt) (by decide : (0 : Int32).toInt = 0) c60978
          exfalso
          omega
        · have w60980 := cv_ne (rfl : z60976.toInt = z60976.toInt) (by decide : (0 : Int32).toInt = 0) c60978
          exact t_vret hQ X hT ⟨hfr, hrel⟩ (Nat.le_of_ble_eq_true rfl) (Nat.le_of_ble_eq_true rfl) dX3_readLine_37
      · obtain ⟨z60981, qz60981, rz60981⟩ := xz60975_0
        refine lv_aload_n hx hb dX3_readLine_30 rfl (lv_at hl 1 rfl) ?_
        refine t_get (C := RX3) (T := TX3) (N := 13) X hT m0 g0 rfl rfl 3 (by decide) qw_163 inlX3 rfl dX3_readLine_31 (fun v60982 hv60982 ov60982 => ?_)
        obtain ⟨z60983, rfl, rz60983⟩ := okV_i ov60982
        refine lv_if_eq (tgt := 38) hx hb dX3_readLine_34 (by decide) (fun c60984 => ?_) (fun c60984 => ?_)
        · have w60985 := cv_eq (rfl : z60983.toInt = z60983.toInt) (by decide : (0 : Int32).toInt = 0) c60984
          refine lv_aload_n hx hb dX3_readLine_38 rfl (lv_at hl 1 rfl) ?_
          refine t_get (C := RX3) (T := TX3) (N := 13) X hT m0 g0 rfl rfl 0 (by decide) qw_73 inlX3 rfl dX3_readLine_39 (fun v60986 hv60986 ov60986 => ?_)
          obtain rfl : v60986 = .ref x0 := hv60986.symm.trans pf0
          refine t_cVv (n := 0) (C := RX8) (T := TX8) (N := 8) (As := []) (rest := []) X hT (kt98_X8_advance l G tag L F hT.2.2.2 x0 x3 mx0 gx0 mx3 gx3 pf3) mx0 gx0 rfl rfl qw_305 qw_197 qw_198 qw_72 qw_199 ⟨rfl, by decide +kernel, by decide +kernel, by decide +kernel⟩ ⟨Nat.le_of_ble_eq_true rfl, Nat.le_of_ble_eq_true rfl⟩ hl rfl rfl (Nat.le_of_ble_eq_true rfl) dX3_readLine_42 ⟨Nat.le_of_ble_eq_true rfl, Nat.le_of_ble_eq_true rfl⟩ (fun F H locs hT hz60987 => ?_)
          have yz60987 := hz60987
          have pf0 := (yz60987.1 _ 0 (Or.inr (by decide)) (Or.inr (by decide)) (Or.inr (by decide)) (Or.inr (by decide)) (Or.inr (by decide)) (Or.inr (by decide))).trans pf0
          have pf1 := (yz60987.1 _ 1 (Or.inr (by decide)) (Or.inr (by decide)) (Or.inr (by decide)) (Or.inr (by decide)) (Or.inr (by decide)) (Or.inr (by decide))).trans pf1
          have pf2 := (yz60987.1 _ 2 (Or.inl (by rw [g0]; decide)) (Or.inr (by decide)) (Or.inr (by decide)) (Or.inr (by decide)) (Or.inr (by decide)) (Or.inr (by decide))).trans pf2
          have pf3 := (yz60987.1 _ 0 (Or.inr (by decide)) (Or.inr (by decide)) (Or.inr (by decide)) (Or.inr (by decide)) (Or.inr (by decide)) (Or.inr (by decide))).trans pf3
          have pf4 := (yz60987.1 _ 10 (Or.inr (by decide)) (Or.inr (by decide)) (Or.inr (by decide)) (Or.inr (by decide)) (Or.inr (by decide)) (Or.inr (by decide))).trans pf4
          have pf5 := (yz60987.1 _ 11 (Or.inr (by decide)) (Or.inr (by decide)) (Or.inr (by decide)) (Or.inr (by decide)) (Or.inr (by decide)) (Or.inr (by decide))).trans pf5
          have qz60981 := (yz60987.1 _ 16 (Or.inr (by decide)) (Or.inr (by decide)) (Or.inr (by decide)) (Or.inr (by decide)) (Or.inr (by decide)) (Or.inr (by decide))).trans qz60981
          have hv60982 := (yz60987.1 _ 3 (Or.inr (by decide)) (Or.inl (by rw [g0]; decide)) (Or.inr (by decide)) (Or.inr (by decide)) (Or.inr (by decide)) (Or.inr (by decide))).trans hv60982
          have hfr : ∀ b j : Nat, (tag b ≠ 18 ∨ j ≠ 0) → (tag b ≠ 18 ∨ j ≠ 1) → (tag b ≠ 18 ∨ j ≠ 2) → (tag b ≠ 18 ∨ j ≠ 3) → (tag b ≠ 18 ∨ j ≠ 4) → (tag b ≠ 18 ∨ j ≠ 5) → (tag b ≠ 18 ∨ j ≠ 6) → (tag b ≠ 18 ∨ j ≠ 8) → (tag b ≠ 18 ∨ j ≠ 10) → (tag b ≠ 18 ∨ j ≠ 14) → (tag b ≠ 18 ∨ j ≠ 16) → (tag b ≠ 19 ∨ j ≠ 0) → (tag b ≠ 24 ∨ j ≠ 2) → (tag b ≠ 24 ∨ j ≠ 3) → (tag b ≠ 24 ∨ j ≠ 4) → (tag b ≠ 24 ∨ j ≠ 5) → (tag b ≠ 24 ∨ j ≠ 6) → (tag b ≠ 24 ∨ j ≠ 7) → (tag b ≠ 25 ∨ j ≠ 3) → (tag b ≠ 25 ∨ j ≠ 4) → (tag b ≠ 25 ∨ j ≠ 5) → (tag b ≠ 25 ∨ j ≠ 6) → (tag b ≠ 25 ∨ j ≠ 7) → (tag b ≠ 25 ∨ j ≠ 8) → (tag b ≠ 25 ∨ j ≠ 12) → fld F b j = fld Fo b j := fun b j n18_0 n18_1 n18_2 n18_3 n18_4 n18_5 n18_6 n18_8 n18_10 n18_14 n18_16 n19_0 n24_2 n24_3 n24_4 n24_5 n24_6 n24_7 n25_3 n25_4 n25_5 n25_6 n25_7 n25_8 n25_12 => (yz60987.1 b j n24_2 n24_3 n24_4 n24_5 n24_6 n24_7).trans (hfr b j n18_0 n18_1 n18_2 n18_3 n18_4 n18_5 n18_6 n18_8 n18_10 n18_14 n18_16 n19_0 n24_2 n24_3 n24_4 n24_5 n24_6 n24_7 n25_3 n25_4 n25_5 n25_6 n25_7 n25_8 n25_12)
          have hrel := nsr_of (fun j => yz60987.2 _ j (Or.inl gx4)) (fun j => yz60987.2 _ j (Or.inr gx5)) hrel
          refine lv_iload_n hx hb dX3_readLine_45 rfl (lv_at hl 0 rfl) ?_
          refine lv_tableIn (off := 99) (tgt := 145) hx hb dX3_readLine_46 (by decide) (by decide) (by decide) (by decide) ?_
          refine lv_aload_n hx hb dX3_readLine_145 rfl (lv_at hl 1 rfl) ?_
          refine t_cVv (n := 0) (C := RX3) (T := TX3) (N := 13) (As := []) (rest := []) X hT (kt125_X3_readWall l G tag L F hT.2.2.2 p0 x0 x1 x2 x3 x4 x5 z60981 m0 g0 mx0 gx0 pf0 mx1 gx1 pf1 mx2 gx2 pf2 mx3 gx3 pf3 mx4 gx4 pf4 mx5 gx5 pf5 (by omega) qz60981 hrel) m0 g0 rfl rfl qw_432 qw_433 qw_434 qw_28 qw_435 ⟨rfl, by decide +kernel, by decide +kernel, by decide +kernel⟩ ⟨Nat.le_of_ble_eq_true rfl, Nat.le_of_ble_eq_true rfl⟩ hl rfl rfl (Nat.le_of_ble_eq_true rfl) dX3_readLine_146 ⟨Nat.le_of_ble_eq_true rfl, Nat.le_of_ble_eq_true rfl⟩ (fun F H locs hT hz60988 => ?_)
          obtain ⟨yz60988, hrel⟩ := hz60988
          have pf0 := (yz60988 _ 0 (Or.inr (by decide)) (Or.inr (by decide)) (Or.inr (by decide)) (Or.inr (by decide)) (Or.inr (by decide)) (Or.inr (by decide)) (Or.inr (by decide)) (Or.inr (by decide)) (Or.inr (by decide)) (Or.inr (by decide))).trans pf0
          have pf1 := (yz60988 _ 1 (Or.inr (by decide)) (Or.inr (by decide)) (Or.inr (by decide)) (Or.inr (by decide)) (Or.inr (by decide)) (Or.inr (by decide)) (Or.inr (by decide)) (Or.inr (by decide)) (Or.inr (by decide)) (Or.inr (by decide))).trans pf1
          have pf2 := (yz60988 _ 2 (Or.inr (by decide)) (Or.inl (by rw [g0]; decide)) (Or.inr (by decide)) (Or.inr (by decide)) (Or.inr (by decide)) (Or.inr (by decide)) (Or.inr (by decide)) (Or.inr (by decide)) (Or.inr (by decide)) (Or.inr (by decide))).trans pf2
          have pf3 := (yz60988 _ 0 (Or.inr (by decide)) (Or.inr (by decide)) (Or.inr (by decide)) (Or.inr (by decide)) (Or.inr (by decide)) (Or.inr (by decide)) (Or.inr (by decide)) (Or.inr (by decide)) (Or.inr (by decide)) (Or.inr (by decide))).trans pf3
          have pf4 := (yz60988 _ 10 (Or.inr (by decide)) (Or.inr (by decide)) (Or.inr (by decide)) (Or.inr (by decide)) (Or.inr (by decide)) (Or.inr (by decide)) (Or.inr (by decide)) (Or.inr (by decide)) (Or.inr (by decide)) (Or.inr (by decide))).trans pf4
          have pf5 := (yz60988 _ 11 (Or.inr (by decide)) (Or.inr (by decide)) (Or.inr (by decide)) (Or.inr (by decide)) (Or.inr (by decide)) (Or.inr (by decide)) (Or.inr (by decide)) (Or.inr (by decide)) (Or.inr (by decide)) (Or.inr (by decide))).trans pf5
          have hfr : ∀ b j : Nat, (tag b ≠ 18 ∨ j ≠ 0) → (tag b ≠ 18 ∨ j ≠ 1) → (tag b ≠ 18 ∨ j ≠ 2) → (tag b ≠ 18 ∨ j ≠ 3) → (tag b ≠ 18 ∨ j ≠ 4) → (tag b ≠ 18 ∨ j ≠ 5) → (tag b ≠ 18 ∨ j ≠ 6) → (tag b ≠ 18 ∨ j ≠ 8) → (tag b ≠ 18 ∨ j ≠ 10) → (tag b ≠ 18 ∨ j ≠ 14) → (tag b ≠ 18 ∨ j ≠ 16) → (tag b ≠ 19 ∨ j ≠ 0) → (tag b ≠ 24 ∨ j ≠ 2) → (tag b ≠ 24 ∨ j ≠ 3) → (tag b ≠ 24 ∨ j ≠ 4) → (tag b ≠ 24 ∨ j ≠ 5) → (tag b ≠ 24 ∨ j ≠ 6) → (tag b ≠ 24 ∨ j ≠ 7) → (tag b ≠ 25 ∨ j ≠ 3) → (tag b ≠ 25 ∨ j ≠ 4) → (tag b ≠ 25 ∨ j ≠ 5) → (tag b ≠ 25 ∨ j ≠ 6) → (tag b ≠ 25 ∨ j ≠ 7) → (tag b ≠ 25 ∨ j ≠ 8) → (tag b ≠ 25 ∨ j ≠ 12) → fld F b j = fld Fo b j := fun b j n18_0 n18_1 n18_2 n18_3 n18_4 n18_5 n18_6 n18_8 n18_10 n18_14 n18_16 n19_0 n24_2 n24_3 n24_4 n24_5 n24_6 n24_7 n25_3 n25_4 n25_5 n25_6 n25_7 n25_8 n25_12 => (yz60988 b j n18_16 n24_2 n24_3 n24_4 n24_5 n24_6 n24_7 n25_3 n25_4 n25_12).trans (hfr b j n18_0 n18_1 n18_2 n18_3 n18_4 n18_5 n18_6 n18_8 n18_10 n18_14 n18_16 n19_0 n24_2 n24_3 n24_4 n24_5 n24_6 n24_7 n25_3 n25_4 n25_5 n25_6 n25_7 n25_8 n25_12)
          refine lv_goto (tgt := 186) hx hb dX3_readLine_149 (by decide) ?_
          exact t_vret hQ X hT ⟨hfr, hrel⟩ (Nat.le_of_ble_eq_true rfl) (Nat.le_of_ble_eq_true rfl) dX3_readLine_186
        · have w60989 := cv_ne (rfl : z60983.toInt = z60983.toInt) (by decide : (0 : Int32).toInt = 0) c60984
          exact t_vret hQ X hT ⟨hfr, hrel⟩ (Nat.le_of_ble_eq_true rfl) (Nat.le_of_ble_eq_true rfl) dX3_readLine_37
    have w60990 := cv_ne (rfl : z60954.toInt = z60954.toInt) (by decide : (7 : Int32).toInt = 7) c60974
    refine lv_aload_n hx hb dX3_readLine_25 rfl (lv_at hl 1 rfl) ?_
    refine lv_iload_n hx hb dX3_readLine_26 rfl (lv_at hl 0 rfl) ?_
    refine t_cVv (n := 1) (C := RX3) (T := TX3) (N := 13) (As := [.int z60954]) (rest := []) X hT (kt127_X3_checkLine l G tag L F hT.2.2.2 p0 z60954 x0 x1 x2 x3 x4 x5 m0 g0 mx0 gx0 pf0 mx1 gx1 pf1 mx2 gx2 pf2 mx3 gx3 pf3 mx4 gx4 pf4 mx5 gx5 pf5) m0 g0 rfl rfl qw_291 qw_292 qw_293 qw_28 qw_294 ⟨rfl, by decide +kernel, by decide +kernel, by decide +kernel⟩ ⟨Nat.le_of_ble_eq_true rfl, Nat.le_of_ble_eq_true rfl⟩ hl rfl rfl (Nat.le_of_ble_eq_true rfl) dX3_readLine_27 ⟨Nat.le_of_ble_eq_true rfl, Nat.le_of_ble_eq_true rfl⟩ (fun F H locs hT hz60991 => ?_)
    have yz60991 := hz60991
    have pf0 := (yz60991.1 _ 0 (Or.inr (by decide)) (Or.inr (by decide))).trans pf0
    have pf1 := (yz60991.1 _ 1 (Or.inr (by decide)) (Or.inr (by decide))).trans pf1
    have pf2 := (yz60991.1 _ 2 (Or.inr (by decide)) (Or.inr (by decide))).trans pf2
    have pf3 := (yz60991.1 _ 0 (Or.inr (by decide)) (Or.inr (by decide))).trans pf3
    have pf4 := (yz60991.1 _ 10 (Or.inr (by decide)) (Or.inr (by decide))).trans pf4
    have pf5 := (yz60991.1 _ 11 (Or.inr (by decide)) (Or.inr (by decide))).trans pf5
    have hfr : ∀ b j : Nat, (tag b ≠ 18 ∨ j ≠ 0) → (tag b ≠ 18 ∨ j ≠ 1) → (tag b ≠ 18 ∨ j ≠ 2) → (tag b ≠ 18 ∨ j ≠ 3) → (tag b ≠ 18 ∨ j ≠ 4) → (tag b ≠ 18 ∨ j ≠ 5) → (tag b ≠ 18 ∨ j ≠ 6) → (tag b ≠ 18 ∨ j ≠ 8) → (tag b ≠ 18 ∨ j ≠ 10) → (tag b ≠ 18 ∨ j ≠ 14) → (tag b ≠ 18 ∨ j ≠ 16) → (tag b ≠ 19 ∨ j ≠ 0) → (tag b ≠ 24 ∨ j ≠ 2) → (tag b ≠ 24 ∨ j ≠ 3) → (tag b ≠ 24 ∨ j ≠ 4) → (tag b ≠ 24 ∨ j ≠ 5) → (tag b ≠ 24 ∨ j ≠ 6) → (tag b ≠ 24 ∨ j ≠ 7) → (tag b ≠ 25 ∨ j ≠ 3) → (tag b ≠ 25 ∨ j ≠ 4) → (tag b ≠ 25 ∨ j ≠ 5) → (tag b ≠ 25 ∨ j ≠ 6) → (tag b ≠ 25 ∨ j ≠ 7) → (tag b ≠ 25 ∨ j ≠ 8) → (tag b ≠ 25 ∨ j ≠ 12) → fld F b j = fld Fo b j := fun b j n18_0 n18_1 n18_2 n18_3 n18_4 n18_5 n18_6 n18_8 n18_10 n18_14 n18_16 n19_0 n24_2 n24_3 n24_4 n24_5 n24_6 n24_7 n25_3 n25_4 n25_5 n25_6 n25_7 n25_8 n25_12 => (yz60991.1 b j n25_3 n25_4).trans (hfr b j n18_0 n18_1 n18_2 n18_3 n18_4 n18_5 n18_6 n18_8 n18_10 n18_14 n18_16 n19_0 n24_2 n24_3 n24_4 n24_5 n24_6 n24_7 n25_3 n25_4 n25_5 n25_6 n25_7 n25_8 n25_12)
    have hrel := nsr_of (fun j => yz60991.2 _ j (Or.inl gx4)) (fun j => yz60991.2 _ j (Or.inr gx5)) hrel
    refine lv_aload_n hx hb dX3_readLine_30 rfl (lv_at hl 1 rfl) ?_
    refine t_get (C := RX3) (T := TX3) (N := 13) X hT m0 g0 rfl rfl 3 (by decide) qw_163 inlX3 rfl dX3_readLine_31 (fun v60992 hv60992 ov60992 => ?_)
    obtain ⟨z60993, rfl, rz60993⟩ := okV_i ov60992
    refine lv_if_eq (tgt := 38) hx hb dX3_readLine_34 (by decide) (fun c60994 => ?_) (fun c60994 => ?_)
    · have w60995 := cv_eq (rfl : z60993.toInt = z60993.toInt) (by decide : (0 : Int32).toInt = 0) c60994
      refine lv_aload_n hx hb dX3_readLine_38 rfl (lv_at hl 1 rfl) ?_
      refine t_get (C := RX3) (T := TX3) (N := 13) X hT m0 g0 rfl rfl 0 (by decide) qw_73 inlX3 rfl dX3_readLine_39 (fun v60996 hv60996 ov60996 => ?_)
      obtain rfl : v60996 = .ref x0 := hv60996.symm.trans pf0
      refine t_cVv (n := 0) (C := RX8) (T := TX8) (N := 8) (As := []) (rest := []) X hT (kt98_X8_advance l G tag L F hT.2.2.2 x0 x3 mx0 gx0 mx3 gx3 pf3) mx0 gx0 rfl rfl qw_305 qw_197 qw_198 qw_72 qw_199 ⟨rfl, by decide +kernel, by decide +kernel, by decide +kernel⟩ ⟨Nat.le_of_ble_eq_true rfl, Nat.le_of_ble_eq_true rfl⟩ hl rfl rfl (Nat.le_of_ble_eq_true rfl) dX3_readLine_42 ⟨Nat.le_of_ble_eq_true rfl, Nat.le_of_ble_eq_true rfl⟩ (fun F H locs hT hz60997 => ?_)
      have yz60997 := hz60997
      have pf0 := (yz60997.1 _ 0 (Or.inr (by decide)) (Or.inr (by decide)) (Or.inr (by decide)) (Or.inr (by decide)) (Or.inr (by decide)) (Or.inr (by decide))).trans pf0
      have pf1 := (yz60997.1 _ 1 (Or.inr (by decide)) (Or.inr (by decide)) (Or.inr (by decide)) (Or.inr (by decide)) (Or.inr (by decide)) (Or.inr (by decide))).trans pf1
      have pf2 := (yz60997.1 _ 2 (Or.inl (by rw [g0]; decide)) (Or.inr (by decide)) (Or.inr (by decide)) (Or.inr (by decide)) (Or.inr (by decide)) (Or.inr (by decide))).trans pf2
      have pf3 := (yz60997.1 _ 0 (Or.inr (by decide)) (Or.inr (by decide)) (Or.inr (by decide)) (Or.inr (by decide)) (Or.inr (by decide)) (Or.inr (by decide))).trans pf3
      have pf4 := (yz60997.1 _ 10 (Or.inr (by decide)) (Or.inr (by decide)) (Or.inr (by decide)) (Or.inr (by decide)) (Or.inr (by decide)) (Or.inr (by decide))).trans pf4
      have pf5 := (yz60997.1 _ 11 (Or.inr (by decide)) (Or.inr (by decide)) (Or.inr (by decide)) (Or.inr (by decide)) (Or.inr (by decide)) (Or.inr (by decide))).trans pf5
      have hv60992 := (yz60997.1 _ 3 (Or.inr (by decide)) (Or.inl (by rw [g0]; decide)) (Or.inr (by decide)) (Or.inr (by decide)) (Or.inr (by decide)) (Or.inr (by decide))).trans hv60992
      have hfr : ∀ b j : Nat, (tag b ≠ 18 ∨ j ≠ 0) → (tag b ≠ 18 ∨ j ≠ 1) → (tag b ≠ 18 ∨ j ≠ 2) → (tag b ≠ 18 ∨ j ≠ 3) → (tag b ≠ 18 ∨ j ≠ 4) → (tag b ≠ 18 ∨ j ≠ 5) → (tag b ≠ 18 ∨ j ≠ 6) → (tag b ≠ 18 ∨ j ≠ 8) → (tag b ≠ 18 ∨ j ≠ 10) → (tag b ≠ 18 ∨ j ≠ 14) → (tag b ≠ 18 ∨ j ≠ 16) → (tag b ≠ 19 ∨ j ≠ 0) → (tag b ≠ 24 ∨ j ≠ 2) → (tag b ≠ 24 ∨ j ≠ 3) → (tag b ≠ 24 ∨ j ≠ 4) → (tag b ≠ 24 ∨ j ≠ 5) → (tag b ≠ 24 ∨ j ≠ 6) → (tag b ≠ 24 ∨ j ≠ 7) → (tag b ≠ 25 ∨ j ≠ 3) → (tag b ≠ 25 ∨ j ≠ 4) → (tag b ≠ 25 ∨ j ≠ 5) → (tag b ≠ 25 ∨ j ≠ 6) → (tag b ≠ 25 ∨ j ≠ 7) → (tag b ≠ 25 ∨ j ≠ 8) → (tag b ≠ 25 ∨ j ≠ 12) → fld F b j = fld Fo b j := fun b j n18_0 n18_1 n18_2 n18_3 n18_4 n18_5 n18_6 n18_8 n18_10 n18_14 n18_16 n19_0 n24_2 n24_3 n24_4 n24_5 n24_6 n24_7 n25_3 n25_4 n25_5 n25_6 n25_7 n25_8 n25_12 => (yz60997.1 b j n24_2 n24_3 n24_4 n24_5 n24_6 n24_7).trans (hfr b j n18_0 n18_1 n18_2 n18_3 n18_4 n18_5 n18_6 n18_8 n18_10 n18_14 n18_16 n19_0 n24_2 n24_3 n24_4 n24_5 n24_6 n24_7 n25_3 n25_4 n25_5 n25_6 n25_7 n25_8 n25_12)
      have hrel := nsr_of (fun j => yz60997.2 _ j (Or.inl gx4)) (fun j => yz60997.2 _ j (Or.inr gx5)) hrel
      refine lv_iload_n hx hb dX3_readLine_45 rfl (lv_at hl 0 rfl) ?_
      by_cases c60998 : z60954 = 0
      · have w60999 := cv_eq (rfl : z60954.toInt = z60954.toInt) (by decide : (0 : Int32).toInt = 0) c60998
        refine lv_tableIn (off := 50) (tgt := 96) hx hb dX3_readLine_46 (by rw [c60998]; decide) (by rw [c60998]; decide) (by rw [c60998]; decide) (by decide) ?_
        refine lv_aload_n hx hb dX3_readLine_96 rfl (lv_at hl 1 rfl) ?_
        refine t_cVv (n := 0) (C := RX3) (T := TX3) (N := 13) (As := []) (rest := []) X hT (kt130_X3_readLand l G tag L F hT.2.2.2 p0 x0 x1 x2 x3 x4 x5 m0 g0 mx0 gx0 pf0 mx1 gx1 pf1 mx2 gx2 pf2 mx3 gx3 pf3 mx4 gx4 pf4 mx5 gx5 pf5) m0 g0 rfl rfl qw_306 qw_307 qw_308 qw_28 qw_309 ⟨rfl, by decide +kernel, by decide +kernel, by decide +kernel⟩ ⟨Nat.le_of_ble_eq_true rfl, Nat.le_of_ble_eq_true rfl⟩ hl rfl rfl (Nat.le_of_ble_eq_true rfl) dX3_readLine_97 ⟨Nat.le_of_ble_eq_true rfl, Nat.le_of_ble_eq_true rfl⟩ (fun F H locs hT hz61000 => ?_)
        have yz61000 := hz61000
        have pf0 := (yz61000.1 _ 0 (Or.inl (by rw [g0]; decide)) (Or.inr (by decide)) (Or.inr (by decide)) (Or.inr (by decide)) (Or.inr (by decide)) (Or.inr (by decide)) (Or.inr (by decide)) (Or.inr (by decide)) (Or.inr (by decide)) (Or.inr (by decide)) (Or.inr (by decide)) (Or.inr (by decide)) (Or.inr (by decide))).trans pf0
        have pf1 := (yz61000.1 _ 1 (Or.inr (by decide)) (Or.inl (by rw [g0]; decide)) (Or.inr (by decide)) (Or.inr (by decide)) (Or.inr (by decide)) (Or.inr (by decide)) (Or.inr (by decide)) (Or.inr (by decide)) (Or.inr (by decide)) (Or.inr (by decide)) (Or.inr (by decide)) (Or.inr (by decide)) (Or.inr (by decide))).trans pf1
        have pf2 := (yz61000.1 _ 2 (Or.inr (by decide)) (Or.inr (by decide)) (Or.inl (by rw [g0]; decide)) (Or.inr (by decide)) (Or.inl (by rw [g0]; decide)) (Or.inr (by decide)) (Or.inr (by decide)) (Or.inr (by decide)) (Or.inr (by decide)) (Or.inr (by decide)) (Or.inr (by decide)) (Or.inr (by decide)) (Or.inr (by decide))).trans pf2
        have pf3 := (yz61000.1 _ 0 (Or.inl (by rw [gx0]; decide)) (Or.inr (by decide)) (Or.inr (by decide)) (Or.inr (by decide)) (Or.inr (by decide)) (Or.inr (by decide)) (Or.inr (by decide)) (Or.inr (by decide)) (Or.inr (by decide)) (Or.inr (by decide)) (Or.inr (by decide)) (Or.inr (by decide)) (Or.inr (by decide))).trans pf3
        have pf4 := (yz61000.1 _ 10 (Or.inr (by decide)) (Or.inr (by decide)) (Or.inr (by decide)) (Or.inr (by decide)) (Or.inr (by decide)) (Or.inr (by decide)) (Or.inr (by decide)) (Or.inr (by decide)) (Or.inr (by decide)) (Or.inr (by decide)) (Or.inr (by decide)) (Or.inr (by decide)) (Or.inr (by decide))).trans pf4
        have pf5 := (yz61000.1 _ 11 (Or.inr (by decide)) (Or.inr (by decide)) (Or.inr (by decide)) (Or.inr (by decide)) (Or.inr (by decide)) (Or.inr (by decide)) (Or.inr (by decide)) (Or.inr (by decide)) (Or.inr (by decide)) (Or.inr (by decide)) (Or.inr (by decide)) (Or.inr (by decide)) (Or.inr (by decide))).trans pf5
        have hfr : ∀ b j : Nat, (tag b ≠ 18 ∨ j ≠ 0) → (tag b ≠ 18 ∨ j ≠ 1) → (tag b ≠ 18 ∨ j ≠ 2) → (tag b ≠ 18 ∨ j ≠ 3) → (tag b ≠ 18 ∨ j ≠ 4) → (tag b ≠ 18 ∨ j ≠ 5) → (tag b ≠ 18 ∨ j ≠ 6) → (tag b ≠ 18 ∨ j ≠ 8) → (tag b ≠ 18 ∨ j ≠ 10) → (tag b ≠ 18 ∨ j ≠ 14) → (tag b ≠ 18 ∨ j ≠ 16) → (tag b ≠ 19 ∨ j ≠ 0) → (tag b ≠ 24 ∨ j ≠ 2) → (tag b ≠ 24 ∨ j ≠ 3) → (tag b ≠ 24 ∨ j ≠ 4) → (tag b ≠ 24 ∨ j ≠ 5) → (tag b ≠ 24 ∨ j ≠ 6) → (tag b ≠ 24 ∨ j ≠ 7) → (tag b ≠ 25 ∨ j ≠ 3) → (tag b ≠ 25 ∨ j ≠ 4) → (tag b ≠ 25 ∨ j ≠ 5) → (tag b ≠ 25 ∨ j ≠ 6) → (tag b ≠ 25 ∨ j ≠ 7) → (tag b ≠ 25 ∨ j ≠ 8) → (tag b ≠ 25 ∨ j ≠ 12) → fld F b j = fld Fo b j := fun b j n18_0 n18_1 n18_2 n18_3 n18_4 n18_5 n18_6 n18_8 n18_10 n18_14 n18_16 n19_0 n24_2 n24_3 n24_4 n24_5 n24_6 n24_7 n25_3 n25_4 n25_5 n25_6 n25_7 n25_8 n25_12 => (yz61000.1 b j n18_0 n18_1 n18_2 n18_3 n24_2 n24_3 n24_4 n24_5 n24_6 n24_7 n25_3 n25_4 n25_5).trans (hfr b j n18_0 n18_1 n18_2 n18_3 n18_4 n18_5 n18_6 n18_8 n18_10 n18_14 n18_16 n19_0 n24_2 n24_3 n24_4 n24_5 n24_6 n24_7 n25_3 n25_4 n25_5 n25_6 n25_7 n25_8 n25_12)
        have hrel := nsr_of (fun j => yz61000.2 _ j (Or.inl gx4)) (fun j => yz61000.2 _ j (Or.inr gx5)) hrel
        refine lv_goto (tgt := 186) hx hb dX3_readLine_100 (by decide) ?_
        exact t_vret hQ X hT ⟨hfr, hrel⟩ (Nat.le_of_ble_eq_true rfl) (Nat.le_of_ble_eq_true rfl) dX3_readLine_186
      have w61001 := cv_ne (rfl : z60954.toInt = z60954.toInt) (by decide : (0 : Int32).toInt = 0) c60998
      by_cases c61002 : z60954 = 1
      · have w61003 := cv_eq (rfl : z60954.toInt = z60954.toInt) (by decide : (1 : Int32).toInt = 1) c61002
        refine lv_tableIn (off := 57) (tgt := 103) hx hb dX3_readLine_46 (by rw [c61002]; decide) (by rw [c61002]; decide) (by rw [c61002]; decide) (by decide) ?_
        refine lv_aload_n hx hb dX3_readLine_103 rfl (lv_at hl 1 rfl) ?_
        refine t_cVv (n := 0) (C := RX3) (T := TX3) (N := 13) (As := []) (rest := []) X hT (kt133_X3_readYears l G tag L F hT.2.2.2 p0 x0 x1 x2 x3 x4 x5 m0 g0 mx0 gx0 pf0 mx1 gx1 pf1 mx2 gx2 pf2 mx3 gx3 pf3 mx4 gx4 pf4 mx5 gx5 pf5) m0 g0 rfl rfl qw_327 qw_328 qw_329 qw_28 qw_330 ⟨rfl, by decide +kernel, by decide +kernel, by decide +kernel⟩ ⟨Nat.le_of_ble_eq_true rfl, Nat.le_of_ble_eq_true rfl⟩ hl rfl rfl (Nat.le_of_ble_eq_true rfl) dX3_readLine_104 ⟨Nat.le_of_ble_eq_true rfl, Nat.le_of_ble_eq_true rfl⟩ (fun F H locs hT hz61004 => ?_)
        have yz61004 := hz61004
        have pf0 := (yz61004.1 _ 0 (Or.inr (by decide)) (Or.inr (by decide)) (Or.inr (by decide)) (Or.inl (by rw [g0]; decide)) (Or.inr (by decide)) (Or.inr (by decide)) (Or.inr (by decide)) (Or.inr (by decide)) (Or.inr (by decide)) (Or.inr (by decide)) (Or.inr (by decide)) (Or.inr (by decide)) (Or.inr (by decide))).trans pf0
        have pf1 := (yz61004.1 _ 1 (Or.inr (by decide)) (Or.inr (by decide)) (Or.inr (by decide)) (Or.inr (by decide)) (Or.inr (by decide)) (Or.inr (by decide)) (Or.inr (by decide)) (Or.inr (by decide)) (Or.inr (by decide)) (Or.inr (by decide)) (Or.inr (by decide)) (Or.inr (by decide)) (Or.inr (by decide))).trans pf1
        have pf2 := (yz61004.1 _ 2 (Or.inr (by decide)) (Or.inr (by decide)) (Or.inr (by decide)) (Or.inr (by decide)) (Or.inl (by rw [g0]; decide)) (Or.inr (by decide)) (Or.inr (by decide)) (Or.inr (by decide)) (Or.inr (by decide)) (Or.inr (by decide)) (Or.inr (by decide)) (Or.inr (by decide)) (Or.inr (by decide))).trans pf2
        have pf3 := (yz61004.1 _ 0 (Or.inr (by decide)) (Or.inr (by decide)) (Or.inr (by decide)) (Or.inl (by rw [gx0]; decide)) (Or.inr (by decide)) (Or.inr (by decide)) (Or.inr (by decide)) (Or.inr (by decide)) (Or.inr (by decide)) (Or.inr (by decide)) (Or.inr (by decide)) (Or.inr (by decide)) (Or.inr (by decide))).trans pf3
        have pf4 := (yz61004.1 _ 10 (Or.inr (by decide)) (Or.inr (by decide)) (Or.inr (by decide)) (Or.inr (by decide)) (Or.inr (by decide)) (Or.inr (by decide)) (Or.inr (by decide)) (Or.inr (by decide)) (Or.inr (by decide)) (Or.inr (by decide)) (Or.inr (by decide)) (Or.inr (by decide)) (Or.inr (by decide))).trans pf4
        have pf5 := (yz61004.1 _ 11 (Or.inr (by decide)) (Or.inr (by decide)) (Or.inr (by decide)) (Or.inr (by decide)) (Or.inr (by decide)) (Or.inr (by decide)) (Or.inr (by decide)) (Or.inr (by decide)) (Or.inr (by decide)) (Or.inr (by decide)) (Or.inr (by decide)) (Or.inr (by decide)) (Or.inr (by decide))).trans pf5
        have hfr : ∀ b j : Nat, (tag b ≠ 18 ∨ j ≠ 0) → (tag b ≠ 18 ∨ j ≠ 1) → (tag b ≠ 18 ∨ j ≠ 2) → (tag b ≠ 18 ∨ j ≠ 3) → (tag b ≠ 18 ∨ j ≠ 4) → (tag b ≠ 18 ∨ j ≠ 5) → (tag b ≠ 18 ∨ j ≠ 6) → (tag b ≠ 18 ∨ j ≠ 8) → (tag b ≠ 18 ∨ j ≠ 10) → (tag b ≠ 18 ∨ j ≠ 14) → (tag b ≠ 18 ∨ j ≠ 16) → (tag b ≠ 19 ∨ j ≠ 0) → (tag b ≠ 24 ∨ j ≠ 2) → (tag b ≠ 24 ∨ j ≠ 3) → (tag b ≠ 24 ∨ j ≠ 4) → (tag b ≠ 24 ∨ j ≠ 5) → (tag b ≠ 24 ∨ j ≠ 6) → (tag b ≠ 24 ∨ j ≠ 7) → (tag b ≠ 25 ∨ j ≠ 3) → (tag b ≠ 25 ∨ j ≠ 4) → (tag b ≠ 25 ∨ j ≠ 5) → (tag b ≠ 25 ∨ j ≠ 6) → (tag b ≠ 25 ∨ j ≠ 7) → (tag b ≠ 25 ∨ j ≠ 8) → (tag b ≠ 25 ∨ j ≠ 12) → fld F b j = fld Fo b j := fun b j n18_0 n18_1 n18_2 n18_3 n18_4 n18_5 n18_6 n18_8 n18_10 n18_14 n18_16 n19_0 n24_2 n24_3 n24_4 n24_5 n24_6 n24_7 n25_3 n25_4 n25_5 n25_6 n25_7 n25_8 n25_12 => (yz61004.1 b j n18_4 n18_5 n18_6 n19_0 n24_2 n24_3 n24_4 n24_5 n24_6 n24_7 n25_3 n25_4 n25_6).trans (hfr b j n18_0 n18_1 n18_2 n18_3 n18_4 n18_5 n18_6 n18_8 n18_10 n18_14 n18_16 n19_0 n24_2 n24_3 n24_4 n24_5 n24_6 n24_7 n25_3 n25_4 n25_5 n25_6 n25_7 n25_8 n25_12)
        have hrel := nsr_of (fun j => yz61004.2 _ j (Or.inl gx4)) (fun j => yz61004.2 _ j (Or.inr gx5)) hrel
        refine lv_goto (tgt := 186) hx hb dX3_readLine_107 (by decide) ?_
        exact t_vret hQ X hT ⟨hfr, hrel⟩ (Nat.le_of_ble_eq_true rfl) (Nat.le_of_ble_eq_true rfl) dX3_readLine_186
      have w61005 := cv_ne (rfl : z60954.toInt = z60954.toInt) (by decide : (1 : Int32).toInt = 1) c61002
      by_cases c61006 : z60954 = 2
      · have w61007 := cv_eq (rfl : z60954.toInt = z60954.toInt) (by decide : (2 : Int32).toInt = 2) c61006
        refine lv_tableIn (off := 64) (tgt := 110) hx hb dX3_readLine_46 (by rw [c61006]; decide) (by rw [c61006]; decide) (by rw [c61006]; decide) (by decide) ?_
        refine lv_aload_n hx hb dX3_readLine_110 rfl (lv_at hl 1 rfl) ?_
        refine t_cVv (n := 0) (C := RX3) (T := TX3) (N := 13) (As := []) (rest := []) X hT (kt134_X3_readWater l G tag L F hT.2.2.2 p0 x0 x1 x2 x3 x4 x5 m0 g0 mx0 gx0 pf0 mx1 gx1 pf1 mx2 gx2 pf2 mx3 gx3 pf3 mx4 gx4 pf4 mx5 gx5 pf5) m0 g0 rfl rfl qw_335 qw_336 qw_337 qw_28 qw_338 ⟨rfl, by decide +kernel, by decide +kernel, by decide +kernel⟩ ⟨Nat.le_of_ble_eq_true rfl, Nat.le_of_ble_eq_true rfl⟩ hl rfl rfl (Nat.le_of_ble_eq_true rfl) dX3_readLine_111 ⟨Nat.le_of_ble_eq_true rfl, Nat.le_of_ble_eq_true rfl⟩ (fun F H locs hT hz61008 => ?_)
        have yz61008 := hz61008
        have pf0 := (yz61008.1 _ 0 (Or.inr (by decide)) (Or.inr (by decide)) (Or.inr (by decide)) (Or.inr (by decide)) (Or.inr (by decide)) (Or.inr (by decide)) (Or.inr (by decide)) (Or.inr (by decide)) (Or.inr (by decide))).trans pf0
        have pf1 := (yz61008.1 _ 1 (Or.inr (by decide)) (Or.inr (by decide)) (Or.inr (by decide)) (Or.inr (by decide)) (Or.inr (by decide)) (Or.inr (by decide)) (Or.inr (by decide)) (Or.inr (by decide)) (Or.inr (by decide))).trans pf1
        have pf2 := (yz61008.1 _ 2 (Or.inl (by rw [g0]; decide)) (Or.inr (by decide)) (Or.inr (by decide)) (Or.inr (by decide)) (Or.inr (by decide)) (Or.inr (by decide)) (Or.inr (by decide)) (Or.inr (by decide)) (Or.inr (by decide))).trans pf2
        have pf3 := (yz61008.1 _ 0 (Or.inr (by decide)) (Or.inr (by decide)) (Or.inr (by decide)) (Or.inr (by decide)) (Or.inr (by decide)) (Or.inr (by decide)) (Or.inr (by decide)) (Or.inr (by decide)) (Or.inr (by decide))).trans pf3
        have pf4 := (yz61008.1 _ 10 (Or.inr (by decide)) (Or.inr (by decide)) (Or.inr (by decide)) (Or.inr (by decide)) (Or.inr (by decide)) (Or.inr (by decide)) (Or.inr (by decide)) (Or.inr (by decide)) (Or.inr (by decide))).trans pf4
        have pf5 := (yz61008.1 _ 11 (Or.inr (by decide)) (Or.inr (by decide)) (Or.inr (by decide)) (Or.inr (by decide)) (Or.inr (by decide)) (Or.inr (by decide)) (Or.inr (by decide)) (Or.inr (by decide)) (Or.inr (by decide))).trans pf5
        have hfr : ∀ b j : Nat, (tag b ≠ 18 ∨ j ≠ 0) → (tag b ≠ 18 ∨ j ≠ 1) → (tag b ≠ 18 ∨ j ≠ 2) → (tag b ≠ 18 ∨ j ≠ 3) → (tag b ≠ 18 ∨ j ≠ 4) → (tag b ≠ 18 ∨ j ≠ 5) → (tag b ≠ 18 ∨ j ≠ 6) → (tag b ≠ 18 ∨ j ≠ 8) → (tag b ≠ 18 ∨ j ≠ 10) → (tag b ≠ 18 ∨ j ≠ 14) → (tag b ≠ 18 ∨ j ≠ 16) → (tag b ≠ 19 ∨ j ≠ 0) → (tag b ≠ 24 ∨ j ≠ 2) → (tag b ≠ 24 ∨ j ≠ 3) → (tag b ≠ 24 ∨ j ≠ 4) → (tag b ≠ 24 ∨ j ≠ 5) → (tag b ≠ 24 ∨ j ≠ 6) → (tag b ≠ 24 ∨ j ≠ 7) → (tag b ≠ 25 ∨ j ≠ 3) → (tag b ≠ 25 ∨ j ≠ 4) → (tag b ≠ 25 ∨ j ≠ 5) → (tag b ≠ 25 ∨ j ≠ 6) → (tag b ≠ 25 ∨ j ≠ 7) → (tag b ≠ 25 ∨ j ≠ 8) → (tag b ≠ 25 ∨ j ≠ 12) → fld F b j = fld Fo b j := fun b j n18_0 n18_1 n18_2 n18_3 n18_4 n18_5 n18_6 n18_8 n18_10 n18_14 n18_16 n19_0 n24_2 n24_3 n24_4 n24_5 n24_6 n24_7 n25_3 n25_4 n25_5 n25_6 n25_7 n25_8 n25_12 => (yz61008.1 b j n24_2 n24_3 n24_4 n24_5 n24_6 n24_7 n25_3 n25_4 n25_7).trans (hfr b j n18_0 n18_1 n18_2 n18_3 n18_4 n18_5 n18_6 n18_8 n18_10 n18_14 n18_16 n19_0 n24_2 n24_3 n24_4 n24_5 n24_6 n24_7 n25_3 n25_4 n25_5 n25_6 n25_7 n25_8 n25_12)
        have hrel := nsr_of (fun j => yz61008.2 _ j (Or.inl gx4)) (fun j => yz61008.2 _ j (Or.inr gx5)) hrel
        refine lv_goto (tgt := 186) hx hb dX3_readLine_114 (by decide) ?_
        exact t_vret hQ X hT ⟨hfr, hrel⟩ (Nat.le_of_ble_eq_true rfl) (Nat.le_of_ble_eq_true rfl) dX3_readLine_186
      have w61009 := cv_ne (rfl : z60954.toInt = z60954.toInt) (by decide : (2 : Int32).toInt = 2) c61006
      by_cases c61010 : z60954 = 3
      · have w61011 := cv_eq (rfl : z60954.toInt = z60954.toInt) (by decide : (3 : Int32).toInt = 3) c61010
        refine lv_tableIn (off := 71) (tgt := 117) hx hb dX3_readLine_46 (by rw [c61010]; decide) (by rw [c61010]; decide) (by rw [c61010]; decide) (by decide) ?_
        refine lv_aload_n hx hb dX3_readLine_117 rfl (lv_at hl 1 rfl) ?_
        refine t_cVv (n := 0) (C := RX3) (T := TX3) (N := 13) (As := []) (rest := []) X hT (kt138_X3_readStone l G tag L F hT.2.2.2 p0 x0 x1 x2 x3 x4 x5 m0 g0 mx0 gx0 pf0 mx1 gx1 pf1 mx2 gx2 pf2 mx3 gx3 pf3 mx4 gx4 pf4 mx5 gx5 pf5 hrel) m0 g0 rfl rfl qw_352 qw_353 qw_354 qw_28 qw_355 ⟨rfl, by decide +kernel, by decide +kernel, by decide +kernel⟩ ⟨Nat.le_of_ble_eq_true rfl, Nat.le_of_ble_eq_true rfl⟩ hl rfl rfl (Nat.le_of_ble_eq_true rfl) dX3_readLine_118 ⟨Nat.le_of_ble_eq_true rfl, Nat.le_of_ble_eq_true rfl⟩ (fun F H locs hT hz61012 => ?_)
        obtain ⟨yz61012, hrel⟩ := hz61012
        have pf0 := (yz61012 _ 0 (Or.inr (by decide)) (Or.inr (by decide)) (Or.inr (by decide)) (Or.inr (by decide)) (Or.inr (by decide)) (Or.inr (by decide)) (Or.inr (by decide)) (Or.inr (by decide)) (Or.inr (by decide)) (Or.inr (by decide))).trans pf0
        have pf1 := (yz61012 _ 1 (Or.inr (by decide)) (Or.inr (by decide)) (Or.inr (by decide)) (Or.inr (by decide)) (Or.inr (by decide)) (Or.inr (by decide)) (Or.inr (by decide)) (Or.inr (by decide)) (Or.inr (by decide)) (Or.inr (by decide))).trans pf1
        have pf2 := (yz61012 _ 2 (Or.inr (by decide)) (Or.inl (by rw [g0]; decide)) (Or.inr (by decide)) (Or.inr (by decide)) (Or.inr (by decide)) (Or.inr (by decide)) (Or.inr (by decide)) (Or.inr (by decide)) (Or.inr (by decide)) (Or.inr (by decide))).trans pf2
        have pf3 := (yz61012 _ 0 (Or.inr (by decide)) (Or.inr (by decide)) (Or.inr (by decide)) (Or.inr (by decide)) (Or.inr (by decide)) (Or.inr (by decide)) (Or.inr (by decide)) (Or.inr (by decide)) (Or.inr (by decide)) (Or.inr (by decide))).trans pf3
        have pf4 := (yz61012 _ 10 (Or.inr (by decide)) (Or.inr (by decide)) (Or.inr (by decide)) (Or.inr (by decide)) (Or.inr (by decide)) (Or.inr (by decide)) (Or.inr (by decide)) (Or.inr (by decide)) (Or.inr (by decide)) (Or.inr (by decide))).trans pf4
        have pf5 := (yz61012 _ 11 (Or.inr (by decide)) (Or.inr (by decide)) (Or.inr (by decide)) (Or.inr (by decide)) (Or.inr (by decide)) (Or.inr (by decide)) (Or.inr (by decide)) (Or.inr (by decide)) (Or.inr (by decide)) (Or.inr (by decide))).trans pf5
        have hfr : ∀ b j : Nat, (tag b ≠ 18 ∨ j ≠ 0) → (tag b ≠ 18 ∨ j ≠ 1) → (tag b ≠ 18 ∨ j ≠ 2) → (tag b ≠ 18 ∨ j ≠ 3) → (tag b ≠ 18 ∨ j ≠ 4) → (tag b ≠ 18 ∨ j ≠ 5) → (tag b ≠ 18 ∨ j ≠ 6) → (tag b ≠ 18 ∨ j ≠ 8) → (tag b ≠ 18 ∨ j ≠ 10) → (tag b ≠ 18 ∨ j ≠ 14) → (tag b ≠ 18 ∨ j ≠ 16) → (tag b ≠ 19 ∨ j ≠ 0) → (tag b ≠ 24 ∨ j ≠ 2) → (tag b ≠ 24 ∨ j ≠ 3) → (tag b ≠ 24 ∨ j ≠ 4) → (tag b ≠ 24 ∨ j ≠ 5) → (tag b ≠ 24 ∨ j ≠ 6) → (tag b ≠ 24 ∨ j ≠ 7) → (tag b ≠ 25 ∨ j ≠ 3) → (tag b ≠ 25 ∨ j ≠ 4) → (tag b ≠ 25 ∨ j ≠ 5) → (tag b ≠ 25 ∨ j ≠ 6) → (tag b ≠ 25 ∨ j ≠ 7) → (tag b ≠ 25 ∨ j ≠ 8) → (tag b ≠ 25 ∨ j ≠ 12) → fld F b j = fld Fo b j := fun b j n18_0 n18_1 n18_2 n18_3 n18_4 n18_5 n18_6 n18_8 n18_10 n18_14 n18_16 n19_0 n24_2 n24_3 n24_4 n24_5 n24_6 n24_7 n25_3 n25_4 n25_5 n25_6 n25_7 n25_8 n25_12 => (yz61012 b j n18_8 n24_2 n24_3 n24_4 n24_5 n24_6 n24_7 n25_3 n25_4 n25_12).trans (hfr b j n18_0 n18_1 n18_2 n18_3 n18_4 n18_5 n18_6 n18_8 n18_10 n18_14 n18_16 n19_0 n24_2 n24_3 n24_4 n24_5 n24_6 n24_7 n25_3 n25_4 n25_5 n25_6 n25_7 n25_8 n25_12)
        refine lv_goto (tgt := 186) hx hb dX3_readLine_121 (by decide) ?_
        exact t_vret hQ X hT ⟨hfr, hrel⟩ (Nat.le_of_ble_eq_true rfl) (Nat.le_of_ble_eq_true rfl) dX3_readLine_186
      have w61013 := cv_ne (rfl : z60954.toInt = z60954.toInt) (by decide : (3 : Int32).toInt = 3) c61010
      by_cases c61014 : z60954 = 4
      · have w61015 := cv_eq (rfl : z60954.toInt = z60954.toInt) (by decide : (4 : Int32).toInt = 4) c61014
        exfalso
        omega
      have w61016 := cv_ne (rfl : z60954.toInt = z60954.toInt) (by decide : (4 : Int32).toInt = 4) c61014
      by_cases c61017 : z60954 = 5
      · have w61018 := cv_eq (rfl : z60954.toInt = z60954.toInt) (by decide : (5 : Int32).toInt = 5) c61017
        refine lv_tableIn (off := 85) (tgt := 131) hx hb dX3_readLine_46 (by rw [c61017]; decide) (by rw [c61017]; decide) (by rw [c61017]; decide) (by decide) ?_
        refine lv_aload_n hx hb dX3_readLine_131 rfl (lv_at hl 1 rfl) ?_
        refine t_cVv (n := 0) (C := RX3) (T := TX3) (N := 13) (As := []) (rest := []) X hT (kt141_X3_readSkin l G tag L F hT.2.2.2 p0 x0 x1 x2 x3 x4 x5 m0 g0 mx0 gx0 pf0 mx1 gx1 pf1 mx2 gx2 pf2 mx3 gx3 pf3 mx4 gx4 pf4 mx5 gx5 pf5 hrel) m0 g0 rfl rfl qw_397 qw_398 qw_399 qw_28 qw_400 ⟨rfl, by decide +kernel, by decide +kernel, by decide +kernel⟩ ⟨Nat.le_of_ble_eq_true rfl, Nat.le_of_ble_eq_true rfl⟩ hl rfl rfl (Nat.le_of_ble_eq_true rfl) dX3_readLine_132 ⟨Nat.le_of_ble_eq_true rfl, Nat.le_of_ble_eq_true rfl⟩ (fun F H locs hT hz61019 => ?_)
        obtain ⟨yz61019, hrel⟩ := hz61019
        have pf0 := (yz61019.1 _ 0 (Or.inr (by decide)) (Or.inr (by decide)) (Or.inr (by decide)) (Or.inr (by decide)) (Or.inr (by decide)) (Or.inr (by decide)) (Or.inr (by decide)) (Or.inr (by decide))).trans pf0
        have pf1 := (yz61019.1 _ 1 (Or.inr (by decide)) (Or.inr (by decide)) (Or.inr (by decide)) (Or.inr (by decide)) (Or.inr (by decide)) (Or.inr (by decide)) (Or.inr (by decide)) (Or.inr (by decide))).trans pf1
        have pf2 := (yz61019.1 _ 2 (Or.inl (by rw [g0]; decide)) (Or.inr (by decide)) (Or.inr (by decide)) (Or.inr (by decide)) (Or.inr (by decide)) (Or.inr (by decide)) (Or.inr (by decide)) (Or.inr (by decide))).trans pf2
        have pf3 := (yz61019.1 _ 0 (Or.inr (by decide)) (Or.inr (by decide)) (Or.inr (by decide)) (Or.inr (by decide)) (Or.inr (by decide)) (Or.inr (by decide)) (Or.inr (by decide)) (Or.inr (by decide))).trans pf3
        have pf4 := (yz61019.1 _ 10 (Or.inr (by decide)) (Or.inr (by decide)) (Or.inr (by decide)) (Or.inr (by decide)) (Or.inr (by decide)) (Or.inr (by decide)) (Or.inr (by decide)) (Or.inr (by decide))).trans pf4
        have pf5 := (yz61019.1 _ 11 (Or.inr (by decide)) (Or.inr (by decide)) (Or.inr (by decide)) (Or.inr (by decide)) (Or.inr (by decide)) (Or.inr (by decide)) (Or.inr (by decide)) (Or.inr (by decide))).trans pf5
        have hfr : ∀ b j : Nat, (tag b ≠ 18 ∨ j ≠ 0) → (tag b ≠ 18 ∨ j ≠ 1) → (tag b ≠ 18 ∨ j ≠ 2) → (tag b ≠ 18 ∨ j ≠ 3) → (tag b ≠ 18 ∨ j ≠ 4) → (tag b ≠ 18 ∨ j ≠ 5) → (tag b ≠ 18 ∨ j ≠ 6) → (tag b ≠ 18 ∨ j ≠ 8) → (tag b ≠ 18 ∨ j ≠ 10) → (tag b ≠ 18 ∨ j ≠ 14) → (tag b ≠ 18 ∨ j ≠ 16) → (tag b ≠ 19 ∨ j ≠ 0) → (tag b ≠ 24 ∨ j ≠ 2) → (tag b ≠ 24 ∨ j ≠ 3) → (tag b ≠ 24 ∨ j ≠ 4) → (tag b ≠ 24 ∨ j ≠ 5) → (tag b ≠ 24 ∨ j ≠ 6) → (tag b ≠ 24 ∨ j ≠ 7) → (tag b ≠ 25 ∨ j ≠ 3) → (tag b ≠ 25 ∨ j ≠ 4) → (tag b ≠ 25 ∨ j ≠ 5) → (tag b ≠ 25 ∨ j ≠ 6) → (tag b ≠ 25 ∨ j ≠ 7) → (tag b ≠ 25 ∨ j ≠ 8) → (tag b ≠ 25 ∨ j ≠ 12) → fld F b j = fld Fo b j := fun b j n18_0 n18_1 n18_2 n18_3 n18_4 n18_5 n18_6 n18_8 n18_10 n18_14 n18_16 n19_0 n24_2 n24_3 n24_4 n24_5 n24_6 n24_7 n25_3 n25_4 n25_5 n25_6 n25_7 n25_8 n25_12 => (yz61019.1 b j n24_2 n24_3 n24_4 n24_5 n24_6 n24_7 n25_3 n25_4).trans (hfr b j n18_0 n18_1 n18_2 n18_3 n18_4 n18_5 n18_6 n18_8 n18_10 n18_14 n18_16 n19_0 n24_2 n24_3 n24_4 n24_5 n24_6 n24_7 n25_3 n25_4 n25_5 n25_6 n25_7 n25_8 n25_12)
        refine lv_goto (tgt := 186) hx hb dX3_readLine_135 (by decide) ?_
        exact t_vret hQ X hT ⟨hfr, hrel⟩ (Nat.le_of_ble_eq_true rfl) (Nat.le_of_ble_eq_true rfl) dX3_readLine_186
      have w61020 := cv_ne (rfl : z60954.toInt = z60954.toInt) (by decide : (5 : Int32).toInt = 5) c61017
      by_cases c61021 : z60954 = 6
      · have w61022 := cv_eq (rfl : z60954.toInt = z60954.toInt) (by decide : (6 : Int32).toInt = 6) c61021
        refine lv_tableIn (off := 92) (tgt := 138) hx hb dX3_readLine_46 (by rw [c61021]; decide) (by rw [c61021]; decide) (by rw [c61021]; decide) (by decide) ?_
        refine lv_aload_n hx hb dX3_readLine_138 rfl (lv_at hl 1 rfl) ?_
        refine t_cVv (n := 0) (C := RX3) (T := TX3) (N := 13) (As := []) (rest := []) X hT (kt143_X3_readHeir l G tag L F hT.2.2.2 p0 x0 x1 x2 x3 x4 x5 m0 g0 mx0 gx0 pf0 mx1 gx1 pf1 mx2 gx2 pf2 mx3 gx3 pf3 mx4 gx4 pf4 mx5 gx5 pf5 hrel) m0 g0 rfl rfl qw_426 qw_427 qw_428 qw_28 qw_429 ⟨rfl, by decide +kernel, by decide +kernel, by decide +kernel⟩ ⟨Nat.le_of_ble_eq_true rfl, Nat.le_of_ble_eq_true rfl⟩ hl rfl rfl (Nat.le_of_ble_eq_true rfl) dX3_readLine_139 ⟨Nat.le_of_ble_eq_true rfl, Nat.le_of_ble_eq_true rfl⟩ (fun F H locs hT hz61023 => ?_)
        obtain ⟨yz61023, hrel⟩ := hz61023
        have pf0 := (yz61023 _ 0 (Or.inr (by decide)) (Or.inr (by decide)) (Or.inr (by decide)) (Or.inr (by decide)) (Or.inr (by decide)) (Or.inr (by decide)) (Or.inr (by decide)) (Or.inr (by decide)) (Or.inr (by decide)) (Or.inr (by decide))).trans pf0
        have pf1 := (yz61023 _ 1 (Or.inr (by decide)) (Or.inr (by decide)) (Or.inr (by decide)) (Or.inr (by decide)) (Or.inr (by decide)) (Or.inr (by decide)) (Or.inr (by decide)) (Or.inr (by decide)) (Or.inr (by decide)) (Or.inr (by decide))).trans pf1
        have pf2 := (yz61023 _ 2 (Or.inr (by decide)) (Or.inl (by rw [g0]; decide)) (Or.inr (by decide)) (Or.inr (by decide)) (Or.inr (by decide)) (Or.inr (by decide)) (Or.inr (by decide)) (Or.inr (by decide)) (Or.inr (by decide)) (Or.inr (by decide))).trans pf2
        have pf3 := (yz61023 _ 0 (Or.inr (by decide)) (Or.inr (by decide)) (Or.inr (by decide)) (Or.inr (by decide)) (Or.inr (by decide)) (Or.inr (by decide)) (Or.inr (by decide)) (Or.inr (by decide)) (Or.inr (by decide)) (Or.inr (by decide))).trans pf3
        have pf4 := (yz61023 _ 10 (Or.inr (by decide)) (Or.inr (by decide)) (Or.inr (by decide)) (Or.inr (by decide)) (Or.inr (by decide)) (Or.inr (by decide)) (Or.inr (by decide)) (Or.inr (by decide)) (Or.inr (by decide)) (Or.inr (by decide))).trans pf4
        have pf5 := (yz61023 _ 11 (Or.inr (by decide)) (Or.inr (by decide)) (Or.inr (by decide)) (Or.inr (by decide)) (Or.inr (by decide)) (Or.inr (by decide)) (Or.inr (by decide)) (Or.inr (by decide)) (Or.inr (by decide)) (Or.inr (by decide))).trans pf5
        have hfr : ∀ b j : Nat, (tag b ≠ 18 ∨ j ≠ 0) → (tag b ≠ 18 ∨ j ≠ 1) → (tag b ≠ 18 ∨ j ≠ 2) → (tag b ≠ 18 ∨ j ≠ 3) → (tag b ≠ 18 ∨ j ≠ 4) → (tag b ≠ 18 ∨ j ≠ 5) → (tag b ≠ 18 ∨ j ≠ 6) → (tag b ≠ 18 ∨ j ≠ 8) → (tag b ≠ 18 ∨ j ≠ 10) → (tag b ≠ 18 ∨ j ≠ 14) → (tag b ≠ 18 ∨ j ≠ 16) → (tag b ≠ 19 ∨ j ≠ 0) → (tag b ≠ 24 ∨ j ≠ 2) → (tag b ≠ 24 ∨ j ≠ 3) → (tag b ≠ 24 ∨ j ≠ 4) → (tag b ≠ 24 ∨ j ≠ 5) → (tag b ≠ 24 ∨ j ≠ 6) → (tag b ≠ 24 ∨ j ≠ 7) → (tag b ≠ 25 ∨ j ≠ 3) → (tag b ≠ 25 ∨ j ≠ 4) → (tag b ≠ 25 ∨ j ≠ 5) → (tag b ≠ 25 ∨ j ≠ 6) → (tag b ≠ 25 ∨ j ≠ 7) → (tag b ≠ 25 ∨ j ≠ 8) → (tag b ≠ 25 ∨ j ≠ 12) → fld F b j = fld Fo b j := fun b j n18_0 n18_1 n18_2 n18_3 n18_4 n18_5 n18_6 n18_8 n18_10 n18_14 n18_16 n19_0 n24_2 n24_3 n24_4 n24_5 n24_6 n24_7 n25_3 n25_4 n25_5 n25_6 n25_7 n25_8 n25_12 => (yz61023 b j n18_14 n24_2 n24_3 n24_4 n24_5 n24_6 n24_7 n25_3 n25_4 n25_12).trans (hfr b j n18_0 n18_1 n18_2 n18_3 n18_4 n18_5 n18_6 n18_8 n18_10 n18_14 n18_16 n19_0 n24_2 n24_3 n24_4 n24_5 n24_6 n24_7 n25_3 n25_4 n25_5 n25_6 n25_7 n25_8 n25_12)
        refine lv_goto (tgt := 186) hx hb dX3_readLine_142 (by decide) ?_
        exact t_vret hQ X hT ⟨hfr, hrel⟩ (Nat.le_of_ble_eq_true rfl) (Nat.le_of_ble_eq_true rfl) dX3_readLine_186
      have w61024 := cv_ne (rfl : z60954.toInt = z60954.toInt) (by decide : (6 : Int32).toInt = 6) c61021
      by_cases c61025 : z60954 = 7
      · have w61026 := cv_eq (rfl : z60954.toInt = z60954.toInt) (by decide : (7 : Int32).toInt = 7) c61025
        exfalso
        omega
      have w61027 := cv_ne (rfl : z60954.toInt = z60954.toInt) (by decide : (7 : Int32).toInt = 7) c61025
      by_cases c61028 : z60954 = 8
      · have w61029 := cv_eq (rfl : z60954.toInt = z60954.toInt) (by decide : (8 : Int32).toInt = 8) c61028
        refine lv_tableIn (off := 106) (tgt := 152) hx hb dX3_readLine_46 (by rw [c61028]; decide) (by rw [c61028]; decide) (by rw [c61028]; decide) (by decide) ?_
        refine lv_aload_n hx hb dX3_readLine_152 rfl (lv_at hl 1 rfl) ?_
        refine t_cVv (n := 0) (C := RX3) (T := TX3) (N := 13) (As := []) (rest := []) X hT (kt145_X3_readOlder l G tag L F hT.2.2.2 p0 x0 x1 x2 x3 x4 x5 m0 g0 mx0 gx0 pf0 mx1 gx1 pf1 mx2 gx2 pf2 mx3 gx3 pf3 mx4 gx4 pf4 mx5 gx5 pf5 hrel) m0 g0 rfl rfl qw_436 qw_437 qw_438 qw_28 qw_439 ⟨rfl, by decide +kernel, by decide +kernel, by decide +kernel⟩ ⟨Nat.le_of_ble_eq_true rfl, Nat.le_of_ble_eq_true rfl⟩ hl rfl rfl (Nat.le_of_ble_eq_true rfl) dX3_readLine_153 ⟨Nat.le_of_ble_eq_true rfl, Nat.le_of_ble_eq_true rfl⟩ (fun F H locs hT hz61030 => ?_)
        obtain ⟨yz61030, hrel⟩ := hz61030
        have pf0 := (yz61030.1 _ 0 (Or.inr (by decide)) (Or.inr (by decide)) (Or.inr (by decide)) (Or.inr (by decide)) (Or.inr (by decide)) (Or.inr (by decide)) (Or.inr (by decide)) (Or.inr (by decide)) (Or.inr (by decide))).trans pf0
        have pf1 := (yz61030.1 _ 1 (Or.inr (by decide)) (Or.inr (by decide)) (Or.inr (by decide)) (Or.inr (by decide)) (Or.inr (by decide)) (Or.inr (by decide)) (Or.inr (by decide)) (Or.inr (by decide)) (Or.inr (by decide))).trans pf1
        have pf2 := (yz61030.1 _ 2 (Or.inl (by rw [g0]; decide)) (Or.inr (by decide)) (Or.inr (by decide)) (Or.inr (by decide)) (Or.inr (by decide)) (Or.inr (by decide)) (Or.inr (by decide)) (Or.inr (by decide)) (Or.inr (by decide))).trans pf2
        have pf3 := (yz61030.1 _ 0 (Or.inr (by decide)) (Or.inr (by decide)) (Or.inr (by decide)) (Or.inr (by decide)) (Or.inr (by decide)) (Or.inr (by decide)) (Or.inr (by decide)) (Or.inr (by decide)) (Or.inr (by decide))).trans pf3
        have pf4 := (yz61030.1 _ 10 (Or.inr (by decide)) (Or.inr (by decide)) (Or.inr (by decide)) (Or.inr (by decide)) (Or.inr (by decide)) (Or.inr (by decide)) (Or.inr (by decide)) (Or.inr (by decide)) (Or.inr (by decide))).trans pf4
        have pf5 := (yz61030.1 _ 11 (Or.inr (by decide)) (Or.inr (by decide)) (Or.inr (by decide)) (Or.inr (by decide)) (Or.inr (by decide)) (Or.inr (by decide)) (Or.inr (by decide)) (Or.inr (by decide)) (Or.inr (by decide))).trans pf5
        have hfr : ∀ b j : Nat, (tag b ≠ 18 ∨ j ≠ 0) → (tag b ≠ 18 ∨ j ≠ 1) → (tag b ≠ 18 ∨ j ≠ 2) → (tag b ≠ 18 ∨ j ≠ 3) → (tag b ≠ 18 ∨ j ≠ 4) → (tag b ≠ 18 ∨ j ≠ 5) → (tag b ≠ 18 ∨ j ≠ 6) → (tag b ≠ 18 ∨ j ≠ 8) → (tag b ≠ 18 ∨ j ≠ 10) → (tag b ≠ 18 ∨ j ≠ 14) → (tag b ≠ 18 ∨ j ≠ 16) → (tag b ≠ 19 ∨ j ≠ 0) → (tag b ≠ 24 ∨ j ≠ 2) → (tag b ≠ 24 ∨ j ≠ 3) → (tag b ≠ 24 ∨ j ≠ 4) → (tag b ≠ 24 ∨ j ≠ 5) → (tag b ≠ 24 ∨ j ≠ 6) → (tag b ≠ 24 ∨ j ≠ 7) → (tag b ≠ 25 ∨ j ≠ 3) → (tag b ≠ 25 ∨ j ≠ 4) → (tag b ≠ 25 ∨ j ≠ 5) → (tag b ≠ 25 ∨ j ≠ 6) → (tag b ≠ 25 ∨ j ≠ 7) → (tag b ≠ 25 ∨ j ≠ 8) → (tag b ≠ 25 ∨ j ≠ 12) → fld F b j = fld Fo b j := fun b j n18_0 n18_1 n18_2 n18_3 n18_4 n18_5 n18_6 n18_8 n18_10 n18_14 n18_16 n19_0 n24_2 n24_3 n24_4 n24_5 n24_6 n24_7 n25_3 n25_4 n25_5 n25_6 n25_7 n25_8 n25_12 => (yz61030.1 b j n24_2 n24_3 n24_4 n24_5 n24_6 n24_7 n25_3 n25_4 n25_8).trans (hfr b j n18_0 n18_1 n18_2 n18_3 n18_4 n18_5 n18_6 n18_8 n18_10 n18_14 n18_16 n19_0 n24_2 n24_3 n24_4 n24_5 n24_6 n24_7 n25_3 n25_4 n25_5 n25_6 n25_7 n25_8 n25_12)
        refine lv_goto (tgt := 186) hx hb dX3_readLine_156 (by decide) ?_
        exact t_vret hQ X hT ⟨hfr, hrel⟩ (Nat.le_of_ble_eq_true rfl) (Nat.le_of_ble_eq_true rfl) dX3_readLine_186
      have w61031 := cv_ne (rfl : z60954.toInt = z60954.toInt) (by decide : (8 : Int32).toInt = 8) c61028
      refine lv_tableOut (tgt := 159) hx hb dX3_readLine_46 (by omega) (by decide) ?_
      refine lv_aload_n hx hb dX3_readLine_159 rfl (lv_at hl 1 rfl) ?_
      refine lv_iload_n hx hb dX3_readLine_160 rfl (lv_at hl 0 rfl) ?_
      refine lv_bipush (v := 9) hx hb dX3_readLine_161 (by decide) ?_
      refine lv_icmp_ne (tgt := 176) hx hb dX3_readLine_163 (by decide) (fun c61032 => ?_) (fun c61032 => ?_)
      · have w61033 := cv_ne (rfl : z60954.toInt = z60954.toInt) (by decide : (9 : Int32).toInt = 9) c61032
        refine lv_aload_n hx hb dX3_readLine_176 rfl (lv_at hl 1 rfl) ?_
        refine t_get (C := RX3) (T := TX3) (N := 13) X hT m0 g0 rfl rfl 1 (by decide) qw_161 inlX3 rfl dX3_readLine_177 (fun v61034 hv61034 ov61034 => ?_)
        obtain rfl : v61034 = .ref x1 := hv61034.symm.trans pf1
        refine t_get (C := RX1) (T := TX1) (N := 20) X hT mx1 gx1 rfl rfl 19 (by decide) qw_229 inlX1 rfl dX3_readLine_180 (fun v61035 hv61035 ov61035 => ?_)
        obtain ⟨b61036, rfl, mb61036, gb61036⟩ := okV_r ov61035
        have gb61036 : tag b61036 = 7 := tg_of gb61036
        refine t_cVv (n := 1) (C := RX3) (T := TX3) (N := 13) (As := [.ref b61036]) (rest := []) X hT (kt146_X3_readYearOfWall l G tag L F hT.2.2.2 p0 b61036 x0 x1 x2 x3 x4 x5 m0 g0 mb61036 gb61036 mx0 gx0 pf0 mx1 gx1 pf1 mx2 gx2 pf2 mx3 gx3 pf3 mx4 gx4 pf4 mx5 gx5 pf5 hrel) m0 g0 rfl rfl qw_445 qw_446 qw_447 qw_28 qw_448 ⟨rfl, by decide +kernel, by decide +kernel, by decide +kernel⟩ ⟨Nat.le_of_ble_eq_true rfl, Nat.le_of_ble_eq_true rfl⟩ hl rfl rfl (Nat.le_of_ble_eq_true rfl) dX3_readLine_183 ⟨Nat.le_of_ble_eq_true rfl, Nat.le_of_ble_eq_true rfl⟩ (fun F H locs hT hz61037 => ?_)
        obtain ⟨yz61037, hrel⟩ := hz61037
        have pf0 := (yz61037.1 _ 0 (Or.inr (by decide)) (Or.inr (by decide)) (Or.inr (by decide)) (Or.inr (by decide)) (Or.inr (by decide)) (Or.inr (by decide)) (Or.inr (by decide)) (Or.inr (by decide))).trans pf0
        have pf1 := (yz61037.1 _ 1 (Or.inr (by decide)) (Or.inr (by decide)) (Or.inr (by decide)) (Or.inr (by decide)) (Or.inr (by decide)) (Or.inr (by decide)) (Or.inr (by decide)) (Or.inr (by decide))).trans pf1
        have pf2 := (yz61037.1 _ 2 (Or.inl (by rw [g0]; decide)) (Or.inr (by decide)) (Or.inr (by decide)) (Or.inr (by decide)) (Or.inr (by decide)) (Or.inr (by decide)) (Or.inr (by decide)) (Or.inr (by decide))).trans pf2
        have pf3 := (yz61037.1 _ 0 (Or.inr (by decide)) (Or.inr (by decide)) (Or.inr (by decide)) (Or.inr (by decide)) (Or.inr (by decide)) (Or.inr (by decide)) (Or.inr (by decide)) (Or.inr (by decide))).trans pf3
        have pf4 := (yz61037.1 _ 10 (Or.inr (by decide)) (Or.inr (by decide)) (Or.inr (by decide)) (Or.inr (by decide)) (Or.inr (by decide)) (Or.inr (by decide)) (Or.inr (by decide)) (Or.inr (by decide))).trans pf4
        have pf5 := (yz61037.1 _ 11 (Or.inr (by decide)) (Or.inr (by decide)) (Or.inr (by decide)) (Or.inr (by decide)) (Or.inr (by decide)) (Or.inr (by decide)) (Or.inr (by decide)) (Or.inr (by decide))).trans pf5
        have hv61035 := (yz61037.1 _ 19 (Or.inr (by decide)) (Or.inr (by decide)) (Or.inr (by decide)) (Or.inr (by decide)) (Or.inr (by decide)) (Or.inr (by decide)) (Or.inr (by decide)) (Or.inr (by decide))).trans hv61035
        have hfr : ∀ b j : Nat, (tag b ≠ 18 ∨ j ≠ 0) → (tag b ≠ 18 ∨ j ≠ 1) → (tag b ≠ 18 ∨ j ≠ 2) → (tag b ≠ 18 ∨ j ≠ 3) → (tag b ≠ 18 ∨ j ≠ 4) → (tag b ≠ 18 ∨ j ≠ 5) → (tag b ≠ 18 ∨ j ≠ 6) → (tag b ≠ 18 ∨ j ≠ 8) → (tag b ≠ 18 ∨ j ≠ 10) → (tag b ≠ 18 ∨ j ≠ 14) → (tag b ≠ 18 ∨ j ≠ 16) → (tag b ≠ 19 ∨ j ≠ 0) → (tag b ≠ 24 ∨ j ≠ 2) → (tag b ≠ 24 ∨ j ≠ 3) → (tag b ≠ 24 ∨ j ≠ 4) → (tag b ≠ 24 ∨ j ≠ 5) → (tag b ≠ 24 ∨ j ≠ 6) → (tag b ≠ 24 ∨ j ≠ 7) → (tag b ≠ 25 ∨ j ≠ 3) → (tag b ≠ 25 ∨ j ≠ 4) → (tag b ≠ 25 ∨ j ≠ 5) → (tag b ≠ 25 ∨ j ≠ 6) → (tag b ≠ 25 ∨ j ≠ 7) → (tag b ≠ 25 ∨ j ≠ 8) → (tag b ≠ 25 ∨ j ≠ 12) → fld F b j = fld Fo b j := fun b j n18_0 n18_1 n18_2 n18_3 n18_4 n18_5 n18_6 n18_8 n18_10 n18_14 n18_16 n19_0 n24_2 n24_3 n24_4 n24_5 n24_6 n24_7 n25_3 n25_4 n25_5 n25_6 n25_7 n25_8 n25_12 => (yz61037.1 b j n24_2 n24_3 n24_4 n24_5 n24_6 n24_7 n25_3 n25_4).trans (hfr b j n18_0 n18_1 n18_2 n18_3 n18_4 n18_5 n18_6 n18_8 n18_10 n18_14 n18_16 n19_0 n24_2 n24_3 n24_4 n24_5 n24_6 n24_7 n25_3 n25_4 n25_5 n25_6 n25_7 n25_8 n25_12)
        exact t_vret hQ X hT ⟨hfr, hrel⟩ (Nat.le_of_ble_eq_true rfl) (Nat.le_of_ble_eq_true rfl) dX3_readLine_186
      · have w61038 := cv_eq (rfl : z60954.toInt = z60954.toInt) (by decide : (9 : Int32).toInt = 9) c61032
        refine lv_aload_n hx hb dX3_readLine_166 rfl (lv_at hl 1 rfl) ?_
        refine t_get (C := RX3) (T := TX3) (N := 13) X hT m0 g0 rfl rfl 1 (by decide) qw_161 inlX3 rfl dX3_readLine_167 (fun v61039 hv61039 ov61039 => ?_)
        obtain rfl : v61039 = .ref x1 := hv61039.symm.trans pf1
        refine t_get (C := RX1) (T := TX1) (N := 20) X hT mx1 gx1 rfl rfl 18 (by decide) qw_228 inlX1 rfl dX3_readLine_170 (fun v61040 hv61040 ov61040 => ?_)
        obtain ⟨b61041, rfl, mb61041, gb61041⟩ := okV_r ov61040
        have gb61041 : tag b61041 = 7 := tg_of gb61041
        refine lv_goto (tgt := 183) hx hb dX3_readLine_173 (by decide) ?_
        refine t_cVv (n := 1) (C := RX3) (T := TX3) (N := 13) (As := [.ref b61041]) (rest := []) X hT (kt146_X3_readYearOfWall l G tag L F hT.2.2.2 p0 b61041 x0 x1 x2 x3 x4 x5 m0 g0 mb61041 gb61041 mx0 gx0 pf0 mx1 gx1 pf1 mx2 gx2 pf2 mx3 gx3 pf3 mx4 gx4 pf4 mx5 gx5 pf5 hrel) m0 g0 rfl rfl qw_445 qw_446 qw_447 qw_28 qw_448 ⟨rfl, by decide +kernel, by decide +kernel, by decide +kernel⟩ ⟨Nat.le_of_ble_eq_true rfl, Nat.le_of_ble_eq_true rfl⟩ hl rfl rfl (Nat.le_of_ble_eq_true rfl) dX3_readLine_183 ⟨Nat.le_of_ble_eq_true rfl, Nat.le_of_ble_eq_true rfl⟩ (fun F H locs hT hz61042 => ?_)
        obtain ⟨yz61042, hrel⟩ := hz61042
        have pf0 := (yz61042.1 _ 0 (Or.inr (by decide)) (Or.inr (by decide)) (Or.inr (by decide)) (Or.inr (by decide)) (Or.inr (by decide)) (Or.inr (by decide)) (Or.inr (by decide)) (Or.inr (by decide))).trans pf0
        have pf1 := (yz61042.1 _ 1 (Or.inr (by decide)) (Or.inr (by decide)) (Or.inr (by decide)) (Or.inr (by decide)) (Or.inr (by decide)) (Or.inr (by decide)) (Or.inr (by decide)) (Or.inr (by decide))).trans pf1
        have pf2 := (yz61042.1 _ 2 (Or.inl (by rw [g0]; decide)) (Or.inr (by decide)) (Or.inr (by decide)) (Or.inr (by decide)) (Or.inr (by decide)) (Or.inr (by decide)) (Or.inr (by decide)) (Or.inr (by decide))).trans pf2
        have pf3 := (yz61042.1 _ 0 (Or.inr (by decide)) (Or.inr (by decide)) (Or.inr (by decide)) (Or.inr (by decide)) (Or.inr (by decide)) (Or.inr (by decide)) (Or.inr (by decide)) (Or.inr (by decide))).trans pf3
        have pf4 := (yz61042.1 _ 10 (Or.inr (by decide)) (Or.inr (by decide)) (Or.inr (by decide)) (Or.inr (by decide)) (Or.inr (by decide)) (Or.inr (by decide)) (Or.inr (by decide)) (Or.inr (by decide))).trans pf4
        have pf5 := (yz61042.1 _ 11 (Or.inr (by decide)) (Or.inr (by decide)) (Or.inr (by decide)) (Or.inr (by decide)) (Or.inr (by decide)) (Or.inr (by decide)) (Or.inr (by decide)) (Or.inr (by decide))).trans pf5
        have hv61040 := (yz61042.1 _ 18 (Or.inr (by decide)) (Or.inr (by decide)) (Or.inr (by decide)) (Or.inr (by decide)) (Or.inr (by decide)) (Or.inr (by decide)) (Or.inr (by decide)) (Or.inr (by decide))).trans hv61040
        have hfr : ∀ b j : Nat, (tag b ≠ 18 ∨ j ≠ 0) → (tag b ≠ 18 ∨ j ≠ 1) → (tag b ≠ 18 ∨ j ≠ 2) → (tag b ≠ 18 ∨ j ≠ 3) → (tag b ≠ 18 ∨ j ≠ 4) → (tag b ≠ 18 ∨ j ≠ 5) → (tag b ≠ 18 ∨ j ≠ 6) → (tag b ≠ 18 ∨ j ≠ 8) → (tag b ≠ 18 ∨ j ≠ 10) → (tag b ≠ 18 ∨ j ≠ 14) → (tag b ≠ 18 ∨ j ≠ 16) → (tag b ≠ 19 ∨ j ≠ 0) → (tag b ≠ 24 ∨ j ≠ 2) → (tag b ≠ 24 ∨ j ≠ 3) → (tag b ≠ 24 ∨ j ≠ 4) → (tag b ≠ 24 ∨ j ≠ 5) → (tag b ≠ 24 ∨ j ≠ 6) → (tag b ≠ 24 ∨ j ≠ 7) → (tag b ≠ 25 ∨ j ≠ 3) → (tag b ≠ 25 ∨ j ≠ 4) → (tag b ≠ 25 ∨ j ≠ 5) → (tag b ≠ 25 ∨ j ≠ 6) → (tag b ≠ 25 ∨ j ≠ 7) → (tag b ≠ 25 ∨ j ≠ 8) → (tag b ≠ 25 ∨ j ≠ 12) → fld F b j = fld Fo b j := fun b j n18_0 n18_1 n18_2 n18_3 n18_4 n18_5 n18_6 n18_8 n18_10 n18_14 n18_16 n19_0 n24_2 n24_3 n24_4 n24_5 n24_6 n24_7 n25_3 n25_4 n25_5 n25_6 n25_7 n25_8 n25_12 => (yz61042.1 b j n24_2 n24_3 n24_4 n24_5 n24_6 n24_7 n25_3 n25_4).trans (hfr b j n18_0 n18_1 n18_2 n18_3 n18_4 n18_5 n18_6 n18_8 n18_10 n18_14 n18_16 n19_0 n24_2 n24_3 n24_4 n24_5 n24_6 n24_7 n25_3 n25_4 n25_5 n25_6 n25_7 n25_8 n25_12)
        exact t_vret hQ X hT ⟨hfr, hrel⟩ (Nat.le_of_ble_eq_true rfl) (Nat.le_of_ble_eq_true rfl) dX3_readLine_186
    · have w61043 := cv_ne (rfl : z60993.toInt = z60993.toInt) (by decide : (0 : Int32).toInt = 0) c60994
      exact t_vret hQ X hT ⟨hfr, hrel⟩ (Nat.le_of_ble_eq_true rfl) (Nat.le_of_ble_eq_true rfl) dX3_readLine_37
  · have w61044 := cv_eq (rfl : z60954.toInt = z60954.toInt) (by decide : ((-1) : Int32).toInt = (-1)) c60955
    refine lv_aload_n hx hb dX3_readLine_10 rfl (lv_at hl 1 rfl) ?_
    refine lv_iconst (v := 1) hx hb dX3_readLine_11 (by decide) ?_
    refine lv_aload_n hx hb dX3_readLine_12 rfl (lv_at hl 1 rfl) ?_
    refine t_get (C := RX3) (T := TX3) (N := 13) X hT m0 g0 rfl rfl 0 (by decide) qw_73 inlX3 rfl dX3_readLine_13 (fun v61045 hv61045 ov61045 => ?_)
    obtain rfl : v61045 = .ref x0 := hv61045.symm.trans pf0
    refine t_get (C := RX8) (T := TX8) (N := 8) X hT mx0 gx0 rfl rfl 4 (by decide) qw_227 inlX8 rfl dX3_readLine_16 (fun v61046 hv61046 ov61046 => ?_)
    obtain ⟨z61047, rfl, rz61047⟩ := okV_i ov61046
    refine t_cVv (n := 2) (C := RX3) (T := TX3) (N := 13) (As := [.int 1, .int z61047]) (rest := []) X hT (kt111_X3_fail l G tag L F hT.2.2.2 p0 1 z61047 m0 g0 (by decide)) m0 g0 rfl rfl qw_287 qw_288 qw_289 qw_28 qw_290 ⟨rfl, by decide +kernel, by decide +kernel, by decide +kernel⟩ ⟨Nat.le_of_ble_eq_true rfl, Nat.le_of_ble_eq_true rfl⟩ hl rfl rfl (Nat.le_of_ble_eq_true rfl) dX3_readLine_19 ⟨Nat.le_of_ble_eq_true rfl, Nat.le_of_ble_eq_true rfl⟩ (fun F H locs hT hz61048 => ?_)
    obtain ⟨yz61048, xz61048_0⟩ := hz61048
    have pf0 := (yz61048.1 _ 0 (Or.inr (by decide)) (Or.inr (by decide))).trans pf0
    have pf1 := (yz61048.1 _ 1 (Or.inr (by decide)) (Or.inr (by decide))).trans pf1
    have pf2 := (yz61048.1 _ 2 (Or.inr (by decide)) (Or.inr (by decide))).trans pf2
    have pf3 := (yz61048.1 _ 0 (Or.inr (by decide)) (Or.inr (by decide))).trans pf3
    have pf4 := (yz61048.1 _ 10 (Or.inr (by decide)) (Or.inr (by decide))).trans pf4
    have pf5 := (yz61048.1 _ 11 (Or.inr (by decide)) (Or.inr (by decide))).trans pf5
    have hv61046 := (yz61048.1 _ 4 (Or.inr (by decide)) (Or.inl (by rw [gx0]; decide))).trans hv61046
    have hfr : ∀ b j : Nat, (tag b ≠ 18 ∨ j ≠ 0) → (tag b ≠ 18 ∨ j ≠ 1) → (tag b ≠ 18 ∨ j ≠ 2) → (tag b ≠ 18 ∨ j ≠ 3) → (tag b ≠ 18 ∨ j ≠ 4) → (tag b ≠ 18 ∨ j ≠ 5) → (tag b ≠ 18 ∨ j ≠ 6) → (tag b ≠ 18 ∨ j ≠ 8) → (tag b ≠ 18 ∨ j ≠ 10) → (tag b ≠ 18 ∨ j ≠ 14) → (tag b ≠ 18 ∨ j ≠ 16) → (tag b ≠ 19 ∨ j ≠ 0) → (tag b ≠ 24 ∨ j ≠ 2) → (tag b ≠ 24 ∨ j ≠ 3) → (tag b ≠ 24 ∨ j ≠ 4) → (tag b ≠ 24 ∨ j ≠ 5) → (tag b ≠ 24 ∨ j ≠ 6) → (tag b ≠ 24 ∨ j ≠ 7) → (tag b ≠ 25 ∨ j ≠ 3) → (tag b ≠ 25 ∨ j ≠ 4) → (tag b ≠ 25 ∨ j ≠ 5) → (tag b ≠ 25 ∨ j ≠ 6) → (tag b ≠ 25 ∨ j ≠ 7) → (tag b ≠ 25 ∨ j ≠ 8) → (tag b ≠ 25 ∨ j ≠ 12) → fld F b j = fld Fo b j := fun b j n18_0 n18_1 n18_2 n18_3 n18_4 n18_5 n18_6 n18_8 n18_10 n18_14 n18_16 n19_0 n24_2 n24_3 n24_4 n24_5 n24_6 n24_7 n25_3 n25_4 n25_5 n25_6 n25_7 n25_8 n25_12 => (yz61048.1 b j n25_3 n25_4).trans (hfr b j n18_0 n18_1 n18_2 n18_3 n18_4 n18_5 n18_6 n18_8 n18_10 n18_14 n18_16 n19_0 n24_2 n24_3 n24_4 n24_5 n24_6 n24_7 n25_3 n25_4 n25_5 n25_6 n25_7 n25_8 n25_12)
    have hrel := nsr_of (fun j => yz61048.2 _ j (Or.inl gx4)) (fun j => yz61048.2 _ j (Or.inr gx5)) hrel
    obtain ⟨z61049, qz61049, rz61049⟩ := xz61048_0
    refine lv_goto (tgt := 30) hx hb dX3_readLine_22 (by decide) ?_
    refine lv_aload_n hx hb dX3_readLine_30 rfl (lv_at hl 1 rfl) ?_
    refine t_get (C := RX3) (T := TX3) (N := 13) X hT m0 g0 rfl rfl 3 (by decide) qw_163 inlX3 rfl dX3_readLine_31 (fun v61050 hv61050 ov61050 => ?_)
    obtain rfl : v61050 = .int z61049 := hv61050.symm.trans qz61049
    refine lv_if_eq (tgt := 38) hx hb dX3_readLine_34 (by decide) (fun c61051 => ?_) (fun c61051 => ?_)
    · have w61052 := cv_eq (rfl : z61049.toInt = z61049.toInt) (by decide : (0 : Int32).toInt = 0) c61051
      exfalso
      omega
    · have w61053 := cv_ne (rfl : z61049.toInt = z61049.toInt) (by decide : (0 : Int32).toInt = 0) c61051
      exact t_vret hQ X hT ⟨hfr, hrel⟩ (Nat.le_of_ble_eq_true rfl) (Nat.le_of_ble_eq_true rfl) dX3_readLine_37
