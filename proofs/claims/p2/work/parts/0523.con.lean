set_option maxHeartbeats 4000000 in
set_option maxRecDepth 100000 in
theorem kt141_X3_readSkin (l : Launch) (G : KG) (tag : Nat → Nat) (L : List Nat) (Fo : Nat → va_E) (ho : okT G ttC tag L Fo) (p0 : Nat) (x0 : Nat) (x1 : Nat) (x2 : Nat) (x3 : Nat) (x4 : Nat) (x5 : Nat) (m0 : p0 ∈ L) (g0 : tag p0 = 25) (mx0 : x0 ∈ L) (gx0 : tag x0 = 24) (pf0 : fld Fo p0 0 = .ref x0) (mx1 : x1 ∈ L) (gx1 : tag x1 = 18) (pf1 : fld Fo p0 1 = .ref x1) (mx2 : x2 ∈ L) (gx2 : tag x2 = 19) (pf2 : fld Fo p0 2 = .ref x2) (mx3 : x3 ∈ L) (gx3 : tag x3 = 1) (pf3 : fld Fo x0 0 = .ref x3) (mx4 : x4 ∈ L) (gx4 : tag x4 = 14) (pf4 : fld Fo p0 10 = .ref x4) (mx5 : x5 ∈ L) (gx5 : tag x5 = 15) (pf5 : fld Fo p0 11 = .ref x5) (hrel : NSR Fo x4 x5) : TMv l yX3_readSkin cX3_readSkin 6 { frames := 7, cells := 0, slots := 0, locals := 150 } G ttC tag L Fo [.ref p0] (fun F1 => ((∀ b j : Nat, (tag b ≠ 24 ∨ j ≠ 2) → (tag b ≠ 24 ∨ j ≠ 3) → (tag b ≠ 24 ∨ j ≠ 4) → (tag b ≠ 24 ∨ j ≠ 5) → (tag b ≠ 24 ∨ j ≠ 6) → (tag b ≠ 24 ∨ j ≠ 7) → (tag b ≠ 25 ∨ j ≠ 3) → (tag b ≠ 25 ∨ j ≠ 4) → fld F1 b j = fld Fo b j) ∧ EF tag F1 Fo) ∧ (NSR F1 x4 x5)) := by
  refine t_bodyv (y := yX3_readSkin) (cd := cX3_readSkin) (mL := 6) (rm := { frames := 7, cells := 0, slots := 0, locals := 150 }) (av := [.ref p0]) (by decide) (Nat.le_of_ble_eq_true rfl) ho ?_
  intro p e s m args below meth c ls A Q hQ X hT hl
  have hx := X.1.1
  have hb := X.1.2.1
  have hl : lv_has ls 6 [(0, .ref p0)] := hl
  obtain ⟨F, hFo⟩ : ∃ F : Nat → va_E, F = Fo := ⟨_, rfl⟩
  rw [← hFo] at hT pf0 pf1 pf2 pf3 pf4 pf5 hrel
  have hfr : (∀ b j : Nat, (tag b ≠ 24 ∨ j ≠ 2) → (tag b ≠ 24 ∨ j ≠ 3) → (tag b ≠ 24 ∨ j ≠ 4) → (tag b ≠ 24 ∨ j ≠ 5) → (tag b ≠ 24 ∨ j ≠ 6) → (tag b ≠ 24 ∨ j ≠ 7) → (tag b ≠ 25 ∨ j ≠ 3) → (tag b ≠ 25 ∨ j ≠ 4) → fld F b j = fld Fo b j) ∧ EF tag F Fo := by
    rw [hFo]
    exact ⟨by intros; rfl, fun _ _ _ => rfl⟩
  have K68 : ∀ (z56519 : Int32) (z56520 : Int32) (F : Nat → va_E) (H : Heap) (locs : List Loc) (ls : Array Slot), (0 ≤ z56519.toInt ∧ z56519.toInt ≤ 3) → (0 ≤ z56520.toInt ∧ z56520.toInt ≤ 7) → TH G ttC A s tag L F H locs → ((∀ b j : Nat, (tag b ≠ 24 ∨ j ≠ 2) → (tag b ≠ 24 ∨ j ≠ 3) → (tag b ≠ 24 ∨ j ≠ 4) → (tag b ≠ 24 ∨ j ≠ 5) → (tag b ≠ 24 ∨ j ≠ 6) → (tag b ≠ 24 ∨ j ≠ 7) → (tag b ≠ 25 ∨ j ≠ 3) → (tag b ≠ 25 ∨ j ≠ 4) → fld F b j = fld Fo b j) ∧ EF tag F Fo) → NSR F x4 x5 → fld F p0 0 = .ref x0 → fld F p0 1 = .ref x1 → fld F p0 2 = .ref x2 → fld F x0 0 = .ref x3 → fld F p0 10 = .ref x4 → fld F p0 11 = .ref x5 → fld F p0 3 = .int z56520 → lv_has ls 6 [(0, .ref p0), (1, .int z56519)] → W p l e { frames := 7, cells := 0, slots := 0, locals := 150 } s m args below meth c H locs 0 0 Q (F0 m 68 ls []) := by
    intro z56519 z56520 F H locs ls rz56519 rz56520 hT hfr hrel pf0 pf1 pf2 pf3 pf4 pf5 qz56520 hl
    refine lv_aload_n hx hb dX3_readSkin_68 rfl (lv_at hl 0 rfl) ?_
    refine lv_iconst (v := 3) hx hb dX3_readSkin_69 (by decide) ?_
    refine t_cVi (n := 1) (C := RX3) (T := TX3) (N := 13) (As := [.int 3]) (rest := []) X hT (kt118_X3_name l G tag L F hT.2.2.2 p0 3 x0 x1 x2 x3 x4 x5 m0 g0 (by decide) mx0 gx0 pf0 mx1 gx1 pf1 mx2 gx2 pf2 mx3 gx3 pf3 mx4 gx4 pf4 mx5 gx5 pf5 hrel) m0 g0 rfl rfl qw_393 qw_394 qw_395 qw_28 qw_396 ⟨rfl, by decide +kernel, by decide +kernel, by decide +kernel⟩ ⟨Nat.le_of_ble_eq_true rfl, Nat.le_of_ble_eq_true rfl⟩ hl rfl rfl (Nat.le_of_ble_eq_true rfl) dX3_readSkin_70 ⟨Nat.le_of_ble_eq_true rfl, Nat.le_of_ble_eq_true rfl⟩ (fun z56521 F H locs hT hz56521 => ?_)
    obtain ⟨hz56521, yz56521, hrel⟩ := hz56521
    have pf0 := (yz56521.1 _ 0 (Or.inr (by decide)) (Or.inr (by decide)) (Or.inr (by decide)) (Or.inr (by decide)) (Or.inr (by decide)) (Or.inr (by decide)) (Or.inr (by decide)) (Or.inr (by decide))).trans pf0
    have pf1 := (yz56521.1 _ 1 (Or.inr (by decide)) (Or.inr (by decide)) (Or.inr (by decide)) (Or.inr (by decide)) (Or.inr (by decide)) (Or.inr (by decide)) (Or.inr (by decide)) (Or.inr (by decide))).trans pf1
    have pf2 := (yz56521.1 _ 2 (Or.inl (by rw [g0]; decide)) (Or.inr (by decide)) (Or.inr (by decide)) (Or.inr (by decide)) (Or.inr (by decide)) (Or.inr (by decide)) (Or.inr (by decide)) (Or.inr (by decide))).trans pf2
    have pf3 := (yz56521.1 _ 0 (Or.inr (by decide)) (Or.inr (by decide)) (Or.inr (by decide)) (Or.inr (by decide)) (Or.inr (by decide)) (Or.inr (by decide)) (Or.inr (by decide)) (Or.inr (by decide))).trans pf3
    have pf4 := (yz56521.1 _ 10 (Or.inr (by decide)) (Or.inr (by decide)) (Or.inr (by decide)) (Or.inr (by decide)) (Or.inr (by decide)) (Or.inr (by decide)) (Or.inr (by decide)) (Or.inr (by decide))).trans pf4
    have pf5 := (yz56521.1 _ 11 (Or.inr (by decide)) (Or.inr (by decide)) (Or.inr (by decide)) (Or.inr (by decide)) (Or.inr (by decide)) (Or.inr (by decide)) (Or.inr (by decide)) (Or.inr (by decide))).trans pf5
    have hfr : (∀ b j : Nat, (tag b ≠ 24 ∨ j ≠ 2) → (tag b ≠ 24 ∨ j ≠ 3) → (tag b ≠ 24 ∨ j ≠ 4) → (tag b ≠ 24 ∨ j ≠ 5) → (tag b ≠ 24 ∨ j ≠ 6) → (tag b ≠ 24 ∨ j ≠ 7) → (tag b ≠ 25 ∨ j ≠ 3) → (tag b ≠ 25 ∨ j ≠ 4) → fld F b j = fld Fo b j) ∧ EF tag F Fo := ⟨fun b j n24_2 n24_3 n24_4 n24_5 n24_6 n24_7 n25_3 n25_4 => (yz56521.1 b j n24_2 n24_3 n24_4 n24_5 n24_6 n24_7 n25_3 n25_4).trans (hfr.1 b j n24_2 n24_3 n24_4 n24_5 n24_6 n24_7 n25_3 n25_4), fun b j hb => (yz56521.2 b j hb).trans (hfr.2 b j hb)⟩
    refine lv_istore_n (lv' := [(2, .int z56521), (0, .ref p0), (1, .int z56519)]) hx hb dX3_readSkin_73 rfl hl (by decide) rfl (fun ls hl => ?_)
    refine lv_aload_n hx hb dX3_readSkin_74 rfl (lv_at hl 1 rfl) ?_
    refine m_ldcKw X 34 rfl dX3_readSkin_75 ?_
    refine m_ldcKw X 35 rfl dX3_readSkin_78 ?_
    refine m_ldcKw X 36 rfl dX3_readSkin_81 ?_
    refine m_ldcKw X 37 rfl dX3_readSkin_84 ?_
    refine t_cVi (n := 4) (C := RX3) (T := TX3) (N := 13) (As := [.ref (G.2 (100 + 34)), .ref (G.2 (100 + 35)), .ref (G.2 (100 + 36)), .ref (G.2 (100 + 37))]) (rest := []) X hT (kt129_X3_choice l G tag L F hT.2.2.2 p0 34 35 36 37 x0 x1 x2 x3 x4 x5 m0 g0 (by decide) (by decide) (by decide) (by decide) mx0 gx0 pf0 mx1 gx1 pf1 mx2 gx2 pf2 mx3 gx3 pf3 mx4 gx4 pf4 mx5 gx5 pf5) m0 g0 rfl rfl qw_323 qw_324 qw_325 qw_28 qw_326 ⟨rfl, by decide +kernel, by decide +kernel, by decide +kernel⟩ ⟨Nat.le_of_ble_eq_true rfl, Nat.le_of_ble_eq_true rfl⟩ hl rfl rfl (Nat.le_of_ble_eq_true rfl) dX3_readSkin_87 ⟨Nat.le_of_ble_eq_true rfl, Nat.le_of_ble_eq_true rfl⟩ (fun z56522 F H locs hT hz56522 => ?_)
    obtain ⟨hz56522, yz56522⟩ := hz56522
    have pf0 := (yz56522.1 _ 0 (Or.inr (by decide)) (Or.inr (by decide)) (Or.inr (by decide)) (Or.inr (by decide)) (Or.inr (by decide)) (Or.inr (by decide)) (Or.inr (by decide)) (Or.inr (by decide))).trans pf0
    have pf1 := (yz56522.1 _ 1 (Or.inr (by decide)) (Or.inr (by decide)) (Or.inr (by decide)) (Or.inr (by decide)) (Or.inr (by decide)) (Or.inr (by decide)) (Or.inr (by decide)) (Or.inr (by decide))).trans pf1
    have pf2 := (yz56522.1 _ 2 (Or.inl (by rw [g0]; decide)) (Or.inr (by decide)) (Or.inr (by decide)) (Or.inr (by decide)) (Or.inr (by decide)) (Or.inr (by decide)) (Or.inr (by decide)) (Or.inr (by decide))).trans pf2
    have pf3 := (yz56522.1 _ 0 (Or.inr (by decide)) (Or.inr (by decide)) (Or.inr (by decide)) (Or.inr (by decide)) (Or.inr (by decide)) (Or.inr (by decide)) (Or.inr (by decide)) (Or.inr (by decide))).trans pf3
    have pf4 := (yz56522.1 _ 10 (Or.inr (by decide)) (Or.inr (by decide)) (Or.inr (by decide)) (Or.inr (by decide)) (Or.inr (by decide)) (Or.inr (by decide)) (Or.inr (by decide)) (Or.inr (by decide))).trans pf4
    have pf5 := (yz56522.1 _ 11 (Or.inr (by decide)) (Or.inr (by decide)) (Or.inr (by decide)) (Or.inr (by decide)) (Or.inr (by decide)) (Or.inr (by decide)) (Or.inr (by decide)) (Or.inr (by decide))).trans pf5
    have hfr : (∀ b j : Nat, (tag b ≠ 24 ∨ j ≠ 2) → (tag b ≠ 24 ∨ j ≠ 3) → (tag b ≠ 24 ∨ j ≠ 4) → (tag b ≠ 24 ∨ j ≠ 5) → (tag b ≠ 24 ∨ j ≠ 6) → (tag b ≠ 24 ∨ j ≠ 7) → (tag b ≠ 25 ∨ j ≠ 3) → (tag b ≠ 25 ∨ j ≠ 4) → fld F b j = fld Fo b j) ∧ EF tag F Fo := ⟨fun b j n24_2 n24_3 n24_4 n24_5 n24_6 n24_7 n25_3 n25_4 => (yz56522.1 b j n24_2 n24_3 n24_4 n24_5 n24_6 n24_7 n25_3 n25_4).trans (hfr.1 b j n24_2 n24_3 n24_4 n24_5 n24_6 n24_7 n25_3 n25_4), fun b j hb => (yz56522.2 b j hb).trans (hfr.2 b j hb)⟩
    have hrel := nsr_of (fun j => yz56522.2 _ j (Or.inl gx4)) (fun j => yz56522.2 _ j (Or.inr gx5)) hrel
    refine lv_istore_n (lv' := [(3, .int z56522), (2, .int z56521), (0, .ref p0), (1, .int z56519)]) hx hb dX3_readSkin_90 rfl hl (by decide) rfl (fun ls hl => ?_)
    refine lv_aload_n hx hb dX3_readSkin_91 rfl (lv_at hl 2 rfl) ?_
    refine lv_iconst (v := 0) hx hb dX3_readSkin_92 (by decide) ?_
    refine lv_iconst (v := 2) hx hb dX3_readSkin_93 (by decide) ?_
    refine lv_aload_n hx hb dX3_readSkin_94 rfl (lv_at hl 2 rfl) ?_
    refine t_get (C := RX3) (T := TX3) (N := 13) X hT m0 g0 rfl rfl 2 (by decide) qw_162 inlX3 rfl dX3_readSkin_95 (fun v56523 hv56523 ov56523 => ?_)
    obtain rfl : v56523 = .ref x2 := hv56523.symm.trans pf2
    refine t_get (C := RX7) (T := TX7) (N := 7) X hT mx2 gx2 rfl rfl 2 (by decide) qw_401 inlX7 rfl dX3_readSkin_98 (fun v56524 hv56524 ov56524 => ?_)
    obtain ⟨b56525, rfl, mb56525, gb56525⟩ := okV_r ov56524
    have gb56525 : tag b56525 = 8 := tg_of gb56525
    refine lv_iload_n hx hb dX3_readSkin_101 rfl (lv_at hl 3 rfl) ?_
    refine t_ild X hT mb56525 gb56525 rfl (by omega) dX3_readSkin_102 (fun z56526 vz56526 rz56526 => ?_)
    have rz56526 : 0 ≤ z56526.toInt ∧ z56526.toInt ≤ 6 := rz56526
    refine lv_imul hx hb dX3_readSkin_103 ?_
    refine lv_topi (fun z56527 ez56527 => ?_)
    have hz56527 : z56527.toInt = 2 * z56526.toInt := ar_mul ez56527 (by decide : (2 : Int32).toInt = 2) (rfl : z56526.toInt = z56526.toInt) (by omega) (by omega)
    have rz56527 : 0 ≤ z56527.toInt ∧ z56527.toInt ≤ 12 := by omega
    refine t_cVi (n := 2) (C := RX3) (T := TX3) (N := 13) (As := [.int 0, .int z56527]) (rest := []) X hT (kt140_X3_whole l G tag L F hT.2.2.2 p0 0 z56527 x0 x1 x2 x3 x4 x5 m0 g0 (by decide) (by omega) mx0 gx0 pf0 mx1 gx1 pf1 mx2 gx2 pf2 mx3 gx3 pf3 mx4 gx4 pf4 mx5 gx5 pf5) m0 g0 rfl rfl qw_318 qw_319 qw_320 qw_28 qw_321 ⟨rfl, by decide +kernel, by decide +kernel, by decide +kernel⟩ ⟨Nat.le_of_ble_eq_true rfl, Nat.le_of_ble_eq_true rfl⟩ hl rfl rfl (Nat.le_of_ble_eq_true rfl) dX3_readSkin_104 ⟨Nat.le_of_ble_eq_true rfl, Nat.le_of_ble_eq_true rfl⟩ (fun z56528 F H locs hT hz56528 => ?_)
    obtain ⟨hz56528, yz56528⟩ := hz56528
    have pf0 := (yz56528.1 _ 0 (Or.inr (by decide)) (Or.inr (by decide)) (Or.inr (by decide)) (Or.inr (by decide)) (Or.inr (by decide)) (Or.inr (by decide)) (Or.inr (by decide)) (Or.inr (by decide))).trans pf0
    have pf1 := (yz56528.1 _ 1 (Or.inr (by decide)) (Or.inr (by decide)) (Or.inr (by decide)) (Or.inr (by decide)) (Or.inr (by decide)) (Or.inr (by decide)) (Or.inr (by decide)) (Or.inr (by decide))).trans pf1
    have pf2 := (yz56528.1 _ 2 (Or.inl (by rw [g0]; decide)) (Or.inr (by decide)) (Or.inr (by decide)) (Or.inr (by decide)) (Or.inr (by decide)) (Or.inr (by decide)) (Or.inr (by decide)) (Or.inr (by decide))).trans pf2
    have pf3 := (yz56528.1 _ 0 (Or.inr (by decide)) (Or.inr (by decide)) (Or.inr (by decide)) (Or.inr (by decide)) (Or.inr (by decide)) (Or.inr (by decide)) (Or.inr (by decide)) (Or.inr (by decide))).trans pf3
    have pf4 := (yz56528.1 _ 10 (Or.inr (by decide)) (Or.inr (by decide)) (Or.inr (by decide)) (Or.inr (by decide)) (Or.inr (by decide)) (Or.inr (by decide)) (Or.inr (by decide)) (Or.inr (by decide))).trans pf4
    have pf5 := (yz56528.1 _ 11 (Or.inr (by decide)) (Or.inr (by decide)) (Or.inr (by decide)) (Or.inr (by decide)) (Or.inr (by decide)) (Or.inr (by decide)) (Or.inr (by decide)) (Or.inr (by decide))).trans pf5
    have hv56524 := (yz56528.1 _ 2 (Or.inl (by rw [gx2]; decide)) (Or.inr (by decide)) (Or.inr (by decide)) (Or.inr (by decide)) (Or.inr (by decide)) (Or.inr (by decide)) (Or.inr (by decide)) (Or.inr (by decide))).trans hv56524
    have hfr : (∀ b j : Nat, (tag b ≠ 24 ∨ j ≠ 2) → (tag b ≠ 24 ∨ j ≠ 3) → (tag b ≠ 24 ∨ j ≠ 4) → (tag b ≠ 24 ∨ j ≠ 5) → (tag b ≠ 24 ∨ j ≠ 6) → (tag b ≠ 24 ∨ j ≠ 7) → (tag b ≠ 25 ∨ j ≠ 3) → (tag b ≠ 25 ∨ j ≠ 4) → fld F b j = fld Fo b j) ∧ EF tag F Fo := ⟨fun b j n24_2 n24_3 n24_4 n24_5 n24_6 n24_7 n25_3 n25_4 => (yz56528.1 b j n24_2 n24_3 n24_4 n24_5 n24_6 n24_7 n25_3 n25_4).trans (hfr.1 b j n24_2 n24_3 n24_4 n24_5 n24_6 n24_7 n25_3 n25_4), fun b j hb => (yz56528.2 b j hb).trans (hfr.2 b j hb)⟩
    have hrel := nsr_of (fun j => yz56528.2 _ j (Or.inl gx4)) (fun j => yz56528.2 _ j (Or.inr gx5)) hrel
    refine lv_istore (lv' := [(4, .int z56528), (3, .int z56522), (2, .int z56521), (0, .ref p0), (1, .int z56519)]) hx hb dX3_readSkin_107 hl (by decide) rfl (fun ls hl => ?_)
    refine lv_aload_n hx hb dX3_readSkin_109 rfl (lv_at hl 3 rfl) ?_
    refine m_ldcKw X 38 rfl dX3_readSkin_110 ?_
    refine t_cVv (n := 1) (C := RX3) (T := TX3) (N := 13) (As := [.ref (G.2 (100 + 38))]) (rest := []) X hT (kt115_X3_word l G tag L F hT.2.2.2 p0 38 x0 x1 x2 x3 x4 x5 m0 g0 (by decide) mx0 gx0 pf0 mx1 gx1 pf1 mx2 gx2 pf2 mx3 gx3 pf3 mx4 gx4 pf4 mx5 gx5 pf5) m0 g0 rfl rfl qw_314 qw_315 qw_316 qw_28 qw_317 ⟨rfl, by decide +kernel, by decide +kernel, by decide +kernel⟩ ⟨Nat.le_of_ble_eq_true rfl, Nat.le_of_ble_eq_true rfl⟩ hl rfl rfl (Nat.le_of_ble_eq_true rfl) dX3_readSkin_113 ⟨Nat.le_of_ble_eq_true rfl, Nat.le_of_ble_eq_true rfl⟩ (fun F H locs hT hz56529 => ?_)
    have yz56529 := hz56529
    have pf0 := (yz56529.1 _ 0 (Or.inr (by decide)) (Or.inr (by decide)) (Or.inr (by decide)) (Or.inr (by decide)) (Or.inr (by decide)) (Or.inr (by decide)) (Or.inr (by decide)) (Or.inr (by decide))).trans pf0
    have pf1 := (yz56529.1 _ 1 (Or.inr (by decide)) (Or.inr (by decide)) (Or.inr (by decide)) (Or.inr (by decide)) (Or.inr (by decide)) (Or.inr (by decide)) (Or.inr (by decide)) (Or.inr (by decide))).trans pf1
    have pf2 := (yz56529.1 _ 2 (Or.inl (by rw [g0]; decide)) (Or.inr (by decide)) (Or.inr (by decide)) (Or.inr (by decide)) (Or.inr (by decide)) (Or.inr (by decide)) (Or.inr (by decide)) (Or.inr (by decide))).trans pf2
    have pf3 := (yz56529.1 _ 0 (Or.inr (by decide)) (Or.inr (by decide)) (Or.inr (by decide)) (Or.inr (by decide)) (Or.inr (by decide)) (Or.inr (by decide)) (Or.inr (by decide)) (Or.inr (by decide))).trans pf3
    have pf4 := (yz56529.1 _ 10 (Or.inr (by decide)) (Or.inr (by decide)) (Or.inr (by decide)) (Or.inr (by decide)) (Or.inr (by decide)) (Or.inr (by decide)) (Or.inr (by decide)) (Or.inr (by decide))).trans pf4
    have pf5 := (yz56529.1 _ 11 (Or.inr (by decide)) (Or.inr (by decide)) (Or.inr (by decide)) (Or.inr (by decide)) (Or.inr (by decide)) (Or.inr (by decide)) (Or.inr (by decide)) (Or.inr (by decide))).trans pf5
    have hv56524 := (yz56529.1 _ 2 (Or.inl (by rw [gx2]; decide)) (Or.inr (by decide)) (Or.inr (by decide)) (Or.inr (by decide)) (Or.inr (by decide)) (Or.inr (by decide)) (Or.inr (by decide)) (Or.inr (by decide))).trans hv56524
    have hfr : (∀ b j : Nat, (tag b ≠ 24 ∨ j ≠ 2) → (tag b ≠ 24 ∨ j ≠ 3) → (tag b ≠ 24 ∨ j ≠ 4) → (tag b ≠ 24 ∨ j ≠ 5) → (tag b ≠ 24 ∨ j ≠ 6) → (tag b ≠ 24 ∨ j ≠ 7) → (tag b ≠ 25 ∨ j ≠ 3) → (tag b ≠ 25 ∨ j ≠ 4) → fld F b j = fld Fo b j) ∧ EF tag F Fo := ⟨fun b j n24_2 n24_3 n24_4 n24_5 n24_6 n24_7 n25_3 n25_4 => (yz56529.1 b j n24_2 n24_3 n24_4 n24_5 n24_6 n24_7 n25_3 n25_4).trans (hfr.1 b j n24_2 n24_3 n24_4 n24_5 n24_6 n24_7 n25_3 n25_4), fun b j hb => (yz56529.2 b j hb).trans (hfr.2 b j hb)⟩
    have hrel := nsr_of (fun j => yz56529.2 _ j (Or.inl gx4)) (fun j => yz56529.2 _ j (Or.inr gx5)) hrel
    refine lv_aload_n hx hb dX3_readSkin_116 rfl (lv_at hl 3 rfl) ?_
    refine lv_iconst (v := 0) hx hb dX3_readSkin_117 (by decide) ?_
    refine lv_bipush (v := 99) hx hb dX3_readSkin_118 (by decide) ?_
    refine t_cVi (n := 2) (C := RX3) (T := TX3) (N := 13) (As := [.int 0, .int 99]) (rest := []) X hT (kt119_X3_whole l G tag L F hT.2.2.2 p0 0 99 x0 x1 x2 x3 x4 x5 m0 g0 (by decide) (by decide) mx0 gx0 pf0 mx1 gx1 pf1 mx2 gx2 pf2 mx3 gx3 pf3 mx4 gx4 pf4 mx5 gx5 pf5) m0 g0 rfl rfl qw_318 qw_319 qw_320 qw_28 qw_321 ⟨rfl, by decide +kernel, by decide +kernel, by decide +kernel⟩ ⟨Nat.le_of_ble_eq_true rfl, Nat.le_of_ble_eq_true rfl⟩ hl rfl rfl (Nat.le_of_ble_eq_true rfl) dX3_readSkin_120 ⟨Nat.le_of_ble_eq_true rfl, Nat.le_of_ble_eq_true rfl⟩ (fun z56530 F H locs hT hz56530 => ?_)
    obtain ⟨hz56530, yz56530⟩ := hz56530
    have pf0 := (yz56530.1 _ 0 (Or.inr (by decide)) (Or.inr (by decide)) (Or.inr (by decide)) (Or.inr (by decide)) (Or.inr (by decide)) (Or.inr (by decide)) (Or.inr (by decide)) (Or.inr (by decide))).trans pf0
    have pf1 := (yz56530.1 _ 1 (Or.inr (by decide)) (Or.inr (by decide)) (Or.inr (by decide)) (Or.inr (by decide)) (Or.inr (by decide)) (Or.inr (by decide)) (Or.inr (by decide)) (Or.inr (by decide))).trans pf1
    have pf2 := (yz56530.1 _ 2 (Or.inl (by rw [g0]; decide)) (Or.inr (by decide)) (Or.inr (by decide)) (Or.inr (by decide)) (Or.inr (by decide)) (Or.inr (by decide)) (Or.inr (by decide)) (Or.inr (by decide))).trans pf2
    have pf3 := (yz56530.1 _ 0 (Or.inr (by decide)) (Or.inr (by decide)) (Or.inr (by decide)) (Or.inr (by decide)) (Or.inr (by decide)) (Or.inr (by decide)) (Or.inr (by decide)) (Or.inr (by decide))).trans pf3
    have pf4 := (yz56530.1 _ 10 (Or.inr (by decide)) (Or.inr (by decide)) (Or.inr (by decide)) (Or.inr (by decide)) (Or.inr (by decide)) (Or.inr (by decide)) (Or.inr (by decide)) (Or.inr (by decide))).trans pf4
    have pf5 := (yz56530.1 _ 11 (Or.inr (by decide)) (Or.inr (by decide)) (Or.inr (by decide)) (Or.inr (by decide)) (Or.inr (by decide)) (Or.inr (by decide)) (Or.inr (by decide)) (Or.inr (by decide))).trans pf5
    have hv56524 := (yz56530.1 _ 2 (Or.inl (by rw [gx2]; decide)) (Or.inr (by decide)) (Or.inr (by decide)) (Or.inr (by decide)) (Or.inr (by decide)) (Or.inr (by decide)) (Or.inr (by decide)) (Or.inr (by decide))).trans hv56524
    have hfr : (∀ b j : Nat, (tag b ≠ 24 ∨ j ≠ 2) → (tag b ≠ 24 ∨ j ≠ 3) → (tag b ≠ 24 ∨ j ≠ 4) → (tag b ≠ 24 ∨ j ≠ 5) → (tag b ≠ 24 ∨ j ≠ 6) → (tag b ≠ 24 ∨ j ≠ 7) → (tag b ≠ 25 ∨ j ≠ 3) → (tag b ≠ 25 ∨ j ≠ 4) → fld F b j = fld Fo b j) ∧ EF tag F Fo := ⟨fun b j n24_2 n24_3 n24_4 n24_5 n24_6 n24_7 n25_3 n25_4 => (yz56530.1 b j n24_2 n24_3 n24_4 n24_5 n24_6 n24_7 n25_3 n25_4).trans (hfr.1 b j n24_2 n24_3 n24_4 n24_5 n24_6 n24_7 n25_3 n25_4), fun b j hb => (yz56530.2 b j hb).trans (hfr.2 b j hb)⟩
    have hrel := nsr_of (fun j => yz56530.2 _ j (Or.inl gx4)) (fun j => yz56530.2 _ j (Or.inr gx5)) hrel
    refine lv_istore (lv' := [(5, .int z56530), (4, .int z56528), (3, .int z56522), (2, .int z56521), (0, .ref p0), (1, .int z56519)]) hx hb dX3_readSkin_123 hl (by decide) rfl (fun ls hl => ?_)
    refine lv_aload_n hx hb dX3_readSkin_125 rfl (lv_at hl 4 rfl) ?_
    refine t_get (C := RX3) (T := TX3) (N := 13) X hT m0 g0 rfl rfl 3 (by decide) qw_163 inlX3 rfl dX3_readSkin_126 (fun v56531 hv56531 ov56531 => ?_)
    obtain ⟨z56532, rfl, rz56532⟩ := okV_i ov56531
    refine lv_if_ne (tgt := 148) hx hb dX3_readSkin_129 (by decide) (fun c56533 => ?_) (fun c56533 => ?_)
    · have w56534 := cv_ne (rfl : z56532.toInt = z56532.toInt) (by decide : (0 : Int32).toInt = 0) c56533
      exact t_vret hQ X hT ⟨hfr, hrel⟩ (Nat.le_of_ble_eq_true rfl) (Nat.le_of_ble_eq_true rfl) dX3_readSkin_148
    · have w56535 := cv_eq (rfl : z56532.toInt = z56532.toInt) (by decide : (0 : Int32).toInt = 0) c56533
      refine lv_aload_n hx hb dX3_readSkin_132 rfl (lv_at hl 4 rfl) ?_
      refine t_get (C := RX3) (T := TX3) (N := 13) X hT m0 g0 rfl rfl 2 (by decide) qw_162 inlX3 rfl dX3_readSkin_133 (fun v56536 hv56536 ov56536 => ?_)
      obtain rfl : v56536 = .ref x2 := hv56536.symm.trans pf2
      refine lv_iload_n hx hb dX3_readSkin_136 rfl (lv_at hl 5 rfl) ?_
      refine lv_iload_n hx hb dX3_readSkin_137 rfl (lv_at hl 3 rfl) ?_
      refine lv_iload_n hx hb dX3_readSkin_138 rfl (lv_at hl 2 rfl) ?_
      refine lv_iload hx hb dX3_readSkin_139 (lv_at hl 1 rfl) ?_
      refine lv_iload hx hb dX3_readSkin_141 (lv_at hl 0 rfl) ?_
      refine lv_bipush (v := (-2)) hx hb dX3_readSkin_143 (by decide) ?_
      refine t_cVv (n := 6) (C := RX7) (T := TX7) (N := 7) (As := [.int z56519, .int z56521, .int z56522, .int z56528, .int z56530, .int (-2)]) (rest := []) X hT (kt17_X7_addSkin l G tag L F hT.2.2.2 x2 z56519 z56521 z56522 z56528 z56530 (-2) mx2 gx2 (by omega)) mx2 gx2 rfl rfl qw_418 qw_419 qw_420 qw_22 qw_421 ⟨rfl, by decide +kernel, by decide +kernel, by decide +kernel⟩ ⟨Nat.le_of_ble_eq_true rfl, Nat.le_of_ble_eq_true rfl⟩ hl rfl rfl (Nat.le_of_ble_eq_true rfl) dX3_readSkin_145 ⟨Nat.le_of_ble_eq_true rfl, Nat.le_of_ble_eq_true rfl⟩ (fun F H locs hT hz56537 => ?_)
      have yz56537 := hz56537
      have pf0 := (yz56537.1 _ 0 ).trans pf0
      have pf1 := (yz56537.1 _ 1 ).trans pf1
      have pf2 := (yz56537.1 _ 2 ).trans pf2
      have pf3 := (yz56537.1 _ 0 ).trans pf3
      have pf4 := (yz56537.1 _ 10 ).trans pf4
      have pf5 := (yz56537.1 _ 11 ).trans pf5
      have hv56524 := (yz56537.1 _ 2 ).trans hv56524
      have hv56531 := (yz56537.1 _ 3 ).trans hv56531
      have hfr : (∀ b j : Nat, (tag b ≠ 24 ∨ j ≠ 2) → (tag b ≠ 24 ∨ j ≠ 3) → (tag b ≠ 24 ∨ j ≠ 4) → (tag b ≠ 24 ∨ j ≠ 5) → (tag b ≠ 24 ∨ j ≠ 6) → (tag b ≠ 24 ∨ j ≠ 7) → (tag b ≠ 25 ∨ j ≠ 3) → (tag b ≠ 25 ∨ j ≠ 4) → fld F b j = fld Fo b j) ∧ EF tag F Fo := ⟨fun b j n24_2 n24_3 n24_4 n24_5 n24_6 n24_7 n25_3 n25_4 => (yz56537.1 b j ).trans (hfr.1 b j n24_2 n24_3 n24_4 n24_5 n24_6 n24_7 n25_3 n25_4), fun b j hb => (yz56537.2 b j hb).trans (hfr.2 b j hb)⟩
      have hrel := nsr_of (fun j => yz56537.2 _ j (Or.inl gx4)) (fun j => yz56537.2 _ j (Or.inr gx5)) hrel
      exact t_vret hQ X hT ⟨hfr, hrel⟩ (Nat.le_of_ble_eq_true rfl) (Nat.le_of_ble_eq_true rfl) dX3_readSkin_148
  have K40 : ∀ (z56538 : Int32) (z56539 : Int32) (F : Nat → va_E) (H : Heap) (locs : List Loc) (ls : Array Slot), (0 ≤ z56538.toInt ∧ z56538.toInt ≤ 3) → (0 ≤ z56539.toInt ∧ z56539.toInt ≤ 7) → TH G ttC A s tag L F H locs → ((∀ b j : Nat, (tag b ≠ 24 ∨ j ≠ 2) → (tag b ≠ 24 ∨ j ≠ 3) → (tag b ≠ 24 ∨ j ≠ 4) → (tag b ≠ 24 ∨ j ≠ 5) → (tag b ≠ 24 ∨ j ≠ 6) → (tag b ≠ 24 ∨ j ≠ 7) → (tag b ≠ 25 ∨ j ≠ 3) → (tag b ≠ 25 ∨ j ≠ 4) → fld F b j = fld Fo b j) ∧ EF tag F Fo) → NSR F x4 x5 → fld F p0 0 = .ref x0 → fld F p0 1 = .ref x1 → fld F p0 2 = .ref x2 → fld F x0 0 = .ref x3 → fld F p0 10 = .ref x4 → fld F p0 11 = .ref x5 → fld F p0 3 = .int z56539 → lv_has ls 6 [(0, .ref p0), (1, .int z56538)] → W p l e { frames := 7, cells := 0, slots := 0, locals := 150 } s m args below meth c H locs 0 0 Q (F0 m 40 ls []) := by
    intro z56538 z56539 F H locs ls rz56538 rz56539 hT hfr hrel pf0 pf1 pf2 pf3 pf4 pf5 qz56539 hl
    refine lv_aload_n hx hb dX3_readSkin_40 rfl (lv_at hl 0 rfl) ?_
    refine t_get (C := RX3) (T := TX3) (N := 13) X hT m0 g0 rfl rfl 1 (by decide) qw_161 inlX3 rfl dX3_readSkin_41 (fun v56540 hv56540 ov56540 => ?_)
    obtain rfl : v56540 = .ref x1 := hv56540.symm.trans pf1
    refine lv_aload_n hx hb dX3_readSkin_44 rfl (lv_at hl 0 rfl) ?_
    refine t_get (C := RX3) (T := TX3) (N := 13) X hT m0 g0 rfl rfl 2 (by decide) qw_162 inlX3 rfl dX3_readSkin_45 (fun v56541 hv56541 ov56541 => ?_)
    obtain rfl : v56541 = .ref x2 := hv56541.symm.trans pf2
    refine lv_iload_n hx hb dX3_readSkin_48 rfl (lv_at hl 1 rfl) ?_
    refine t_cSi (n := 3) (As := [.ref x1, .ref x2, .int z56538]) (rest := []) X hT (kt31_X6_isFit l G tag L F hT.2.2.2 x1 x2 z56538 mx1 gx1 mx2 gx2 (by omega)) qw_402 qw_403 qw_380 qw_404 ⟨by decide +kernel, by decide +kernel, by decide +kernel⟩ ⟨Nat.le_of_ble_eq_true rfl, Nat.le_of_ble_eq_true rfl⟩ hl rfl rfl (Nat.le_of_ble_eq_true rfl) dX3_readSkin_49 ⟨Nat.le_of_ble_eq_true rfl, Nat.le_of_ble_eq_true rfl⟩ (fun z56542 F9 H locs hT hz56542 => ?_)
    obtain ⟨fz56542, hz56542⟩ := hz56542
    rw [fz56542] at hT
    refine lv_if_ne (tgt := 68) hx hb dX3_readSkin_52 (by decide) (fun c56543 => ?_) (fun c56543 => ?_)
    · have w56544 := cv_ne (rfl : z56542.toInt = z56542.toInt) (by decide : (0 : Int32).toInt = 0) c56543
      exact K68 z56538 z56539 _ _ _ _ (by omega) (by omega) hT hfr hrel pf0 pf1 pf2 pf3 pf4 pf5 qz56539 (lv_sub hl [0, 1] rfl)
    · have w56545 := cv_eq (rfl : z56542.toInt = z56542.toInt) (by decide : (0 : Int32).toInt = 0) c56543
      refine lv_aload_n hx hb dX3_readSkin_55 rfl (lv_at hl 0 rfl) ?_
      refine lv_bipush (v := 7) hx hb dX3_readSkin_56 (by decide) ?_
      refine lv_aload_n hx hb dX3_readSkin_58 rfl (lv_at hl 0 rfl) ?_
      refine t_get (C := RX3) (T := TX3) (N := 13) X hT m0 g0 rfl rfl 0 (by decide) qw_73 inlX3 rfl dX3_readSkin_59 (fun v56546 hv56546 ov56546 => ?_)
      obtain rfl : v56546 = .ref x0 := hv56546.symm.trans pf0
      refine t_get (C := RX8) (T := TX8) (N := 8) X hT mx0 gx0 rfl rfl 5 (by decide) qw_339 inlX8 rfl dX3_readSkin_62 (fun v56547 hv56547 ov56547 => ?_)
      obtain ⟨z56548, rfl, rz56548⟩ := okV_i ov56547
      refine t_cVv (n := 2) (C := RX3) (T := TX3) (N := 13) (As := [.int 7, .int z56548]) (rest := []) X hT (kt111_X3_fail l G tag L F hT.2.2.2 p0 7 z56548 m0 g0 (by decide)) m0 g0 rfl rfl qw_287 qw_288 qw_289 qw_28 qw_290 ⟨rfl, by decide +kernel, by decide +kernel, by decide +kernel⟩ ⟨Nat.le_of_ble_eq_true rfl, Nat.le_of_ble_eq_true rfl⟩ hl rfl rfl (Nat.le_of_ble_eq_true rfl) dX3_readSkin_65 ⟨Nat.le_of_ble_eq_true rfl, Nat.le_of_ble_eq_true rfl⟩ (fun F H locs hT hz56549 => ?_)
      obtain ⟨yz56549, xz56549_0⟩ := hz56549
      have pf0 := (yz56549.1 _ 0 (Or.inr (by decide)) (Or.inr (by decide))).trans pf0
      have pf1 := (yz56549.1 _ 1 (Or.inr (by decide)) (Or.inr (by decide))).trans pf1
      have pf2 := (yz56549.1 _ 2 (Or.inr (by decide)) (Or.inr (by decide))).trans pf2
      have pf3 := (yz56549.1 _ 0 (Or.inr (by decide)) (Or.inr (by decide))).trans pf3
      have pf4 := (yz56549.1 _ 10 (Or.inr (by decide)) (Or.inr (by decide))).trans pf4
      have pf5 := (yz56549.1 _ 11 (Or.inr (by decide)) (Or.inr (by decide))).trans pf5
      have hv56547 := (yz56549.1 _ 5 (Or.inr (by decide)) (Or.inr (by decide))).trans hv56547
      have hfr : (∀ b j : Nat, (tag b ≠ 24 ∨ j ≠ 2) → (tag b ≠ 24 ∨ j ≠ 3) → (tag b ≠ 24 ∨ j ≠ 4) → (tag b ≠ 24 ∨ j ≠ 5) → (tag b ≠ 24 ∨ j ≠ 6) → (tag b ≠ 24 ∨ j ≠ 7) → (tag b ≠ 25 ∨ j ≠ 3) → (tag b ≠ 25 ∨ j ≠ 4) → fld F b j = fld Fo b j) ∧ EF tag F Fo := ⟨fun b j n24_2 n24_3 n24_4 n24_5 n24_6 n24_7 n25_3 n25_4 => (yz56549.1 b j n25_3 n25_4).trans (hfr.1 b j n24_2 n24_3 n24_4 n24_5 n24_6 n24_7 n25_3 n25_4), fun b j hb => (yz56549.2 b j hb).trans (hfr.2 b j hb)⟩
      have hrel := nsr_of (fun j => yz56549.2 _ j (Or.inl gx4)) (fun j => yz56549.2 _ j (Or.inr gx5)) hrel
      obtain ⟨z56550, qz56550, rz56550⟩ := xz56549_0
      exact K68 z56538 z56550 _ _ _ _ (by omega) (by omega) hT hfr hrel pf0 pf1 pf2 pf3 pf4 pf5 qz56550 (lv_sub hl [0, 1] rfl)
  refine lv_aload_n hx hb dX3_readSkin_0 rfl (lv_at hl 0 rfl) ?_
  refine lv_iconst (v := 4) hx hb dX3_readSkin_1 (by decide) ?_
  refine t_cVi (n := 1) (C := RX3) (T := TX3) (N := 13) (As := [.int 4]) (rest := []) X hT (kt139_X3_name l G tag L F hT.2.2.2 p0 4 x0 x1 x2 x3 x4 x5 m0 g0 (by decide) mx0 gx0 pf0 mx1 gx1 pf1 mx2 gx2 pf2 mx3 gx3 pf3 mx4 gx4 pf4 mx5 gx5 pf5 hrel) m0 g0 rfl rfl qw_393 qw_394 qw_395 qw_28 qw_396 ⟨rfl, by decide +kernel, by decide +kernel, by decide +kernel⟩ ⟨Nat.le_of_ble_eq_true rfl, Nat.le_of_ble_eq_true rfl⟩ hl rfl rfl (Nat.le_of_ble_eq_true rfl) dX3_readSkin_2 ⟨Nat.le_of_ble_eq_true rfl, Nat.le_of_ble_eq_true rfl⟩ (fun z56551 F H locs hT hz56551 => ?_)
  obtain ⟨hz56551, yz56551, hrel⟩ := hz56551
  have pf0 := (yz56551.1 _ 0 (Or.inr (by decide)) (Or.inr (by decide)) (Or.inr (by decide)) (Or.inr (by decide)) (Or.inr (by decide)) (Or.inr (by decide)) (Or.inr (by decide)) (Or.inr (by decide))).trans pf0
  have pf1 := (yz56551.1 _ 1 (Or.inr (by decide)) (Or.inr (by decide)) (Or.inr (by decide)) (Or.inr (by decide)) (Or.inr (by decide)) (Or.inr (by decide)) (Or.inr (by decide)) (Or.inr (by decide))).trans pf1
  have pf2 := (yz56551.1 _ 2 (Or.inl (by rw [g0]; decide)) (Or.inr (by decide)) (Or.inr (by decide)) (Or.inr (by decide)) (Or.inr (by decide)) (Or.inr (by decide)) (Or.inr (by decide)) (Or.inr (by decide))).trans pf2
  have pf3 := (yz56551.1 _ 0 (Or.inr (by decide)) (Or.inr (by decide)) (Or.inr (by decide)) (Or.inr (by decide)) (Or.inr (by decide)) (Or.inr (by decide)) (Or.inr (by decide)) (Or.inr (by decide))).trans pf3
  have pf4 := (yz56551.1 _ 10 (Or.inr (by decide)) (Or.inr (by decide)) (Or.inr (by decide)) (Or.inr (by decide)) (Or.inr (by decide)) (Or.inr (by decide)) (Or.inr (by decide)) (Or.inr (by decide))).trans pf4
  have pf5 := (yz56551.1 _ 11 (Or.inr (by decide)) (Or.inr (by decide)) (Or.inr (by decide)) (Or.inr (by decide)) (Or.inr (by decide)) (Or.inr (by decide)) (Or.inr (by decide)) (Or.inr (by decide))).trans pf5
  have hfr : (∀ b j : Nat, (tag b ≠ 24 ∨ j ≠ 2) → (tag b ≠ 24 ∨ j ≠ 3) → (tag b ≠ 24 ∨ j ≠ 4) → (tag b ≠ 24 ∨ j ≠ 5) → (tag b ≠ 24 ∨ j ≠ 6) → (tag b ≠ 24 ∨ j ≠ 7) → (tag b ≠ 25 ∨ j ≠ 3) → (tag b ≠ 25 ∨ j ≠ 4) → fld F b j = fld Fo b j) ∧ EF tag F Fo := ⟨fun b j n24_2 n24_3 n24_4 n24_5 n24_6 n24_7 n25_3 n25_4 => (yz56551.1 b j n24_2 n24_3 n24_4 n24_5 n24_6 n24_7 n25_3 n25_4).trans (hfr.1 b j n24_2 n24_3 n24_4 n24_5 n24_6 n24_7 n25_3 n25_4), fun b j hb => (yz56551.2 b j hb).trans (hfr.2 b j hb)⟩
  refine lv_istore_n (lv' := [(1, .int z56551), (0, .ref p0)]) hx hb dX3_readSkin_5 rfl hl (by decide) rfl (fun ls hl => ?_)
  refine lv_aload_n hx hb dX3_readSkin_6 rfl (lv_at hl 1 rfl) ?_
  refine t_get (C := RX3) (T := TX3) (N := 13) X hT m0 g0 rfl rfl 3 (by decide) qw_163 inlX3 rfl dX3_readSkin_7 (fun v56552 hv56552 ov56552 => ?_)
  obtain ⟨z56553, rfl, rz56553⟩ := okV_i ov56552
  refine lv_if_eq (tgt := 14) hx hb dX3_readSkin_10 (by decide) (fun c56554 => ?_) (fun c56554 => ?_)
  · have w56555 := cv_eq (rfl : z56553.toInt = z56553.toInt) (by decide : (0 : Int32).toInt = 0) c56554
    refine lv_aload_n hx hb dX3_readSkin_14 rfl (lv_at hl 1 rfl) ?_
    refine t_get (C := RX3) (T := TX3) (N := 13) X hT m0 g0 rfl rfl 2 (by decide) qw_162 inlX3 rfl dX3_readSkin_15 (fun v56556 hv56556 ov56556 => ?_)
    obtain rfl : v56556 = .ref x2 := hv56556.symm.trans pf2
    refine t_get (C := RX7) (T := TX7) (N := 7) X hT mx2 gx2 rfl rfl 2 (by decide) qw_401 inlX7 rfl dX3_readSkin_18 (fun v56557 hv56557 ov56557 => ?_)
    obtain ⟨b56558, rfl, mb56558, gb56558⟩ := okV_r ov56557
    have gb56558 : tag b56558 = 8 := tg_of gb56558
    refine lv_iload_n hx hb dX3_readSkin_21 rfl (lv_at hl 0 rfl) ?_
    refine t_ild X hT mb56558 gb56558 rfl (by omega) dX3_readSkin_22 (fun z56559 vz56559 rz56559 => ?_)
    have rz56559 : 0 ≤ z56559.toInt ∧ z56559.toInt ≤ 6 := rz56559
    refine lv_bipush (v := 6) hx hb dX3_readSkin_23 (by decide) ?_
    refine lv_icmp_lt (tgt := 40) hx hb dX3_readSkin_25 (by decide) (fun c56560 => ?_) (fun c56560 => ?_)
    · have w56561 := cv_lt (rfl : z56559.toInt = z56559.toInt) (by decide : (6 : Int32).toInt = 6) c56560
      exact K40 z56551 z56553 _ _ _ _ (by omega) (by omega) hT hfr hrel pf0 pf1 pf2 pf3 pf4 pf5 hv56552 (lv_sub hl [1, 0] rfl)
    · have w56562 := cv_nlt (rfl : z56559.toInt = z56559.toInt) (by decide : (6 : Int32).toInt = 6) c56560
      refine lv_aload_n hx hb dX3_readSkin_28 rfl (lv_at hl 1 rfl) ?_
      refine lv_iconst (v := 5) hx hb dX3_readSkin_29 (by decide) ?_
      refine lv_aload_n hx hb dX3_readSkin_30 rfl (lv_at hl 1 rfl) ?_
      refine t_get (C := RX3) (T := TX3) (N := 13) X hT m0 g0 rfl rfl 0 (by decide) qw_73 inlX3 rfl dX3_readSkin_31 (fun v56563 hv56563 ov56563 => ?_)
      obtain rfl : v56563 = .ref x0 := hv56563.symm.trans pf0
      refine t_get (C := RX8) (T := TX8) (N := 8) X hT mx0 gx0 rfl rfl 5 (by decide) qw_339 inlX8 rfl dX3_readSkin_34 (fun v56564 hv56564 ov56564 => ?_)
      obtain ⟨z56565, rfl, rz56565⟩ := okV_i ov56564
      refine t_cVv (n := 2) (C := RX3) (T := TX3) (N := 13) (As := [.int 5, .int z56565]) (rest := []) X hT (kt111_X3_fail l G tag L F hT.2.2.2 p0 5 z56565 m0 g0 (by decide)) m0 g0 rfl rfl qw_287 qw_288 qw_289 qw_28 qw_290 ⟨rfl, by decide +kernel, by decide +kernel, by decide +kernel⟩ ⟨Nat.le_of_ble_eq_true rfl, Nat.le_of_ble_eq_true rfl⟩ hl rfl rfl (Nat.le_of_ble_eq_true rfl) dX3_readSkin_37 ⟨Nat.le_of_ble_eq_true rfl, Nat.le_of_ble_eq_true rfl⟩ (fun F H locs hT hz56566 => ?_)
      obtain ⟨yz56566, xz56566_0⟩ := hz56566
      have pf0 := (yz56566.1 _ 0 (Or.inr (by decide)) (Or.inr (by decide))).trans pf0
      have pf1 := (yz56566.1 _ 1 (Or.inr (by decide)) (Or.inr (by decide))).trans pf1
      have pf2 := (yz56566.1 _ 2 (Or.inr (by decide)) (Or.inr (by decide))).trans pf2
      have pf3 := (yz56566.1 _ 0 (Or.inr (by decide)) (Or.inr (by decide))).trans pf3
      have pf4 := (yz56566.1 _ 10 (Or.inr (by decide)) (Or.inr (by decide))).trans pf4
      have pf5 := (yz56566.1 _ 11 (Or.inr (by decide)) (Or.inr (by decide))).trans pf5
      have hv56557 := (yz56566.1 _ 2 (Or.inr (by decide)) (Or.inr (by decide))).trans hv56557
      have hv56564 := (yz56566.1 _ 5 (Or.inr (by decide)) (Or.inr (by decide))).trans hv56564
      have hfr : (∀ b j : Nat, (tag b ≠ 24 ∨ j ≠ 2) → (tag b ≠ 24 ∨ j ≠ 3) → (tag b ≠ 24 ∨ j ≠ 4) → (tag b ≠ 24 ∨ j ≠ 5) → (tag b ≠ 24 ∨ j ≠ 6) → (tag b ≠ 24 ∨ j ≠ 7) → (tag b ≠ 25 ∨ j ≠ 3) → (tag b ≠ 25 ∨ j ≠ 4) → fld F b j = fld Fo b j) ∧ EF tag F Fo := ⟨fun b j n24_2 n24_3 n24_4 n24_5 n24_6 n24_7 n25_3 n25_4 => (yz56566.1 b j n25_3 n25_4).trans (hfr.1 b j n24_2 n24_3 n24_4 n24_5 n24_6 n24_7 n25_3 n25_4), fun b j hb => (yz56566.2 b j hb).trans (hfr.2 b j hb)⟩
      have hrel := nsr_of (fun j => yz56566.2 _ j (Or.inl gx4)) (fun j => yz56566.2 _ j (Or.inr gx5)) hrel
      obtain ⟨z56567, qz56567, rz56567⟩ := xz56566_0
      exact K40 z56551 z56567 _ _ _ _ (by omega) (by omega) hT hfr hrel pf0 pf1 pf2 pf3 pf4 pf5 qz56567 (lv_sub hl [1, 0] rfl)
  · have w56568 := cv_ne (rfl : z56553.toInt = z56553.toInt) (by decide : (0 : Int32).toInt = 0) c56554
    exact t_vret hQ X hT ⟨hfr, hrel⟩ (Nat.le_of_ble_eq_true rfl) (Nat.le_of_ble_eq_true rfl) dX3_readSkin_13
set_option maxHeartbeats 4000000 in
set_option maxRecDepth 100000 in
theorem kt142_X3_newName (l : Launch) (G : KG) (tag : Nat → Nat) (L : List Nat) (Fo : Nat → va_E) (ho : okT G ttC tag L Fo) (p0 : Nat) (p1 : Int32) (p2 : Int32) (x0 : Nat) (x1 : Nat) (x2 : Nat) (x3 : Nat) (x4 : Nat) (x5 : Nat) (m0 : p0 ∈ L) (g0 : tag p0 = 25) (h1 : 6 ≤ p1.toInt ∧ p1.toInt ≤ 6) (mx0 : x0 ∈ L) (gx0 : tag x0 = 24) (pf0 : fld Fo p0 0 = .ref x0) (mx1 : x1 ∈ L) (gx1 : tag x1 = 18) (pf1 : fld Fo p0 1 = .ref x1) (mx2 : x2 ∈ L) (gx2 : tag x2 = 19) (pf2 : fld Fo p0 2 = .ref x2) (mx3 : x3 ∈ L) (gx3 : tag x3 = 1) (pf3 : fld Fo x0 0 = .ref x3) (mx4 : x4 ∈ L) (gx4 : tag x4 = 14) (pf4 : fld Fo p0 10 = .ref x4) (mx5 : x5 ∈ L) (gx5 : tag x5 = 15) (pf5 : fld Fo p0 11 = .ref x5) (hrel : NSR Fo x4 x5) : TMv l yX3_newName cX3_newName 3 { frames := 6, cells := 0, slots := 0, locals := 128 } G ttC tag L Fo [.ref p0, .int p1, .int p2] (fun F1 => (∀ b j : Nat, (tag b ≠ 24 ∨ j ≠ 2) → (tag b ≠ 24 ∨ j ≠ 3) → (tag b ≠ 24 ∨ j ≠ 4) → (tag b ≠ 24 ∨ j ≠ 5) → (tag b ≠ 24 ∨ j ≠ 6) → (tag b ≠ 24 ∨ j ≠ 7) → (tag b ≠ 25 ∨ j ≠ 3) → (tag b ≠ 25 ∨ j ≠ 4) → (tag b ≠ 25 ∨ j ≠ 12) → fld F1 b j = fld Fo b j) ∧ (NSR F1 x4 x5)) := by
  refine t_bodyv (y := yX3_newName) (cd := cX3_newName) (mL := 3) (rm := { frames := 6, cells := 0, slots := 0, locals := 128 }) (av := [.ref p0, .int p1, .int p2]) (by decide) (Nat.le_of_ble_eq_true rfl) ho ?_
  intro p e s m args below meth c ls A Q hQ X hT hl
  have hx := X.1.1
  have hb := X.1.2.1
  have hl : lv_has ls 3 [(0, .ref p0), (1, .int p1), (2, .int p2)] := hl
  have rp2 := rg_all p2
  obtain ⟨F, hFo⟩ : ∃ F : Nat → va_E, F = Fo := ⟨_, rfl⟩
  rw [← hFo] at hT pf0 pf1 pf2 pf3 pf4 pf5 hrel
  have hfr : ∀ b j : Nat, (tag b ≠ 24 ∨ j ≠ 2) → (tag b ≠ 24 ∨ j ≠ 3) → (tag b ≠ 24 ∨ j ≠ 4) → (tag b ≠ 24 ∨ j ≠ 5) → (tag b ≠ 24 ∨ j ≠ 6) → (tag b ≠ 24 ∨ j ≠ 7) → (tag b ≠ 25 ∨ j ≠ 3) → (tag b ≠ 25 ∨ j ≠ 4) → (tag b ≠ 25 ∨ j ≠ 12) → fld F b j = fld Fo b j := by
    rw [hFo]
    intros
    rfl
  have K51 : ∀  (F : Nat → va_E) (H : Heap) (locs : List Loc) (ls : Array Slot), TH G ttC A s tag L F H locs → (∀ b j : Nat, (tag b ≠ 24 ∨ j ≠ 2) → (tag b ≠ 24 ∨ j ≠ 3) → (tag b ≠ 24 ∨ j ≠ 4) → (tag b ≠ 24 ∨ j ≠ 5) → (tag b ≠ 24 ∨ j ≠ 6) → (tag b ≠ 24 ∨ j ≠ 7) → (tag b ≠ 25 ∨ j ≠ 3) → (tag b ≠ 25 ∨ j ≠ 4) → (tag b ≠ 25 ∨ j ≠ 12) → fld F b j = fld Fo b j) → NSR F x4 x5 → fld F p0 0 = .ref x0 → fld F p0 1 = .ref x1 → fld F p0 2 = .ref x2 → fld F x0 0 = .ref x3 → fld F p0 10 = .ref x4 → fld F p0 11 = .ref x5 → lv_has ls 3 [(0, .ref p0), (1, .int p1), (2, .int p2)] → W p l e { frames := 6, cells := 0, slots := 0, locals := 128 } s m args below meth c H locs 0 0 Q (F0 m 51 ls []) := by
    intro F H locs ls hT hfr hrel pf0 pf1 pf2 pf3 pf4 pf5 hl
    refine lv_aload_n hx hb dX3_newName_51 rfl (lv_at hl 0 rfl) ?_
    refine t_get (C := RX3) (T := TX3) (N := 13) X hT m0 g0 rfl rfl 3 (by decide) qw_163 inlX3 rfl dX3_newName_52 (fun v57407 hv57407 ov57407 => ?_)
    obtain ⟨z57408, rfl, rz57408⟩ := okV_i ov57407
    refine lv_if_ne (tgt := 67) hx hb dX3_newName_55 (by decide) (fun c57409 => ?_) (fun c57409 => ?_)
    · have w57410 := cv_ne (rfl : z57408.toInt = z57408.toInt) (by decide : (0 : Int32).toInt = 0) c57409
      exact t_vret hQ X hT ⟨hfr, hrel⟩ (Nat.le_of_ble_eq_true rfl) (Nat.le_of_ble_eq_true rfl) dX3_newName_67
    · have w57411 := cv_eq (rfl : z57408.toInt = z57408.toInt) (by decide : (0 : Int32).toInt = 0) c57409
      refine lv_aload_n hx hb dX3_newName_58 rfl (lv_at hl 0 rfl) ?_
      refine t_get (C := RX3) (T := TX3) (N := 13) X hT m0 g0 rfl rfl 12 (by decide) qw_169 inlX3 rfl dX3_newName_59 (fun v57412 hv57412 ov57412 => ?_)
      obtain ⟨z57413, rfl, rz57413⟩ := okV_i ov57412
      refine lv_bipush (v := 20) hx hb dX3_newName_62 (by decide) ?_
      refine lv_icmp_lt (tgt := 68) hx hb dX3_newName_64 (by decide) (fun c57414 => ?_) (fun c57414 => ?_)
      · have w57415 := cv_lt (rfl : z57413.toInt = z57413.toInt) (by decide : (20 : Int32).toInt = 20) c57414
        refine lv_aload_n hx hb dX3_newName_68 rfl (lv_at hl 0 rfl) ?_
        refine t_get (C := RX3) (T := TX3) (N := 13) X hT m0 g0 rfl rfl 9 (by decide) qw_74 inlX3 rfl dX3_newName_69 (fun v57416 hv57416 ov57416 => ?_)
        obtain ⟨b57417, rfl, mb57417, gb57417⟩ := okV_r ov57416
        have gb57417 : tag b57417 = 13 := tg_of gb57417
        refine lv_aload_n hx hb dX3_newName_72 rfl (lv_at hl 0 rfl) ?_
        refine t_get (C := RX3) (T := TX3) (N := 13) X hT m0 g0 rfl rfl 12 (by decide) qw_169 inlX3 rfl dX3_newName_73 (fun v57418 hv57418 ov57418 => ?_)
        obtain rfl : v57418 = .int z57413 := hv57418.symm.trans hv57412
        refine lv_aload_n hx hb dX3_newName_76 rfl (lv_at hl 0 rfl) ?_
        refine t_get (C := RX3) (T := TX3) (N := 13) X hT m0 g0 rfl rfl 0 (by decide) qw_73 inlX3 rfl dX3_newName_77 (fun v57419 hv57419 ov57419 => ?_)
        obtain rfl : v57419 = .ref x0 := hv57419.symm.trans pf0
        refine t_get (C := RX8) (T := TX8) (N := 8) X hT mx0 gx0 rfl rfl 7 (by decide) qw_360 inlX8 rfl dX3_newName_80 (fun v57420 hv57420 ov57420 => ?_)
        obtain ⟨z57421, rfl⟩ := ov57420
        refine t_lst X hT mb57417 gb57417 rfl (by omega) dX3_newName_83 (fun F H locs hT h1v57422 h2v57422 => ?_)
        have pf0 := (h2v57422 _ _).trans pf0
        have pf1 := (h2v57422 _ _).trans pf1
        have pf2 := (h2v57422 _ _).trans pf2
        have pf3 := (h2v57422 _ _).trans pf3
        have pf4 := (h2v57422 _ _).trans pf4
        have pf5 := (h2v57422 _ _).trans pf5
        have hv57407 := (h2v57422 _ _).trans hv57407
        have hv57412 := (h2v57422 _ _).trans hv57412
        have hv57416 := (h2v57422 _ _).trans hv57416
        have hfr : ∀ b j : Nat, (tag b ≠ 24 ∨ j ≠ 2) → (tag b ≠ 24 ∨ j ≠ 3) → (tag b ≠ 24 ∨ j ≠ 4) → (tag b ≠ 24 ∨ j ≠ 5) → (tag b ≠ 24 ∨ j ≠ 6) → (tag b ≠ 24 ∨ j ≠ 7) → (tag b ≠ 25 ∨ j ≠ 3) → (tag b ≠ 25 ∨ j ≠ 4) → (tag b ≠ 25 ∨ j ≠ 12) → fld F b j = fld Fo b j := fun b j n24_2 n24_3 n24_4 n24_5 n24_6 n24_7 n25_3 n25_4 n25_12 => (h2v57422 b j).trans (hfr b j n24_2 n24_3 n24_4 n24_5 n24_6 n24_7 n25_3 n25_4 n25_12)
        have hrel := nsr_of (fun j => h1v57422 _ j) (fun j => h1v57422 _ j) hrel
        refine lv_aload_n hx hb dX3_newName_84 rfl (lv_at hl 0 rfl) ?_
        refine t_get (C := RX3) (T := TX3) (N := 13) X hT m0 g0 rfl rfl 10 (by decide) qw_75 inlX3 rfl dX3_newName_85 (fun v57423 hv57423 ov57423 => ?_)
        obtain rfl : v57423 = .ref x4 := hv57423.symm.trans pf4
        refine lv_aload_n hx hb dX3_newName_88 rfl (lv_at hl 0 rfl) ?_
        refine t_get (C := RX3) (T := TX3) (N := 13) X hT m0 g0 rfl rfl 12 (by decide) qw_169 inlX3 rfl dX3_newName_89 (fun v57424 hv57424 ov57424 => ?_)
        obtain rfl : v57424 = .int z57413 := hv57424.symm.trans hv57412
        refine lv_iload_n hx hb dX3_newName_92 rfl (lv_at hl 1 rfl) ?_
        refine t_ist X hT mx4 gx4 rfl (by omega) (show (-2147483648) ≤ (p1 : Int32).toInt ∧ (p1 : Int32).toInt ≤ 2147483647 from (by omega)) dX3_newName_93 (fun F H locs hT v57425 h1v57425 h2v57425 => ?_)
        have pf0 := (h2v57425 _ _).trans pf0
        have pf1 := (h2v57425 _ _).trans pf1
        have pf2 := (h2v57425 _ _).trans pf2
        have pf3 := (h2v57425 _ _).trans pf3
        have pf4 := (h2v57425 _ _).trans pf4
        have pf5 := (h2v57425 _ _).trans pf5
        have hv57407 := (h2v57425 _ _).trans hv57407
        have hv57412 := (h2v57425 _ _).trans hv57412
        have hv57416 := (h2v57425 _ _).trans hv57416
        have hfr : ∀ b j : Nat, (tag b ≠ 24 ∨ j ≠ 2) → (tag b ≠ 24 ∨ j ≠ 3) → (tag b ≠ 24 ∨ j ≠ 4) → (tag b ≠ 24 ∨ j ≠ 5) → (tag b ≠ 24 ∨ j ≠ 6) → (tag b ≠ 24 ∨ j ≠ 7) → (tag b ≠ 25 ∨ j ≠ 3) → (tag b ≠ 25 ∨ j ≠ 4) → (tag b ≠ 25 ∨ j ≠ 12) → fld F b j = fld Fo b j := fun b j n24_2 n24_3 n24_4 n24_5 n24_6 n24_7 n25_3 n25_4 n25_12 => (h2v57425 b j).trans (hfr b j n24_2 n24_3 n24_4 n24_5 n24_6 n24_7 n25_3 n25_4 n25_12)
        have hrel := nsr_s hrel h1v57425 (tne gx5 gx4 (by decide))
        refine lv_aload_n hx hb dX3_newName_94 rfl (lv_at hl 0 rfl) ?_
        refine t_get (C := RX3) (T := TX3) (N := 13) X hT m0 g0 rfl rfl 11 (by decide) qw_76 inlX3 rfl dX3_newName_95 (fun v57426 hv57426 ov57426 => ?_)
        obtain rfl : v57426 = .ref x5 := hv57426.symm.trans pf5
        refine lv_aload_n hx hb dX3_newName_98 rfl (lv_at hl 0 rfl) ?_
        refine t_get (C := RX3) (T := TX3) (N := 13) X hT m0 g0 rfl rfl 12 (by decide) qw_169 inlX3 rfl dX3_newName_99 (fun v57427 hv57427 ov57427 => ?_)
        obtain rfl : v57427 = .int z57413 := hv57427.symm.trans hv57412
        refine lv_iload_n hx hb dX3_newName_102 rfl (lv_at hl 2 rfl) ?_
        refine t_ist X hT mx5 gx5 rfl (by omega) (show (-2147483648) ≤ (p2 : Int32).toInt ∧ (p2 : Int32).toInt ≤ 2147483647 from (by omega)) dX3_newName_103 (fun F H locs hT v57428 h1v57428 h2v57428 => ?_)
        have pf0 := (h2v57428 _ _).trans pf0
        have pf1 := (h2v57428 _ _).trans pf1
        have pf2 := (h2v57428 _ _).trans pf2
        have pf3 := (h2v57428 _ _).trans pf3
        have pf4 := (h2v57428 _ _).trans pf4
        have pf5 := (h2v57428 _ _).trans pf5
        have hv57407 := (h2v57428 _ _).trans hv57407
        have hv57412 := (h2v57428 _ _).trans hv57412
        have hv57416 := (h2v57428 _ _).trans hv57416
        have hfr : ∀ b j : Nat, (tag b ≠ 24 ∨ j ≠ 2) → (tag b ≠ 24 ∨ j ≠ 3) → (tag b ≠ 24 ∨ j ≠ 4) → (tag b ≠ 24 ∨ j ≠ 5) → (tag b ≠ 24 ∨ j ≠ 6) → (tag b ≠ 24 ∨ j ≠ 7) → (tag b ≠ 25 ∨ j ≠ 3) → (tag b ≠ 25 ∨ j ≠ 4) → (tag b ≠ 25 ∨ j ≠ 12) → fld F b j = fld Fo b j := fun b j n24_2 n24_3 n24_4 n24_5 n24_6 n24_7 n25_3 n25_4 n25_12 => (h2v57428 b j).trans (hfr b j n24_2 n24_3 n24_4 n24_5 n24_6 n24_7 n25_3 n25_4 n25_12)
        have hrel := nsr_n hrel v57425 h1v57428 v57428 (tne gx4 gx5 (by decide)) ⟨fun h9 => (by have h8 := congrArg Int32.toInt h9; rw [show ((4 : Int32).toInt = 4) from by decide] at h8; omega), fun h9 => (by have h8 := congrArg Int32.toInt h9; rw [show ((7 : Int32).toInt = 7) from by decide] at h8; omega)⟩
        refine lv_aload_n hx hb dX3_newName_104 rfl (lv_at hl 0 rfl) ?_
        refine lv_dup hx hb dX3_newName_105 rfl ?_
        refine t_get (C := RX3) (T := TX3) (N := 13) X hT m0 g0 rfl rfl 12 (by decide) qw_169 inlX3 rfl dX3_newName_106 (fun v57429 hv57429 ov57429 => ?_)
        obtain rfl : v57429 = .int z57413 := hv57429.symm.trans hv57412
        refine lv_iconst (v := 1) hx hb dX3_newName_109 (by decide) ?_
        refine lv_iadd hx hb dX3_newName_110 ?_
        refine lv_topi (fun z57430 ez57430 => ?_)
        have hz57430 : z57430.toInt = z57413.toInt + 1 := ar_add ez57430 (rfl : z57413.toInt = z57413.toInt) (by decide : (1 : Int32).toInt = 1) (by omega) (by omega)
        have rz57430 : 1 ≤ z57430.toInt ∧ z57430.toInt ≤ 20 := by omega
        refine t_put (C := RX3) (T := TX3) (N := 13) (v := .int z57430) X hT m0 g0 rfl tyX3 tyX3_ok nmX3 rfl 12 (by decide) qw_169 inlX3 rfl (by first | rfl | decide) (by first | rfl | decide) rfl (⟨_, rfl, (show 0 ≤ (z57430 : Int32).toInt from (by omega)), (show (z57430 : Int32).toInt ≤ 20 from (by omega))⟩) dX3_newName_111 (fun F H locs hT v57431 h1v57431 h2v57431 => ?_)
        have pf0 := (h1v57431 _ _ (Or.inr (by decide))).trans pf0
        have pf1 := (h1v57431 _ _ (Or.inr (by decide))).trans pf1
        have pf2 := (h1v57431 _ _ (Or.inr (by decide))).trans pf2
        have pf3 := (h1v57431 _ _ (Or.inr (by decide))).trans pf3
        have pf4 := (h1v57431 _ _ (Or.inr (by decide))).trans pf4
        have pf5 := (h1v57431 _ _ (Or.inr (by decide))).trans pf5
        have hv57407 := (h1v57431 _ _ (Or.inr (by decide))).trans hv57407
        have hv57416 := (h1v57431 _ _ (Or.inr (by decide))).trans hv57416
        have v57428 := (h2v57431 _ _).trans v57428
        have hfr : ∀ b j : Nat, (tag b ≠ 24 ∨ j ≠ 2) → (tag b ≠ 24 ∨ j ≠ 3) → (tag b ≠ 24 ∨ j ≠ 4) → (tag b ≠ 24 ∨ j ≠ 5) → (tag b ≠ 24 ∨ j ≠ 6) → (tag b ≠ 24 ∨ j ≠ 7) → (tag b ≠ 25 ∨ j ≠ 3) → (tag b ≠ 25 ∨ j ≠ 4) → (tag b ≠ 25 ∨ j ≠ 12) → fld F b j = fld Fo b j := fun b j n24_2 n24_3 n24_4 n24_5 n24_6 n24_7 n25_3 n25_4 n25_12 => (h1v57431 b j (fr_ne g0 n25_12)).trans (hfr b j n24_2 n24_3 n24_4 n24_5 n24_6 n24_7 n25_3 n25_4 n25_12)
        have hrel := nsr_of (fun j => h2v57431 _ j) (fun j => h2v57431 _ j) hrel
        refine lv_aload_n hx hb dX3_newName_114 rfl (lv_at hl 0 rfl) ?_
        refine t_get (C := RX3) (T := TX3) (N := 13) X hT m0 g0 rfl rfl 0 (by decide) qw_73 inlX3 rfl dX3_newName_115 (fun v57432 hv57432 ov57432 => ?_)
        obtain rfl : v57432 = .ref x0 := hv57432.symm.trans pf0
        refine t_cVv (n := 0) (C := RX8) (T := TX8) (N := 8) (As := []) (rest := []) X hT (kt98_X8_advance l G tag L F hT.2.2.2 x0 x3 mx0 gx0 mx3 gx3 pf3) mx0 gx0 rfl rfl qw_305 qw_197 qw_198 qw_72 qw_199 ⟨rfl, by decide +kernel, by decide +kernel, by decide +kernel⟩ ⟨Nat.le_of_ble_eq_true rfl, Nat.le_of_ble_eq_true rfl⟩ hl rfl rfl (Nat.le_of_ble_eq_true rfl) dX3_newName_118 ⟨Nat.le_of_ble_eq_true rfl, Nat.le_of_ble_eq_true rfl⟩ (fun F H locs hT hz57433 => ?_)
        have yz57433 := hz57433
        have pf0 := (yz57433.1 _ 0 (Or.inr (by decide)) (Or.inr (by decide)) (Or.inr (by decide)) (Or.inr (by decide)) (Or.inr (by decide)) (Or.inr (by decide))).trans pf0
        have pf1 := (yz57433.1 _ 1 (Or.inr (by decide)) (Or.inr (by decide)) (Or.inr (by decide)) (Or.inr (by decide)) (Or.inr (by decide)) (Or.inr (by decide))).trans pf1
        have pf2 := (yz57433.1 _ 2 (Or.inl (by rw [g0]; decide)) (Or.inr (by decide)) (Or.inr (by decide)) (Or.inr (by decide)) (Or.inr (by decide)) (Or.inr (by decide))).trans pf2
        have pf3 := (yz57433.1 _ 0 (Or.inr (by decide)) (Or.inr (by decide)) (Or.inr (by decide)) (Or.inr (by decide)) (Or.inr (by decide)) (Or.inr (by decide))).trans pf3
        have pf4 := (yz57433.1 _ 10 (Or.inr (by decide)) (Or.inr (by decide)) (Or.inr (by decide)) (Or.inr (by decide)) (Or.inr (by decide)) (Or.inr (by decide))).trans pf4
        have pf5 := (yz57433.1 _ 11 (Or.inr (by decide)) (Or.inr (by decide)) (Or.inr (by decide)) (Or.inr (by decide)) (Or.inr (by decide)) (Or.inr (by decide))).trans pf5
        have hv57407 := (yz57433.1 _ 3 (Or.inr (by decide)) (Or.inl (by rw [g0]; decide)) (Or.inr (by decide)) (Or.inr (by decide)) (Or.inr (by decide)) (Or.inr (by decide))).trans hv57407
        have hv57416 := (yz57433.1 _ 9 (Or.inr (by decide)) (Or.inr (by decide)) (Or.inr (by decide)) (Or.inr (by decide)) (Or.inr (by decide)) (Or.inr (by decide))).trans hv57416
        have v57428 := (yz57433.2 _ _ (Or.inr gx5)).trans v57428
        have v57431 := (yz57433.1 _ 12 (Or.inr (by decide)) (Or.inr (by decide)) (Or.inr (by decide)) (Or.inr (by decide)) (Or.inr (by decide)) (Or.inr (by decide))).trans v57431
        have hfr : ∀ b j : Nat, (tag b ≠ 24 ∨ j ≠ 2) → (tag b ≠ 24 ∨ j ≠ 3) → (tag b ≠ 24 ∨ j ≠ 4) → (tag b ≠ 24 ∨ j ≠ 5) → (tag b ≠ 24 ∨ j ≠ 6) → (tag b ≠ 24 ∨ j ≠ 7) → (tag b ≠ 25 ∨ j ≠ 3) → (tag b ≠ 25 ∨ j ≠ 4) → (tag b ≠ 25 ∨ j ≠ 12) → fld F b j = fld Fo b j := fun b j n24_2 n24_3 n24_4 n24_5 n24_6 n24_7 n25_3 n25_4 n25_12 => (yz57433.1 b j n24_2 n24_3 n24_4 n24_5 n24_6 n24_7).trans (hfr b j n24_2 n24_3 n24_4 n24_5 n24_6 n24_7 n25_3 n25_4 n25_12)
        have hrel := nsr_of (fun j => yz57433.2 _ j (Or.inl gx4)) (fun j => yz57433.2 _ j (Or.inr gx5)) hrel
        exact t_vret hQ X hT ⟨hfr, hrel⟩ (Nat.le_of_ble_eq_true rfl) (Nat.le_of_ble_eq_true rfl) dX3_newName_121
      · have w57434 := cv_nlt (rfl : z57413.toInt = z57413.toInt) (by decide : (20 : Int32).toInt = 20) c57414
        exact t_vret hQ X hT ⟨hfr, hrel⟩ (Nat.le_of_ble_eq_true rfl) (Nat.le_of_ble_eq_true rfl) dX3_newName_67
  have K31 : ∀  (F : Nat → va_E) (H : Heap) (locs : List Loc) (ls : Array Slot), TH G ttC A s tag L F H locs → (∀ b j : Nat, (tag b ≠ 24 ∨ j ≠ 2) → (tag b ≠ 24 ∨ j ≠ 3) → (tag b ≠ 24 ∨ j ≠ 4) → (tag b ≠ 24 ∨ j ≠ 5) → (tag b ≠ 24 ∨ j ≠ 6) → (tag b ≠ 24 ∨ j ≠ 7) → (tag b ≠ 25 ∨ j ≠ 3) → (tag b ≠ 25 ∨ j ≠ 4) → (tag b ≠ 25 ∨ j ≠ 12) → fld F b j = fld Fo b j) → NSR F x4 x5 → fld F p0 0 = .ref x0 → fld F p0 1 = .ref x1 → fld F p0 2 = .ref x2 → fld F x0 0 = .ref x3 → fld F p0 10 = .ref x4 → fld F p0 11 = .ref x5 → lv_has ls 3 [(0, .ref p0), (1, .int p1), (2, .int p2)] → W p l e { frames := 6, cells := 0, slots := 0, locals := 128 } s m args below meth c H locs 0 0 Q (F0 m 31 ls []) := by
    intro F H locs ls hT hfr hrel pf0 pf1 pf2 pf3 pf4 pf5 hl
    refine lv_aload_n hx hb dX3_newName_31 rfl (lv_at hl 0 rfl) ?_
    refine t_cVi (n := 0) (C := RX3) (T := TX3) (N := 13) (As := []) (rest := []) X hT (kt113_X3_findName l G tag L F hT.2.2.2 p0 x0 x1 x2 x3 x4 x5 m0 g0 mx0 gx0 pf0 mx1 gx1 pf1 mx2 gx2 pf2 mx3 gx3 pf3 mx4 gx4 pf4 mx5 gx5 pf5) m0 g0 rfl rfl qw_361 qw_362 qw_363 qw_28 qw_364 ⟨rfl, by decide +kernel, by decide +kernel, by decide +kernel⟩ ⟨Nat.le_of_ble_eq_true rfl, Nat.le_of_ble_eq_true rfl⟩ hl rfl rfl (Nat.le_of_ble_eq_true rfl) dX3_newName_32 ⟨Nat.le_of_ble_eq_true rfl, Nat.le_of_ble_eq_true rfl⟩ (fun z57435 F9 H locs hT hz57435 => ?_)
    obtain ⟨fz57435, hz57435⟩ := hz57435
    rw [fz57435] at hT
    refine lv_iconst (v := (-1)) hx hb dX3_newName_35 (by decide) ?_
    refine lv_icmp_eq (tgt := 51) hx hb dX3_newName_36 (by decide) (fun c57436 => ?_) (fun c57436 => ?_)
    · have w57437 := cv_eq (rfl : z57435.toInt = z57435.toInt) (by decide : ((-1) : Int32).toInt = (-1)) c57436
      exact K51  _ _ _ _  hT hfr hrel pf0 pf1 pf2 pf3 pf4 pf5 (lv_sub hl [0, 1, 2] rfl)
    · have w57438 := cv_ne (rfl : z57435.toInt = z57435.toInt) (by decide : ((-1) : Int32).toInt = (-1)) c57436
      refine lv_aload_n hx hb dX3_newName_39 rfl (lv_at hl 0 rfl) ?_
      refine lv_iconst (v := 3) hx hb dX3_newName_40 (by decide) ?_
      refine lv_aload_n hx hb dX3_newName_41 rfl (lv_at hl 0 rfl) ?_
      refine t_get (C := RX3) (T := TX3) (N := 13) X hT m0 g0 rfl rfl 0 (by decide) qw_73 inlX3 rfl dX3_newName_42 (fun v57439 hv57439 ov57439 => ?_)
      obtain rfl : v57439 = .ref x0 := hv57439.symm.trans pf0
      refine t_get (C := RX8) (T := TX8) (N := 8) X hT mx0 gx0 rfl rfl 4 (by decide) qw_227 inlX8 rfl dX3_newName_45 (fun v57440 hv57440 ov57440 => ?_)
      obtain ⟨z57441, rfl, rz57441⟩ := okV_i ov57440
      refine t_cVv (n := 2) (C := RX3) (T := TX3) (N := 13) (As := [.int 3, .int z57441]) (rest := []) X hT (kt111_X3_fail l G tag L F hT.2.2.2 p0 3 z57441 m0 g0 (by decide)) m0 g0 rfl rfl qw_287 qw_288 qw_289 qw_28 qw_290 ⟨rfl, by decide +kernel, by decide +kernel, by decide +kernel⟩ ⟨Nat.le_of_ble_eq_true rfl, Nat.le_of_ble_eq_true rfl⟩ hl rfl rfl (Nat.le_of_ble_eq_true rfl) dX3_newName_48 ⟨Nat.le_of_ble_eq_true rfl, Nat.le_of_ble_eq_true rfl⟩ (fun F H locs hT hz57442 => ?_)
      obtain ⟨yz57442, xz57442_0⟩ := hz57442
      have pf0 := (yz57442.1 _ 0 (Or.inr (by decide)) (Or.inr (by decide))).trans pf0
      have pf1 := (yz57442.1 _ 1 (Or.inr (by decide)) (Or.inr (by decide))).trans pf1
      have pf2 := (yz57442.1 _ 2 (Or.inr (by decide)) (Or.inr (by decide))).trans pf2
      have pf3 := (yz57442.1 _ 0 (Or.inr (by decide)) (Or.inr (by decide))).trans pf3
      have pf4 := (yz57442.1 _ 10 (Or.inr (by decide)) (Or.inr (by decide))).trans pf4
      have pf5 := (yz57442.1 _ 11 (Or.inr (by decide)) (Or.inr (by decide))).trans pf5
      have hv57440 := (yz57442.1 _ 4 (Or.inr (by decide)) (Or.inl (by rw [gx0]; decide))).trans hv57440
      have hfr : ∀ b j : Nat, (tag b ≠ 24 ∨ j ≠ 2) → (tag b ≠ 24 ∨ j ≠ 3) → (tag b ≠ 24 ∨ j ≠ 4) → (tag b ≠ 24 ∨ j ≠ 5) → (tag b ≠ 24 ∨ j ≠ 6) → (tag b ≠ 24 ∨ j ≠ 7) → (tag b ≠ 25 ∨ j ≠ 3) → (tag b ≠ 25 ∨ j ≠ 4) → (tag b ≠ 25 ∨ j ≠ 12) → fld F b j = fld Fo b j := fun b j n24_2 n24_3 n24_4 n24_5 n24_6 n24_7 n25_3 n25_4 n25_12 => (yz57442.1 b j n25_3 n25_4).trans (hfr b j n24_2 n24_3 n24_4 n24_5 n24_6 n24_7 n25_3 n25_4 n25_12)
      have hrel := nsr_of (fun j => yz57442.2 _ j (Or.inl gx4)) (fun j => yz57442.2 _ j (Or.inr gx5)) hrel
      obtain ⟨z57443, qz57443, rz57443⟩ := xz57442_0
      exact K51  _ _ _ _  hT hfr hrel pf0 pf1 pf2 pf3 pf4 pf5 (lv_sub hl [0, 1, 2] rfl)
  have K19 : ∀  (F : Nat → va_E) (H : Heap) (locs : List Loc) (ls : Array Slot), TH G ttC A s tag L F H locs → (∀ b j : Nat, (tag b ≠ 24 ∨ j ≠ 2) → (tag b ≠ 24 ∨ j ≠ 3) → (tag b ≠ 24 ∨ j ≠ 4) → (tag b ≠ 24 ∨ j ≠ 5) → (tag b ≠ 24 ∨ j ≠ 6) → (tag b ≠ 24 ∨ j ≠ 7) → (tag b ≠ 25 ∨ j ≠ 3) → (tag b ≠ 25 ∨ j ≠ 4) → (tag b ≠ 25 ∨ j ≠ 12) → fld F b j = fld Fo b j) → NSR F x4 x5 → fld F p0 0 = .ref x0 → fld F p0 1 = .ref x1 → fld F p0 2 = .ref x2 → fld F x0 0 = .ref x3 → fld F p0 10 = .ref x4 → fld F p0 11 = .ref x5 → lv_has ls 3 [(0, .ref p0), (1, .int p1), (2, .int p2)] → W p l e { frames := 6, cells := 0, slots := 0, locals := 128 } s m args below meth c H locs 0 0 Q (F0 m 19 ls []) := by
    intro F H locs ls hT hfr hrel pf0 pf1 pf2 pf3 pf4 pf5 hl
    refine lv_aload_n hx hb dX3_newName_19 rfl (lv_at hl 0 rfl) ?_
    refine lv_iconst (v := 1) hx hb dX3_newName_20 (by decide) ?_
    refine lv_aload_n hx hb dX3_newName_21 rfl (lv_at hl 0 rfl) ?_
    refine t_get (C := RX3) (T := TX3) (N := 13) X hT m0 g0 rfl rfl 0 (by decide) qw_73 inlX3 rfl dX3_newName_22 (fun v57444 hv57444 ov57444 => ?_)
    obtain rfl : v57444 = .ref x0 := hv57444.symm.trans pf0
    refine t_get (C := RX8) (T := TX8) (N := 8) X hT mx0 gx0 rfl rfl 4 (by decide) qw_227 inlX8 rfl dX3_newName_25 (fun v57445 hv57445 ov57445 => ?_)
    obtain ⟨z57446, rfl, rz57446⟩ := okV_i ov57445
    refine t_cVv (n := 2) (C := RX3) (T := TX3) (N := 13) (As := [.int 1, .int z57446]) (rest := []) X hT (kt111_X3_fail l G tag L F hT.2.2.2 p0 1 z57446 m0 g0 (by decide)) m0 g0 rfl rfl qw_287 qw_288 qw_289 qw_28 qw_290 ⟨rfl, by decide +kernel, by decide +kernel, by decide +kernel⟩ ⟨Nat.le_of_ble_eq_true rfl, Nat.le_of_ble_eq_true rfl⟩ hl rfl rfl (Nat.le_of_ble_eq_true rfl) dX3_newName_28 ⟨Nat.le_of_ble_eq_true rfl, Nat.le_of_ble_eq_true rfl⟩ (fun F H locs hT hz57447 => ?_)
    obtain ⟨yz57447, xz57447_0⟩ := hz57447
    have pf0 := (yz57447.1 _ 0 (Or.inr (by decide)) (Or.inr (by decide))).trans pf0
    have pf1 := (yz57447.1 _ 1 (Or.inr (by decide)) (Or.inr (by decide))).trans pf1
    have pf2 := (yz57447.1 _ 2 (Or.inr (by decide)) (Or.inr (by decide))).trans pf2
    have pf3 := (yz57447.1 _ 0 (Or.inr (by decide)) (Or.inr (by decide))).trans pf3
    have pf4 := (yz57447.1 _ 10 (Or.inr (by decide)) (Or.inr (by decide))).trans pf4
    have pf5 := (yz57447.1 _ 11 (Or.inr (by decide)) (Or.inr (by decide))).trans pf5
    have hv57445 := (yz57447.1 _ 4 (Or.inr (by decide)) (Or.inl (by rw [gx0]; decide))).trans hv57445
    have hfr : ∀ b j : Nat, (tag b ≠ 24 ∨ j ≠ 2) → (tag b ≠ 24 ∨ j ≠ 3) → (tag b ≠ 24 ∨ j ≠ 4) → (tag b ≠ 24 ∨ j ≠ 5) → (tag b ≠ 24 ∨ j ≠ 6) → (tag b ≠ 24 ∨ j ≠ 7) → (tag b ≠ 25 ∨ j ≠ 3) → (tag b ≠ 25 ∨ j ≠ 4) → (tag b ≠ 25 ∨ j ≠ 12) → fld F b j = fld Fo b j := fun b j n24_2 n24_3 n24_4 n24_5 n24_6 n24_7 n25_3 n25_4 n25_12 => (yz57447.1 b j n25_3 n25_4).trans (hfr b j n24_2 n24_3 n24_4 n24_5 n24_6 n24_7 n25_3 n25_4 n25_12)
    have hrel := nsr_of (fun j => yz57447.2 _ j (Or.inl gx4)) (fun j => yz57447.2 _ j (Or.inr gx5)) hrel
    obtain ⟨z57448, qz57448, rz57448⟩ := xz57447_0
    exact K31  _ _ _ _  hT hfr hrel pf0 pf1 pf2 pf3 pf4 pf5 (lv_sub hl [0, 1, 2] rfl)
  refine lv_aload_n hx hb dX3_newName_0 rfl (lv_at hl 0 rfl) ?_
  refine t_get (C := RX3) (T := TX3) (N := 13) X hT m0 g0 rfl rfl 0 (by decide) qw_73 inlX3 rfl dX3_newName_1 (fun v57449 hv57449 ov57449 => ?_)
  obtain rfl : v57449 = .ref x0 := hv57449.symm.trans pf0
  refine t_get (C := RX8) (T := TX8) (N := 8) X hT mx0 gx0 rfl rfl 3 (by decide) qw_170 inlX8 rfl dX3_newName_4 (fun v57450 hv57450 ov57450 => ?_)
  obtain ⟨z57451, rfl, rz57451⟩ := okV_i ov57450
  refine lv_iconst (v := 1) hx hb dX3_newName_7 (by decide) ?_
  refine lv_icmp_ne (tgt := 19) hx hb dX3_newName_8 (by decide) (fun c57452 => ?_) (fun c57452 => ?_)
  · have w57453 := cv_ne (rfl : z57451.toInt = z57451.toInt) (by decide : (1 : Int32).toInt = 1) c57452
    exact K19  _ _ _ _  hT hfr hrel pf0 pf1 pf2 pf3 pf4 pf5 (lv_sub hl [0, 1, 2] rfl)
  · have w57454 := cv_eq (rfl : z57451.toInt = z57451.toInt) (by decide : (1 : Int32).toInt = 1) c57452
    refine lv_aload_n hx hb dX3_newName_11 rfl (lv_at hl 0 rfl) ?_
    refine t_cVi (n := 0) (C := RX3) (T := TX3) (N := 13) (As := []) (rest := []) X hT (kt108_X3_lineSort l G tag L F hT.2.2.2 p0 x0 x1 x2 x3 x4 x5 m0 g0 mx0 gx0 pf0 mx1 gx1 pf1 mx2 gx2 pf2 mx3 gx3 pf3 mx4 gx4 pf4 mx5 gx5 pf5) m0 g0 rfl rfl qw_230 qw_231 qw_232 qw_28 qw_233 ⟨rfl, by decide +kernel, by decide +kernel, by decide +kernel⟩ ⟨Nat.le_of_ble_eq_true rfl, Nat.le_of_ble_eq_true rfl⟩ hl rfl rfl (Nat.le_of_ble_eq_true rfl) dX3_newName_12 ⟨Nat.le_of_ble_eq_true rfl, Nat.le_of_ble_eq_true rfl⟩ (fun z57455 F9 H locs hT hz57455 => ?_)
    obtain ⟨fz57455, hz57455⟩ := hz57455
    rw [fz57455] at hT
    refine lv_iconst (v := (-1)) hx hb dX3_newName_15 (by decide) ?_
    refine lv_icmp_eq (tgt := 31) hx hb dX3_newName_16 (by decide) (fun c57456 => ?_) (fun c57456 => ?_)
    · have w57457 := cv_eq (rfl : z57455.toInt = z57455.toInt) (by decide : ((-1) : Int32).toInt = (-1)) c57456
      exact K31  _ _ _ _  hT hfr hrel pf0 pf1 pf2 pf3 pf4 pf5 (lv_sub hl [0, 1, 2] rfl)
    · have w57458 := cv_ne (rfl : z57455.toInt = z57455.toInt) (by decide : ((-1) : Int32).toInt = (-1)) c57456
      exact K19  _ _ _ _  hT hfr hrel pf0 pf1 pf2 pf3 pf4 pf5 (lv_sub hl [0, 1, 2] rfl)
set_option maxHeartbeats 4000000 in
set_option maxRecDepth 100000 in
theorem kt143_X3_readHeir (l : Launch) (G : KG) (tag : Nat → Nat) (L : List Nat) (Fo : Nat → va_E) (ho : okT G ttC tag L Fo) (p0 : Nat) (x0 : Nat) (x1 : Nat) (x2 : Nat) (x3 : Nat) (x4 : Nat) (x5 : Nat) (m0 : p0 ∈ L) (g0 : tag p0 = 25) (mx0 : x0 ∈ L) (gx0 : tag x0 = 24) (pf0 : fld Fo p0 0 = .ref x0) (mx1 : x1 ∈ L) (gx1 : tag x1 = 18) (pf1 : fld Fo p0 1 = .ref x1) (mx2 : x2 ∈ L) (gx2 : tag x2 = 19) (pf2 : fld Fo p0 2 = .ref x2) (mx3 : x3 ∈ L) (gx3 : tag x3 = 1) (pf3 : fld Fo x0 0 = .ref x3) (mx4 : x4 ∈ L) (gx4 : tag x4 = 14) (pf4 : fld Fo p0 10 = .ref x4) (mx5 : x5 ∈ L) (gx5 : tag x5 = 15) (pf5 : fld Fo p0 11 = .ref x5) (hrel : NSR Fo x4 x5) : TMv l yX3_readHeir cX3_readHeir 4 { frames := 7, cells := 0, slots := 0, locals := 150 } G ttC tag L Fo [.ref p0] (fun F1 => (∀ b j : Nat, (tag b ≠ 18 ∨ j ≠ 14) → (tag b ≠ 24 ∨ j ≠ 2) → (tag b ≠ 24 ∨ j ≠ 3) → (tag b ≠ 24 ∨ j ≠ 4) → (tag b ≠ 24 ∨ j ≠ 5) → (tag b ≠ 24 ∨ j ≠ 6) → (tag b ≠ 24 ∨ j ≠ 7) → (tag b ≠ 25 ∨ j ≠ 3) → (tag b ≠ 25 ∨ j ≠ 4) → (tag b ≠ 25 ∨ j ≠ 12) → fld F1 b j = fld Fo b j) ∧ (NSR F1 x4 x5)) := by
  refine t_bodyv (y := yX3_readHeir) (cd := cX3_readHeir) (mL := 4) (rm := { frames := 7, cells := 0, slots := 0, locals := 150 }) (av := [.ref p0]) (by decide) (Nat.le_of_ble_eq_true rfl) ho ?_
  intro p e s m args below meth c ls A Q hQ X hT hl
  have hx := X.1.1
  have hb := X.1.2.1
  have hl : lv_has ls 4 [(0, .ref p0)] := hl
  obtain ⟨F, hFo⟩ : ∃ F : Nat → va_E, F = Fo := ⟨_, rfl⟩
  rw [← hFo] at hT pf0 pf1 pf2 pf3 pf4 pf5 hrel
  have hfr : ∀ b j : Nat, (tag b ≠ 18 ∨ j ≠ 14) → (tag b ≠ 24 ∨ j ≠ 2) → (tag b ≠ 24 ∨ j ≠ 3) → (tag b ≠ 24 ∨ j ≠ 4) → (tag b ≠ 24 ∨ j ≠ 5) → (tag b ≠ 24 ∨ j ≠ 6) → (tag b ≠ 24 ∨ j ≠ 7) → (tag b ≠ 25 ∨ j ≠ 3) → (tag b ≠ 25 ∨ j ≠ 4) → (tag b ≠ 25 ∨ j ≠ 12) → fld F b j = fld Fo b j := by
    rw [hFo]
    intros
    rfl
  refine lv_aload_n hx hb dX3_readHeir_0 rfl (lv_at hl 0 rfl) ?_
  refine t_get (C := RX3) (T := TX3) (N := 13) X hT m0 g0 rfl rfl 1 (by decide) qw_161 inlX3 rfl dX3_readHeir_1 (fun v57786 hv57786 ov57786 => ?_)
  obtain rfl : v57786 = .ref x1 := hv57786.symm.trans pf1
  refine t_get (C := RX1) (T := TX1) (N := 20) X hT mx1 gx1 rfl rfl 14 (by decide) qw_303 inlX1 rfl dX3_readHeir_4 (fun v57787 hv57787 ov57787 => ?_)
  obtain ⟨z57788, rfl, rz57788⟩ := okV_i ov57787
  refine lv_istore_n (lv' := [(1, .int z57788), (0, .ref p0)]) hx hb dX3_readHeir_7 rfl hl (by decide) rfl (fun ls hl => ?_)
  refine lv_aload_n hx hb dX3_readHeir_8 rfl (lv_at hl 1 rfl) ?_
  refine lv_bipush (v := 6) hx hb dX3_readHeir_9 (by decide) ?_
  refine lv_iload_n hx hb dX3_readHeir_11 rfl (lv_at hl 0 rfl) ?_
  refine t_cVv (n := 2) (C := RX3) (T := TX3) (N := 13) (As := [.int 6, .int z57788]) (rest := []) X hT (kt142_X3_newName l G tag L F hT.2.2.2 p0 6 z57788 x0 x1 x2 x3 x4 x5 m0 g0 (by decide) mx0 gx0 pf0 mx1 gx1 pf1 mx2 gx2 pf2 mx3 gx3 pf3 mx4 gx4 pf4 mx5 gx5 pf5 hrel) m0 g0 rfl rfl qw_356 qw_357 qw_358 qw_28 qw_359 ⟨rfl, by decide +kernel, by decide +kernel, by decide +kernel⟩ ⟨Nat.le_of_ble_eq_true rfl, Nat.le_of_ble_eq_true rfl⟩ hl rfl rfl (Nat.le_of_ble_eq_true rfl) dX3_readHeir_12 ⟨Nat.le_of_ble_eq_true rfl, Nat.le_of_ble_eq_true rfl⟩ (fun F H locs hT hz57789 => ?_)
  obtain ⟨yz57789, hrel⟩ := hz57789
  have pf0 := (yz57789 _ 0 (Or.inr (by decide)) (Or.inr (by decide)) (Or.inr (by decide)) (Or.inr (by decide)) (Or.inr (by decide)) (Or.inr (by decide)) (Or.inr (by decide)) (Or.inr (by decide)) (Or.inr (by decide))).trans pf0
  have pf1 := (yz57789 _ 1 (Or.inr (by decide)) (Or.inr (by decide)) (Or.inr (by decide)) (Or.inr (by decide)) (Or.inr (by decide)) (Or.inr (by decide)) (Or.inr (by decide)) (Or.inr (by decide)) (Or.inr (by decide))).trans pf1
  have pf2 := (yz57789 _ 2 (Or.inl (by rw [g0]; decide)) (Or.inr (by decide)) (Or.inr (by decide)) (Or.inr (by decide)) (Or.inr (by decide)) (Or.inr (by decide)) (Or.inr (by decide)) (Or.inr (by decide)) (Or.inr (by decide))).trans pf2
  have pf3 := (yz57789 _ 0 (Or.inr (by decide)) (Or.inr (by decide)) (Or.inr (by decide)) (Or.inr (by decide)) (Or.inr (by decide)) (Or.inr (by decide)) (Or.inr (by decide)) (Or.inr (by decide)) (Or.inr (by decide))).trans pf3
  have pf4 := (yz57789 _ 10 (Or.inr (by decide)) (Or.inr (by decide)) (Or.inr (by decide)) (Or.inr (by decide)) (Or.inr (by decide)) (Or.inr (by decide)) (Or.inr (by decide)) (Or.inr (by decide)) (Or.inr (by decide))).trans pf4
  have pf5 := (yz57789 _ 11 (Or.inr (by decide)) (Or.inr (by decide)) (Or.inr (by decide)) (Or.inr (by decide)) (Or.inr (by decide)) (Or.inr (by decide)) (Or.inr (by decide)) (Or.inr (by decide)) (Or.inr (by decide))).trans pf5
  have hv57787 := (yz57789 _ 14 (Or.inr (by decide)) (Or.inr (by decide)) (Or.inr (by decide)) (Or.inr (by decide)) (Or.inr (by decide)) (Or.inr (by decide)) (Or.inr (by decide)) (Or.inr (by decide)) (Or.inr (by decide))).trans hv57787
  have hfr : ∀ b j : Nat, (tag b ≠ 18 ∨ j ≠ 14) → (tag b ≠ 24 ∨ j ≠ 2) → (tag b ≠ 24 ∨ j ≠ 3) → (tag b ≠ 24 ∨ j ≠ 4) → (tag b ≠ 24 ∨ j ≠ 5) → (tag b ≠ 24 ∨ j ≠ 6) → (tag b ≠ 24 ∨ j ≠ 7) → (tag b ≠ 25 ∨ j ≠ 3) → (tag b ≠ 25 ∨ j ≠ 4) → (tag b ≠ 25 ∨ j ≠ 12) → fld F b j = fld Fo b j := fun b j n18_14 n24_2 n24_3 n24_4 n24_5 n24_6 n24_7 n25_3 n25_4 n25_12 => (yz57789 b j n24_2 n24_3 n24_4 n24_5 n24_6 n24_7 n25_3 n25_4 n25_12).trans (hfr b j n18_14 n24_2 n24_3 n24_4 n24_5 n24_6 n24_7 n25_3 n25_4 n25_12)
  refine lv_aload_n hx hb dX3_readHeir_15 rfl (lv_at hl 1 rfl) ?_
  refine lv_iconst (v := 4) hx hb dX3_readHeir_16 (by decide) ?_
  refine t_cVi (n := 1) (C := RX3) (T := TX3) (N := 13) (As := [.int 4]) (rest := []) X hT (kt139_X3_name l G tag L F hT.2.2.2 p0 4 x0 x1 x2 x3 x4 x5 m0 g0 (by decide) mx0 gx0 pf0 mx1 gx1 pf1 mx2 gx2 pf2 mx3 gx3 pf3 mx4 gx4 pf4 mx5 gx5 pf5 hrel) m0 g0 rfl rfl qw_393 qw_394 qw_395 qw_28 qw_396 ⟨rfl, by decide +kernel, by decide +kernel, by decide +kernel⟩ ⟨Nat.le_of_ble_eq_true rfl, Nat.le_of_ble_eq_true rfl⟩ hl rfl rfl (Nat.le_of_ble_eq_true rfl) dX3_readHeir_17 ⟨Nat.le_of_ble_eq_true rfl, Nat.le_of_ble_eq_true rfl⟩ (fun z57790 F H locs hT hz57790 => ?_)
  obtain ⟨hz57790, yz57790, hrel⟩ := hz57790
  have pf0 := (yz57790.1 _ 0 (Or.inr (by decide)) (Or.inr (by decide)) (Or.inr (by decide)) (Or.inr (by decide)) (Or.inr (by decide)) (Or.inr (by decide)) (Or.inr (by decide)) (Or.inr (by decide))).trans pf0
  have pf1 := (yz57790.1 _ 1 (Or.inr (by decide)) (Or.inr (by decide)) (Or.inr (by decide)) (Or.inr (by decide)) (Or.inr (by decide)) (Or.inr (by decide)) (Or.inr (by decide)) (Or.inr (by decide))).trans pf1
  have pf2 := (yz57790.1 _ 2 (Or.inl (by rw [g0]; decide)) (Or.inr (by decide)) (Or.inr (by decide)) (Or.inr (by decide)) (Or.inr (by decide)) (Or.inr (by decide)) (Or.inr (by decide)) (Or.inr (by decide))).trans pf2
  have pf3 := (yz57790.1 _ 0 (Or.inr (by decide)) (Or.inr (by decide)) (Or.inr (by decide)) (Or.inr (by decide)) (Or.inr (by decide)) (Or.inr (by decide)) (Or.inr (by decide)) (Or.inr (by decide))).trans pf3
  have pf4 := (yz57790.1 _ 10 (Or.inr (by decide)) (Or.inr (by decide)) (Or.inr (by decide)) (Or.inr (by decide)) (Or.inr (by decide)) (Or.inr (by decide)) (Or.inr (by decide)) (Or.inr (by decide))).trans pf4
  have pf5 := (yz57790.1 _ 11 (Or.inr (by decide)) (Or.inr (by decide)) (Or.inr (by decide)) (Or.inr (by decide)) (Or.inr (by decide)) (Or.inr (by decide)) (Or.inr (by decide)) (Or.inr (by decide))).trans pf5
  have hv57787 := (yz57790.1 _ 14 (Or.inr (by decide)) (Or.inr (by decide)) (Or.inr (by decide)) (Or.inr (by decide)) (Or.inr (by decide)) (Or.inr (by decide)) (Or.inr (by decide)) (Or.inr (by decide))).trans hv57787
  have hfr : ∀ b j : Nat, (tag b ≠ 18 ∨ j ≠ 14) → (tag b ≠ 24 ∨ j ≠ 2) → (tag b ≠ 24 ∨ j ≠ 3) → (tag b ≠ 24 ∨ j ≠ 4) → (tag b ≠ 24 ∨ j ≠ 5) → (tag b ≠ 24 ∨ j ≠ 6) → (tag b ≠ 24 ∨ j ≠ 7) → (tag b ≠ 25 ∨ j ≠ 3) → (tag b ≠ 25 ∨ j ≠ 4) → (tag b ≠ 25 ∨ j ≠ 12) → fld F b j = fld Fo b j := fun b j n18_14 n24_2 n24_3 n24_4 n24_5 n24_6 n24_7 n25_3 n25_4 n25_12 => (yz57790.1 b j n24_2 n24_3 n24_4 n24_5 n24_6 n24_7 n25_3 n25_4).trans (hfr b j n18_14 n24_2 n24_3 n24_4 n24_5 n24_6 n24_7 n25_3 n25_4 n25_12)
  refine lv_istore_n (lv' := [(2, .int z57790), (1, .int z57788), (0, .ref p0)]) hx hb dX3_readHeir_20 rfl hl (by decide) rfl (fun ls hl => ?_)
  refine lv_aload_n hx hb dX3_readHeir_21 rfl (lv_at hl 2 rfl) ?_
  refine lv_iconst (v := 0) hx hb dX3_readHeir_22 (by decide) ?_
  refine lv_aload_n hx hb dX3_readHeir_23 rfl (lv_at hl 2 rfl) ?_
  refine t_get (C := RX3) (T := TX3) (N := 13) X hT m0 g0 rfl rfl 2 (by decide) qw_162 inlX3 rfl dX3_readHeir_24 (fun v57791 hv57791 ov57791 => ?_)
  obtain rfl : v57791 = .ref x2 := hv57791.symm.trans pf2
  refine t_get (C := RX7) (T := TX7) (N := 7) X hT mx2 gx2 rfl rfl 2 (by decide) qw_401 inlX7 rfl dX3_readHeir_27 (fun v57792 hv57792 ov57792 => ?_)
  obtain ⟨b57793, rfl, mb57793, gb57793⟩ := okV_r ov57792
  have gb57793 : tag b57793 = 8 := tg_of gb57793
  refine lv_iload_n hx hb dX3_readHeir_30 rfl (lv_at hl 0 rfl) ?_
  refine t_ild X hT mb57793 gb57793 rfl (by omega) dX3_readHeir_31 (fun z57794 vz57794 rz57794 => ?_)
  have rz57794 : 0 ≤ z57794.toInt ∧ z57794.toInt ≤ 6 := rz57794
  refine t_cVi (n := 2) (C := RX3) (T := TX3) (N := 13) (As := [.int 0, .int z57794]) (rest := []) X hT (kt116_X3_whole l G tag L F hT.2.2.2 p0 0 z57794 x0 x1 x2 x3 x4 x5 m0 g0 (by decide) (by omega) mx0 gx0 pf0 mx1 gx1 pf1 mx2 gx2 pf2 mx3 gx3 pf3 mx4 gx4 pf4 mx5 gx5 pf5) m0 g0 rfl rfl qw_318 qw_319 qw_320 qw_28 qw_321 ⟨rfl, by decide +kernel, by decide +kernel, by decide +kernel⟩ ⟨Nat.le_of_ble_eq_true rfl, Nat.le_of_ble_eq_true rfl⟩ hl rfl rfl (Nat.le_of_ble_eq_true rfl) dX3_readHeir_32 ⟨Nat.le_of_ble_eq_true rfl, Nat.le_of_ble_eq_true rfl⟩ (fun z57795 F H locs hT hz57795 => ?_)
  obtain ⟨hz57795, yz57795⟩ := hz57795
  have pf0 := (yz57795.1 _ 0 (Or.inr (by decide)) (Or.inr (by decide)) (Or.inr (by decide)) (Or.inr (by decide)) (Or.inr (by decide)) (Or.inr (by decide)) (Or.inr (by decide)) (Or.inr (by decide))).trans pf0
  have pf1 := (yz57795.1 _ 1 (Or.inr (by decide)) (Or.inr (by decide)) (Or.inr (by decide)) (Or.inr (by decide)) (Or.inr (by decide)) (Or.inr (by decide)) (Or.inr (by decide)) (Or.inr (by decide))).trans pf1
  have pf2 := (yz57795.1 _ 2 (Or.inl (by rw [g0]; decide)) (Or.inr (by decide)) (Or.inr (by decide)) (Or.inr (by decide)) (Or.inr (by decide)) (Or.inr (by decide)) (Or.inr (by decide)) (Or.inr (by decide))).trans pf2
  have pf3 := (yz57795.1 _ 0 (Or.inr (by decide)) (Or.inr (by decide)) (Or.inr (by decide)) (Or.inr (by decide)) (Or.inr (by decide)) (Or.inr (by decide)) (Or.inr (by decide)) (Or.inr (by decide))).trans pf3
  have pf4 := (yz57795.1 _ 10 (Or.inr (by decide)) (Or.inr (by decide)) (Or.inr (by decide)) (Or.inr (by decide)) (Or.inr (by decide)) (Or.inr (by decide)) (Or.inr (by decide)) (Or.inr (by decide))).trans pf4
  have pf5 := (yz57795.1 _ 11 (Or.inr (by decide)) (Or.inr (by decide)) (Or.inr (by decide)) (Or.inr (by decide)) (Or.inr (by decide)) (Or.inr (by decide)) (Or.inr (by decide)) (Or.inr (by decide))).trans pf5
  have hv57787 := (yz57795.1 _ 14 (Or.inr (by decide)) (Or.inr (by decide)) (Or.inr (by decide)) (Or.inr (by decide)) (Or.inr (by decide)) (Or.inr (by decide)) (Or.inr (by decide)) (Or.inr (by decide))).trans hv57787
  have hv57792 := (yz57795.1 _ 2 (Or.inl (by rw [gx2]; decide)) (Or.inr (by decide)) (Or.inr (by decide)) (Or.inr (by decide)) (Or.inr (by decide)) (Or.inr (by decide)) (Or.inr (by decide)) (Or.inr (by decide))).trans hv57792
  have hfr : ∀ b j : Nat, (tag b ≠ 18 ∨ j ≠ 14) → (tag b ≠ 24 ∨ j ≠ 2) → (tag b ≠ 24 ∨ j ≠ 3) → (tag b ≠ 24 ∨ j ≠ 4) → (tag b ≠ 24 ∨ j ≠ 5) → (tag b ≠ 24 ∨ j ≠ 6) → (tag b ≠ 24 ∨ j ≠ 7) → (tag b ≠ 25 ∨ j ≠ 3) → (tag b ≠ 25 ∨ j ≠ 4) → (tag b ≠ 25 ∨ j ≠ 12) → fld F b j = fld Fo b j := fun b j n18_14 n24_2 n24_3 n24_4 n24_5 n24_6 n24_7 n25_3 n25_4 n25_12 => (yz57795.1 b j n24_2 n24_3 n24_4 n24_5 n24_6 n24_7 n25_3 n25_4).trans (hfr b j n18_14 n24_2 n24_3 n24_4 n24_5 n24_6 n24_7 n25_3 n25_4 n25_12)
  have hrel := nsr_of (fun j => yz57795.2 _ j (Or.inl gx4)) (fun j => yz57795.2 _ j (Or.inr gx5)) hrel
  refine lv_istore_n (lv' := [(3, .int z57795), (2, .int z57790), (1, .int z57788), (0, .ref p0)]) hx hb dX3_readHeir_35 rfl hl (by decide) rfl (fun ls hl => ?_)
  refine lv_aload_n hx hb dX3_readHeir_36 rfl (lv_at hl 3 rfl) ?_
  refine t_get (C := RX3) (T := TX3) (N := 13) X hT m0 g0 rfl rfl 3 (by decide) qw_163 inlX3 rfl dX3_readHeir_37 (fun v57796 hv57796 ov57796 => ?_)
  obtain ⟨z57797, rfl, rz57797⟩ := okV_i ov57796
  refine lv_if_ne (tgt := 82) hx hb dX3_readHeir_40 (by decide) (fun c57798 => ?_) (fun c57798 => ?_)
  · have w57799 := cv_ne (rfl : z57797.toInt = z57797.toInt) (by decide : (0 : Int32).toInt = 0) c57798
    exact t_vret hQ X hT ⟨hfr, hrel⟩ (Nat.le_of_ble_eq_true rfl) (Nat.le_of_ble_eq_true rfl) dX3_readHeir_82
  · have w57800 := cv_eq (rfl : z57797.toInt = z57797.toInt) (by decide : (0 : Int32).toInt = 0) c57798
    refine lv_iload_n hx hb dX3_readHeir_43 rfl (lv_at hl 2 rfl) ?_
    refine lv_bipush (v := 6) hx hb dX3_readHeir_44 (by decide) ?_
    refine lv_icmp_ge (tgt := 82) hx hb dX3_readHeir_46 (by decide) (fun c57801 => ?_) (fun c57801 => ?_)
    · have w57802 := cv_le (by decide : (6 : Int32).toInt = 6) (rfl : z57788.toInt = z57788.toInt) c57801
      exact t_vret hQ X hT ⟨hfr, hrel⟩ (Nat.le_of_ble_eq_true rfl) (Nat.le_of_ble_eq_true rfl) dX3_readHeir_82
    · have w57803 := cv_nle (by decide : (6 : Int32).toInt = 6) (rfl : z57788.toInt = z57788.toInt) c57801
      refine lv_aload_n hx hb dX3_readHeir_49 rfl (lv_at hl 3 rfl) ?_
      refine t_get (C := RX3) (T := TX3) (N := 13) X hT m0 g0 rfl rfl 1 (by decide) qw_161 inlX3 rfl dX3_readHeir_50 (fun v57804 hv57804 ov57804 => ?_)
      obtain rfl : v57804 = .ref x1 := hv57804.symm.trans pf1
      refine t_get (C := RX1) (T := TX1) (N := 20) X hT mx1 gx1 rfl rfl 15 (by decide) qw_430 inlX1 rfl dX3_readHeir_53 (fun v57805 hv57805 ov57805 => ?_)
      obtain ⟨b57806, rfl, mb57806, gb57806⟩ := okV_r ov57805
      have gb57806 : tag b57806 = 6 := tg_of gb57806
      refine lv_iload_n hx hb dX3_readHeir_56 rfl (lv_at hl 2 rfl) ?_
      refine lv_iload_n hx hb dX3_readHeir_57 rfl (lv_at hl 1 rfl) ?_
      refine t_ist X hT mb57806 gb57806 rfl (by omega) (show 0 ≤ (z57790 : Int32).toInt ∧ (z57790 : Int32).toInt ≤ 3 from (by omega)) dX3_readHeir_58 (fun F H locs hT v57807 h1v57807 h2v57807 => ?_)
      have pf0 := (h2v57807 _ _).trans pf0
      have pf1 := (h2v57807 _ _).trans pf1
      have pf2 := (h2v57807 _ _).trans pf2
      have pf3 := (h2v57807 _ _).trans pf3
      have pf4 := (h2v57807 _ _).trans pf4
      have pf5 := (h2v57807 _ _).trans pf5
      have hv57787 := (h2v57807 _ _).trans hv57787
      have hv57792 := (h2v57807 _ _).trans hv57792
      have hv57796 := (h2v57807 _ _).trans hv57796
      have hv57805 := (h2v57807 _ _).trans hv57805
      have hfr : ∀ b j : Nat, (tag b ≠ 18 ∨ j ≠ 14) → (tag b ≠ 24 ∨ j ≠ 2) → (tag b ≠ 24 ∨ j ≠ 3) → (tag b ≠ 24 ∨ j ≠ 4) → (tag b ≠ 24 ∨ j ≠ 5) → (tag b ≠ 24 ∨ j ≠ 6) → (tag b ≠ 24 ∨ j ≠ 7) → (tag b ≠ 25 ∨ j ≠ 3) → (tag b ≠ 25 ∨ j ≠ 4) → (tag b ≠ 25 ∨ j ≠ 12) → fld F b j = fld Fo b j := fun b j n18_14 n24_2 n24_3 n24_4 n24_5 n24_6 n24_7 n25_3 n25_4 n25_12 => (h2v57807 b j).trans (hfr b j n18_14 n24_2 n24_3 n24_4 n24_5 n24_6 n24_7 n25_3 n25_4 n25_12)
      have hrel := nsr_of (fun j => h1v57807 _ j (Or.inl (tne gx4 gb57806 (by decide)))) (fun j => h1v57807 _ j (Or.inl (tne gx5 gb57806 (by decide)))) hrel
      refine lv_aload_n hx hb dX3_readHeir_59 rfl (lv_at hl 3 rfl) ?_
      refine t_get (C := RX3) (T := TX3) (N := 13) X hT m0 g0 rfl rfl 2 (by decide) qw_162 inlX3 rfl dX3_readHeir_60 (fun v57808 hv57808 ov57808 => ?_)
      obtain rfl : v57808 = .ref x2 := hv57808.symm.trans pf2
      refine t_get (C := RX7) (T := TX7) (N := 7) X hT mx2 gx2 rfl rfl 5 (by decide) qw_431 inlX7 rfl dX3_readHeir_63 (fun v57809 hv57809 ov57809 => ?_)
      obtain ⟨b57810, rfl, mb57810, gb57810⟩ := okV_r ov57809
      have gb57810 : tag b57810 = 7 := tg_of gb57810
      refine lv_iload_n hx hb dX3_readHeir_66 rfl (lv_at hl 2 rfl) ?_
      refine lv_iload_n hx hb dX3_readHeir_67 rfl (lv_at hl 0 rfl) ?_
      refine t_ist X hT mb57810 gb57810 rfl (by omega) (show (-2147483648) ≤ (z57795 : Int32).toInt ∧ (z57795 : Int32).toInt ≤ 2147483647 from (by omega)) dX3_readHeir_68 (fun F H locs hT v57811 h1v57811 h2v57811 => ?_)
      have pf0 := (h2v57811 _ _).trans pf0
      have pf1 := (h2v57811 _ _).trans pf1
      have pf2 := (h2v57811 _ _).trans pf2
      have pf3 := (h2v57811 _ _).trans pf3
      have pf4 := (h2v57811 _ _).trans pf4
      have pf5 := (h2v57811 _ _).trans pf5
      have hv57787 := (h2v57811 _ _).trans hv57787
      have hv57792 := (h2v57811 _ _).trans hv57792
      have hv57796 := (h2v57811 _ _).trans hv57796
      have hv57805 := (h2v57811 _ _).trans hv57805
      have hv57809 := (h2v57811 _ _).trans hv57809
      have hfr : ∀ b j : Nat, (tag b ≠ 18 ∨ j ≠ 14) → (tag b ≠ 24 ∨ j ≠ 2) → (tag b ≠ 24 ∨ j ≠ 3) → (tag b ≠ 24 ∨ j ≠ 4) → (tag b ≠ 24 ∨ j ≠ 5) → (tag b ≠ 24 ∨ j ≠ 6) → (tag b ≠ 24 ∨ j ≠ 7) → (tag b ≠ 25 ∨ j ≠ 3) → (tag b ≠ 25 ∨ j ≠ 4) → (tag b ≠ 25 ∨ j ≠ 12) → fld F b j = fld Fo b j := fun b j n18_14 n24_2 n24_3 n24_4 n24_5 n24_6 n24_7 n25_3 n25_4 n25_12 => (h2v57811 b j).trans (hfr b j n18_14 n24_2 n24_3 n24_4 n24_5 n24_6 n24_7 n25_3 n25_4 n25_12)
      have hrel := nsr_of (fun j => h1v57811 _ j (Or.inl (tne gx4 gb57810 (by decide)))) (fun j => h1v57811 _ j (Or.inl (tne gx5 gb57810 (by decide)))) hrel
      refine lv_aload_n hx hb dX3_readHeir_69 rfl (lv_at hl 3 rfl) ?_
      refine t_get (C := RX3) (T := TX3) (N := 13) X hT m0 g0 rfl rfl 1 (by decide) qw_161 inlX3 rfl dX3_readHeir_70 (fun v57812 hv57812 ov57812 => ?_)
      obtain rfl : v57812 = .ref x1 := hv57812.symm.trans pf1
      refine lv_dup hx hb dX3_readHeir_73 rfl ?_
      refine t_get (C := RX1) (T := TX1) (N := 20) X hT mx1 gx1 rfl rfl 14 (by decide) qw_303 inlX1 rfl dX3_readHeir_74 (fun v57813 hv57813 ov57813 => ?_)
      obtain rfl : v57813 = .int z57788 := hv57813.symm.trans hv57787
      refine lv_iconst (v := 1) hx hb dX3_readHeir_77 (by decide) ?_
      refine lv_iadd hx hb dX3_readHeir_78 ?_
      refine lv_topi (fun z57814 ez57814 => ?_)
      have hz57814 : z57814.toInt = z57788.toInt + 1 := ar_add ez57814 (rfl : z57788.toInt = z57788.toInt) (by decide : (1 : Int32).toInt = 1) (by omega) (by omega)
      have rz57814 : 1 ≤ z57814.toInt ∧ z57814.toInt ≤ 6 := by omega
      refine t_put (C := RX1) (T := TX1) (N := 20) (v := .int z57814) X hT mx1 gx1 rfl tyX1 tyX1_ok nmX1 rfl 14 (by decide) qw_303 inlX1 rfl (by first | rfl | decide) (by first | rfl | decide) rfl (⟨_, rfl, (show 0 ≤ (z57814 : Int32).toInt from (by omega)), (show (z57814 : Int32).toInt ≤ 6 from (by omega))⟩) dX3_readHeir_79 (fun F H locs hT v57815 h1v57815 h2v57815 => ?_)
      have pf0 := (h1v57815 _ _ (Or.inr (by decide))).trans pf0
      have pf1 := (h1v57815 _ _ (Or.inr (by decide))).trans pf1
      have pf2 := (h1v57815 _ _ (Or.inr (by decide))).trans pf2
      have pf3 := (h1v57815 _ _ (Or.inr (by decide))).trans pf3
      have pf4 := (h1v57815 _ _ (Or.inr (by decide))).trans pf4
      have pf5 := (h1v57815 _ _ (Or.inr (by decide))).trans pf5
      have hv57792 := (h1v57815 _ _ (Or.inr (by decide))).trans hv57792
      have hv57796 := (h1v57815 _ _ (Or.inr (by decide))).trans hv57796
      have hv57805 := (h1v57815 _ _ (Or.inr (by decide))).trans hv57805
      have hv57809 := (h1v57815 _ _ (Or.inr (by decide))).trans hv57809
      have v57811 := (h2v57815 _ _).trans v57811
      have hfr : ∀ b j : Nat, (tag b ≠ 18 ∨ j ≠ 14) → (tag b ≠ 24 ∨ j ≠ 2) → (tag b ≠ 24 ∨ j ≠ 3) → (tag b ≠ 24 ∨ j ≠ 4) → (tag b ≠ 24 ∨ j ≠ 5) → (tag b ≠ 24 ∨ j ≠ 6) → (tag b ≠ 24 ∨ j ≠ 7) → (tag b ≠ 25 ∨ j ≠ 3) → (tag b ≠ 25 ∨ j ≠ 4) → (tag b ≠ 25 ∨ j ≠ 12) → fld F b j = fld Fo b j := fun b j n18_14 n24_2 n24_3 n24_4 n24_5 n24_6 n24_7 n25_3 n25_4 n25_12 => (h1v57815 b j (fr_ne gx1 n18_14)).trans (hfr b j n18_14 n24_2 n24_3 n24_4 n24_5 n24_6 n24_7 n25_3 n25_4 n25_12)
      have hrel := nsr_of (fun j => h2v57815 _ j) (fun j => h2v57815 _ j) hrel
      exact t_vret hQ X hT ⟨hfr, hrel⟩ (Nat.le_of_ble_eq_true rfl) (Nat.le_of_ble_eq_true rfl) dX3_readHeir_82
