set_option maxHeartbeats 4000000 in
set_option maxRecDepth 100000 in
theorem kt169_X3_readOlder (l : Launch) (G : KG) (tag : Nat → Nat) (L : List Nat) (Fo : Nat → va_E) (ho : okT G ttC tag L Fo) (p0 : Nat) (x0 : Nat) (x1 : Nat) (x2 : Nat) (x3 : Nat) (x4 : Nat) (x5 : Nat) (m0 : p0 ∈ L) (g0 : tag p0 = 25) (mx0 : x0 ∈ L) (gx0 : tag x0 = 24) (pf0 : fld Fo p0 0 = .ref x0) (mx1 : x1 ∈ L) (gx1 : tag x1 = 18) (pf1 : fld Fo p0 1 = .ref x1) (mx2 : x2 ∈ L) (gx2 : tag x2 = 19) (pf2 : fld Fo p0 2 = .ref x2) (mx3 : x3 ∈ L) (gx3 : tag x3 = 1) (pf3 : fld Fo x0 0 = .ref x3) (mx4 : x4 ∈ L) (gx4 : tag x4 = 14) (pf4 : fld Fo p0 10 = .ref x4) (mx5 : x5 ∈ L) (gx5 : tag x5 = 15) (pf5 : fld Fo p0 11 = .ref x5) (hrel : NSR Fo x4 x5) : TMv l yX3_readOlder cX3_readOlder 3 { frames := 7, cells := 0, slots := 0, locals := 150 } G ttC tag L Fo [.ref p0] (fun F1 => ((∀ b j : Nat, (tag b ≠ 24 ∨ j ≠ 2) → (tag b ≠ 24 ∨ j ≠ 3) → (tag b ≠ 24 ∨ j ≠ 4) → (tag b ≠ 24 ∨ j ≠ 5) → (tag b ≠ 24 ∨ j ≠ 6) → (tag b ≠ 24 ∨ j ≠ 7) → (tag b ≠ 25 ∨ j ≠ 3) → (tag b ≠ 25 ∨ j ≠ 4) → (tag b ≠ 25 ∨ j ≠ 8) → fld F1 b j = fld Fo b j) ∧ EF tag F1 Fo) ∧ (NSR F1 x4 x5)) := by
  refine t_bodyv (y := yX3_readOlder) (cd := cX3_readOlder) (mL := 3) (rm := { frames := 7, cells := 0, slots := 0, locals := 150 }) (av := [.ref p0]) (by decide) (Nat.le_of_ble_eq_true rfl) ho ?_
  intro p e s m args below meth c ls A Q hQ X hT hl
  have hx := X.1.1
  have hb := X.1.2.1
  have hl : lv_has ls 3 [(0, .ref p0)] := hl
  obtain ⟨F, hFo⟩ : ∃ F : Nat → va_E, F = Fo := ⟨_, rfl⟩
  rw [← hFo] at hT pf0 pf1 pf2 pf3 pf4 pf5 hrel
  have hfr : (∀ b j : Nat, (tag b ≠ 24 ∨ j ≠ 2) → (tag b ≠ 24 ∨ j ≠ 3) → (tag b ≠ 24 ∨ j ≠ 4) → (tag b ≠ 24 ∨ j ≠ 5) → (tag b ≠ 24 ∨ j ≠ 6) → (tag b ≠ 24 ∨ j ≠ 7) → (tag b ≠ 25 ∨ j ≠ 3) → (tag b ≠ 25 ∨ j ≠ 4) → (tag b ≠ 25 ∨ j ≠ 8) → fld F b j = fld Fo b j) ∧ EF tag F Fo := by
    rw [hFo]
    exact ⟨by intros; rfl, fun _ _ _ => rfl⟩
  have K43 : ∀ (z68048 : Int32) (z68049 : Int32) (F : Nat → va_E) (H : Heap) (locs : List Loc) (ls : Array Slot), (0 ≤ z68048.toInt ∧ z68048.toInt ≤ 5) → (0 ≤ z68049.toInt ∧ z68049.toInt ≤ 5) → TH G ttC A s tag L F H locs → ((∀ b j : Nat, (tag b ≠ 24 ∨ j ≠ 2) → (tag b ≠ 24 ∨ j ≠ 3) → (tag b ≠ 24 ∨ j ≠ 4) → (tag b ≠ 24 ∨ j ≠ 5) → (tag b ≠ 24 ∨ j ≠ 6) → (tag b ≠ 24 ∨ j ≠ 7) → (tag b ≠ 25 ∨ j ≠ 3) → (tag b ≠ 25 ∨ j ≠ 4) → (tag b ≠ 25 ∨ j ≠ 8) → fld F b j = fld Fo b j) ∧ EF tag F Fo) → NSR F x4 x5 → fld F p0 0 = .ref x0 → fld F p0 1 = .ref x1 → fld F p0 2 = .ref x2 → fld F x0 0 = .ref x3 → fld F p0 10 = .ref x4 → fld F p0 11 = .ref x5 → lv_has ls 3 [(0, .ref p0), (1, .int z68048), (2, .int z68049)] → W p l e { frames := 7, cells := 0, slots := 0, locals := 150 } s m args below meth c H locs 0 0 Q (F0 m 43 ls []) := by
    intro z68048 z68049 F H locs ls rz68048 rz68049 hT hfr hrel pf0 pf1 pf2 pf3 pf4 pf5 hl
    refine lv_aload_n hx hb dX3_readOlder_43 rfl (lv_at hl 0 rfl) ?_
    refine t_get (C := RX3) (T := TX3) (N := 13) X hT m0 g0 rfl rfl 1 (by decide) qw_161 inlX3 rfl dX3_readOlder_44 (fun v68050 hv68050 ov68050 => ?_)
    obtain rfl : v68050 = .ref x1 := hv68050.symm.trans pf1
    refine t_get (C := RX1) (T := TX1) (N := 20) X hT mx1 gx1 rfl rfl 17 (by decide) qw_440 inlX1 rfl dX3_readOlder_47 (fun v68051 hv68051 ov68051 => ?_)
    obtain ⟨b68052, rfl, mb68052, gb68052⟩ := okV_r ov68051
    have gb68052 : tag b68052 = 7 := tg_of gb68052
    refine lv_iload_n hx hb dX3_readOlder_50 rfl (lv_at hl 2 rfl) ?_
    refine lv_dup2_11 hx hb dX3_readOlder_51 rfl rfl ?_
    refine t_ild X hT mb68052 gb68052 rfl (by omega) dX3_readOlder_52 (fun z68053 vz68053 rz68053 => ?_)
    have rz68053 : (-2147483648) ≤ z68053.toInt ∧ z68053.toInt ≤ 2147483647 := rz68053
    refine lv_iconst (v := 1) hx hb dX3_readOlder_53 (by decide) ?_
    refine lv_iload_n hx hb dX3_readOlder_54 rfl (lv_at hl 1 rfl) ?_
    refine lv_ishl hx hb dX3_readOlder_55 ?_
    refine lv_topi (fun z68054 ez68054 => ?_)
    have rz68054 := rg_all z68054
    refine lv_ior hx hb dX3_readOlder_56 ?_
    refine lv_topi (fun z68055 ez68055 => ?_)
    have rz68055 := rg_all z68055
    refine t_ist X hT mb68052 gb68052 rfl (by omega) (show (-2147483648) ≤ (z68055 : Int32).toInt ∧ (z68055 : Int32).toInt ≤ 2147483647 from (by omega)) dX3_readOlder_57 (fun F H locs hT v68056 h1v68056 h2v68056 => ?_)
    have pf0 := (h2v68056 _ _).trans pf0
    have pf1 := (h2v68056 _ _).trans pf1
    have pf2 := (h2v68056 _ _).trans pf2
    have pf3 := (h2v68056 _ _).trans pf3
    have pf4 := (h2v68056 _ _).trans pf4
    have pf5 := (h2v68056 _ _).trans pf5
    have hv68051 := (h2v68056 _ _).trans hv68051
    have hfr : (∀ b j : Nat, (tag b ≠ 24 ∨ j ≠ 2) → (tag b ≠ 24 ∨ j ≠ 3) → (tag b ≠ 24 ∨ j ≠ 4) → (tag b ≠ 24 ∨ j ≠ 5) → (tag b ≠ 24 ∨ j ≠ 6) → (tag b ≠ 24 ∨ j ≠ 7) → (tag b ≠ 25 ∨ j ≠ 3) → (tag b ≠ 25 ∨ j ≠ 4) → (tag b ≠ 25 ∨ j ≠ 8) → fld F b j = fld Fo b j) ∧ EF tag F Fo := ⟨fun b j n24_2 n24_3 n24_4 n24_5 n24_6 n24_7 n25_3 n25_4 n25_8 => (h2v68056 b j).trans (hfr.1 b j n24_2 n24_3 n24_4 n24_5 n24_6 n24_7 n25_3 n25_4 n25_8), fun b j hb => (h1v68056 b j (Or.inl (ns_ne hb gb68052 (by decide)))).trans (hfr.2 b j hb)⟩
    have hrel := nsr_of (fun j => h1v68056 _ j (Or.inl (tne gx4 gb68052 (by decide)))) (fun j => h1v68056 _ j (Or.inl (tne gx5 gb68052 (by decide)))) hrel
    refine lv_aload_n hx hb dX3_readOlder_58 rfl (lv_at hl 0 rfl) ?_
    refine lv_dup hx hb dX3_readOlder_59 rfl ?_
    refine t_get (C := RX3) (T := TX3) (N := 13) X hT m0 g0 rfl rfl 8 (by decide) qw_168 inlX3 rfl dX3_readOlder_60 (fun v68057 hv68057 ov68057 => ?_)
    obtain ⟨z68058, rfl, rz68058⟩ := okV_i ov68057
    refine lv_iconst (v := 1) hx hb dX3_readOlder_63 (by decide) ?_
    refine lv_iadd hx hb dX3_readOlder_64 ?_
    refine lv_topi (fun z68059 ez68059 => ?_)
    have rz68059 := rg_all z68059
    refine t_put (C := RX3) (T := TX3) (N := 13) (v := .int z68059) X hT m0 g0 rfl tyX3 tyX3_ok nmX3 rfl 8 (by decide) qw_168 inlX3 rfl (by first | rfl | decide) (by first | rfl | decide) rfl (⟨_, rfl, (show (-2147483648) ≤ (z68059 : Int32).toInt from (by omega)), (show (z68059 : Int32).toInt ≤ 2147483647 from (by omega))⟩) dX3_readOlder_65 (fun F H locs hT v68060 h1v68060 h2v68060 => ?_)
    have pf0 := (h1v68060 _ _ (Or.inr (by decide))).trans pf0
    have pf1 := (h1v68060 _ _ (Or.inr (by decide))).trans pf1
    have pf2 := (h1v68060 _ _ (Or.inr (by decide))).trans pf2
    have pf3 := (h1v68060 _ _ (Or.inr (by decide))).trans pf3
    have pf4 := (h1v68060 _ _ (Or.inr (by decide))).trans pf4
    have pf5 := (h1v68060 _ _ (Or.inr (by decide))).trans pf5
    have hv68051 := (h1v68060 _ _ (Or.inr (by decide))).trans hv68051
    have v68056 := (h2v68060 _ _).trans v68056
    have hfr : (∀ b j : Nat, (tag b ≠ 24 ∨ j ≠ 2) → (tag b ≠ 24 ∨ j ≠ 3) → (tag b ≠ 24 ∨ j ≠ 4) → (tag b ≠ 24 ∨ j ≠ 5) → (tag b ≠ 24 ∨ j ≠ 6) → (tag b ≠ 24 ∨ j ≠ 7) → (tag b ≠ 25 ∨ j ≠ 3) → (tag b ≠ 25 ∨ j ≠ 4) → (tag b ≠ 25 ∨ j ≠ 8) → fld F b j = fld Fo b j) ∧ EF tag F Fo := ⟨fun b j n24_2 n24_3 n24_4 n24_5 n24_6 n24_7 n25_3 n25_4 n25_8 => (h1v68060 b j (fr_ne g0 n25_8)).trans (hfr.1 b j n24_2 n24_3 n24_4 n24_5 n24_6 n24_7 n25_3 n25_4 n25_8), fun b j hb => (h2v68060 b j).trans (hfr.2 b j hb)⟩
    have hrel := nsr_of (fun j => h2v68060 _ j) (fun j => h2v68060 _ j) hrel
    exact t_vret hQ X hT ⟨hfr, hrel⟩ (Nat.le_of_ble_eq_true rfl) (Nat.le_of_ble_eq_true rfl) dX3_readOlder_68
  have K31 : ∀ (z68061 : Int32) (z68062 : Int32) (F : Nat → va_E) (H : Heap) (locs : List Loc) (ls : Array Slot), (0 ≤ z68061.toInt ∧ z68061.toInt ≤ 5) → (0 ≤ z68062.toInt ∧ z68062.toInt ≤ 5) → TH G ttC A s tag L F H locs → ((∀ b j : Nat, (tag b ≠ 24 ∨ j ≠ 2) → (tag b ≠ 24 ∨ j ≠ 3) → (tag b ≠ 24 ∨ j ≠ 4) → (tag b ≠ 24 ∨ j ≠ 5) → (tag b ≠ 24 ∨ j ≠ 6) → (tag b ≠ 24 ∨ j ≠ 7) → (tag b ≠ 25 ∨ j ≠ 3) → (tag b ≠ 25 ∨ j ≠ 4) → (tag b ≠ 25 ∨ j ≠ 8) → fld F b j = fld Fo b j) ∧ EF tag F Fo) → NSR F x4 x5 → fld F p0 0 = .ref x0 → fld F p0 1 = .ref x1 → fld F p0 2 = .ref x2 → fld F x0 0 = .ref x3 → fld F p0 10 = .ref x4 → fld F p0 11 = .ref x5 → lv_has ls 3 [(0, .ref p0), (1, .int z68061), (2, .int z68062)] → W p l e { frames := 7, cells := 0, slots := 0, locals := 150 } s m args below meth c H locs 0 0 Q (F0 m 31 ls []) := by
    intro z68061 z68062 F H locs ls rz68061 rz68062 hT hfr hrel pf0 pf1 pf2 pf3 pf4 pf5 hl
    refine lv_aload_n hx hb dX3_readOlder_31 rfl (lv_at hl 0 rfl) ?_
    refine lv_iconst (v := 3) hx hb dX3_readOlder_32 (by decide) ?_
    refine lv_aload_n hx hb dX3_readOlder_33 rfl (lv_at hl 0 rfl) ?_
    refine t_get (C := RX3) (T := TX3) (N := 13) X hT m0 g0 rfl rfl 0 (by decide) qw_73 inlX3 rfl dX3_readOlder_34 (fun v68063 hv68063 ov68063 => ?_)
    obtain rfl : v68063 = .ref x0 := hv68063.symm.trans pf0
    refine t_get (C := RX8) (T := TX8) (N := 8) X hT mx0 gx0 rfl rfl 5 (by decide) qw_339 inlX8 rfl dX3_readOlder_37 (fun v68064 hv68064 ov68064 => ?_)
    obtain ⟨z68065, rfl, rz68065⟩ := okV_i ov68064
    refine t_cVv (n := 2) (C := RX3) (T := TX3) (N := 13) (As := [.int 3, .int z68065]) (rest := []) X hT (kt156_X3_fail l G tag L F hT.2.2.2 p0 3 z68065 m0 g0 (by decide)) m0 g0 rfl rfl qw_287 qw_288 qw_289 qw_28 qw_290 ⟨rfl, by decide +kernel, by decide +kernel, by decide +kernel⟩ ⟨Nat.le_of_ble_eq_true rfl, Nat.le_of_ble_eq_true rfl⟩ hl rfl rfl (Nat.le_of_ble_eq_true rfl) dX3_readOlder_40 ⟨Nat.le_of_ble_eq_true rfl, Nat.le_of_ble_eq_true rfl⟩ (fun F H locs hT hz68066 => ?_)
    obtain ⟨yz68066, xz68066_0⟩ := hz68066
    have pf0 := (yz68066.1 _ 0 (Or.inr (by decide)) (Or.inr (by decide))).trans pf0
    have pf1 := (yz68066.1 _ 1 (Or.inr (by decide)) (Or.inr (by decide))).trans pf1
    have pf2 := (yz68066.1 _ 2 (Or.inr (by decide)) (Or.inr (by decide))).trans pf2
    have pf3 := (yz68066.1 _ 0 (Or.inr (by decide)) (Or.inr (by decide))).trans pf3
    have pf4 := (yz68066.1 _ 10 (Or.inr (by decide)) (Or.inr (by decide))).trans pf4
    have pf5 := (yz68066.1 _ 11 (Or.inr (by decide)) (Or.inr (by decide))).trans pf5
    have hv68064 := (yz68066.1 _ 5 (Or.inr (by decide)) (Or.inr (by decide))).trans hv68064
    have hfr : (∀ b j : Nat, (tag b ≠ 24 ∨ j ≠ 2) → (tag b ≠ 24 ∨ j ≠ 3) → (tag b ≠ 24 ∨ j ≠ 4) → (tag b ≠ 24 ∨ j ≠ 5) → (tag b ≠ 24 ∨ j ≠ 6) → (tag b ≠ 24 ∨ j ≠ 7) → (tag b ≠ 25 ∨ j ≠ 3) → (tag b ≠ 25 ∨ j ≠ 4) → (tag b ≠ 25 ∨ j ≠ 8) → fld F b j = fld Fo b j) ∧ EF tag F Fo := ⟨fun b j n24_2 n24_3 n24_4 n24_5 n24_6 n24_7 n25_3 n25_4 n25_8 => (yz68066.1 b j n25_3 n25_4).trans (hfr.1 b j n24_2 n24_3 n24_4 n24_5 n24_6 n24_7 n25_3 n25_4 n25_8), fun b j hb => (yz68066.2 b j hb).trans (hfr.2 b j hb)⟩
    have hrel := nsr_of (fun j => yz68066.2 _ j (Or.inl gx4)) (fun j => yz68066.2 _ j (Or.inr gx5)) hrel
    obtain ⟨z68067, qz68067, rz68067⟩ := xz68066_0
    exact K43 z68061 z68062 _ _ _ _ (by omega) (by omega) hT hfr hrel pf0 pf1 pf2 pf3 pf4 pf5 (lv_sub hl [0, 1, 2] rfl)
  refine lv_aload_n hx hb dX3_readOlder_0 rfl (lv_at hl 0 rfl) ?_
  refine lv_bipush (v := 7) hx hb dX3_readOlder_1 (by decide) ?_
  refine t_cVi (n := 1) (C := RX3) (T := TX3) (N := 13) (As := [.int 7]) (rest := []) X hT (kt168_X3_name l G tag L F hT.2.2.2 p0 7 x0 x1 x2 x3 x4 x5 m0 g0 (by decide) mx0 gx0 pf0 mx1 gx1 pf1 mx2 gx2 pf2 mx3 gx3 pf3 mx4 gx4 pf4 mx5 gx5 pf5 hrel) m0 g0 rfl rfl qw_393 qw_394 qw_395 qw_28 qw_396 ⟨rfl, by decide +kernel, by decide +kernel, by decide +kernel⟩ ⟨Nat.le_of_ble_eq_true rfl, Nat.le_of_ble_eq_true rfl⟩ hl rfl rfl (Nat.le_of_ble_eq_true rfl) dX3_readOlder_3 ⟨Nat.le_of_ble_eq_true rfl, Nat.le_of_ble_eq_true rfl⟩ (fun z68068 F H locs hT hz68068 => ?_)
  obtain ⟨hz68068, yz68068, hrel⟩ := hz68068
  have pf0 := (yz68068.1 _ 0 (Or.inr (by decide)) (Or.inr (by decide)) (Or.inr (by decide)) (Or.inr (by decide)) (Or.inr (by decide)) (Or.inr (by decide)) (Or.inr (by decide)) (Or.inr (by decide))).trans pf0
  have pf1 := (yz68068.1 _ 1 (Or.inr (by decide)) (Or.inr (by decide)) (Or.inr (by decide)) (Or.inr (by decide)) (Or.inr (by decide)) (Or.inr (by decide)) (Or.inr (by decide)) (Or.inr (by decide))).trans pf1
  have pf2 := (yz68068.1 _ 2 (Or.inl (by rw [g0]; decide)) (Or.inr (by decide)) (Or.inr (by decide)) (Or.inr (by decide)) (Or.inr (by decide)) (Or.inr (by decide)) (Or.inr (by decide)) (Or.inr (by decide))).trans pf2
  have pf3 := (yz68068.1 _ 0 (Or.inr (by decide)) (Or.inr (by decide)) (Or.inr (by decide)) (Or.inr (by decide)) (Or.inr (by decide)) (Or.inr (by decide)) (Or.inr (by decide)) (Or.inr (by decide))).trans pf3
  have pf4 := (yz68068.1 _ 10 (Or.inr (by decide)) (Or.inr (by decide)) (Or.inr (by decide)) (Or.inr (by decide)) (Or.inr (by decide)) (Or.inr (by decide)) (Or.inr (by decide)) (Or.inr (by decide))).trans pf4
  have pf5 := (yz68068.1 _ 11 (Or.inr (by decide)) (Or.inr (by decide)) (Or.inr (by decide)) (Or.inr (by decide)) (Or.inr (by decide)) (Or.inr (by decide)) (Or.inr (by decide)) (Or.inr (by decide))).trans pf5
  have hfr : (∀ b j : Nat, (tag b ≠ 24 ∨ j ≠ 2) → (tag b ≠ 24 ∨ j ≠ 3) → (tag b ≠ 24 ∨ j ≠ 4) → (tag b ≠ 24 ∨ j ≠ 5) → (tag b ≠ 24 ∨ j ≠ 6) → (tag b ≠ 24 ∨ j ≠ 7) → (tag b ≠ 25 ∨ j ≠ 3) → (tag b ≠ 25 ∨ j ≠ 4) → (tag b ≠ 25 ∨ j ≠ 8) → fld F b j = fld Fo b j) ∧ EF tag F Fo := ⟨fun b j n24_2 n24_3 n24_4 n24_5 n24_6 n24_7 n25_3 n25_4 n25_8 => (yz68068.1 b j n24_2 n24_3 n24_4 n24_5 n24_6 n24_7 n25_3 n25_4).trans (hfr.1 b j n24_2 n24_3 n24_4 n24_5 n24_6 n24_7 n25_3 n25_4 n25_8), fun b j hb => (yz68068.2 b j hb).trans (hfr.2 b j hb)⟩
  refine lv_istore_n (lv' := [(1, .int z68068), (0, .ref p0)]) hx hb dX3_readOlder_6 rfl hl (by decide) rfl (fun ls hl => ?_)
  refine lv_aload_n hx hb dX3_readOlder_7 rfl (lv_at hl 1 rfl) ?_
  refine lv_bipush (v := 7) hx hb dX3_readOlder_8 (by decide) ?_
  refine t_cVi (n := 1) (C := RX3) (T := TX3) (N := 13) (As := [.int 7]) (rest := []) X hT (kt168_X3_name l G tag L F hT.2.2.2 p0 7 x0 x1 x2 x3 x4 x5 m0 g0 (by decide) mx0 gx0 pf0 mx1 gx1 pf1 mx2 gx2 pf2 mx3 gx3 pf3 mx4 gx4 pf4 mx5 gx5 pf5 hrel) m0 g0 rfl rfl qw_393 qw_394 qw_395 qw_28 qw_396 ⟨rfl, by decide +kernel, by decide +kernel, by decide +kernel⟩ ⟨Nat.le_of_ble_eq_true rfl, Nat.le_of_ble_eq_true rfl⟩ hl rfl rfl (Nat.le_of_ble_eq_true rfl) dX3_readOlder_10 ⟨Nat.le_of_ble_eq_true rfl, Nat.le_of_ble_eq_true rfl⟩ (fun z68069 F H locs hT hz68069 => ?_)
  obtain ⟨hz68069, yz68069, hrel⟩ := hz68069
  have pf0 := (yz68069.1 _ 0 (Or.inr (by decide)) (Or.inr (by decide)) (Or.inr (by decide)) (Or.inr (by decide)) (Or.inr (by decide)) (Or.inr (by decide)) (Or.inr (by decide)) (Or.inr (by decide))).trans pf0
  have pf1 := (yz68069.1 _ 1 (Or.inr (by decide)) (Or.inr (by decide)) (Or.inr (by decide)) (Or.inr (by decide)) (Or.inr (by decide)) (Or.inr (by decide)) (Or.inr (by decide)) (Or.inr (by decide))).trans pf1
  have pf2 := (yz68069.1 _ 2 (Or.inl (by rw [g0]; decide)) (Or.inr (by decide)) (Or.inr (by decide)) (Or.inr (by decide)) (Or.inr (by decide)) (Or.inr (by decide)) (Or.inr (by decide)) (Or.inr (by decide))).trans pf2
  have pf3 := (yz68069.1 _ 0 (Or.inr (by decide)) (Or.inr (by decide)) (Or.inr (by decide)) (Or.inr (by decide)) (Or.inr (by decide)) (Or.inr (by decide)) (Or.inr (by decide)) (Or.inr (by decide))).trans pf3
  have pf4 := (yz68069.1 _ 10 (Or.inr (by decide)) (Or.inr (by decide)) (Or.inr (by decide)) (Or.inr (by decide)) (Or.inr (by decide)) (Or.inr (by decide)) (Or.inr (by decide)) (Or.inr (by decide))).trans pf4
  have pf5 := (yz68069.1 _ 11 (Or.inr (by decide)) (Or.inr (by decide)) (Or.inr (by decide)) (Or.inr (by decide)) (Or.inr (by decide)) (Or.inr (by decide)) (Or.inr (by decide)) (Or.inr (by decide))).trans pf5
  have hfr : (∀ b j : Nat, (tag b ≠ 24 ∨ j ≠ 2) → (tag b ≠ 24 ∨ j ≠ 3) → (tag b ≠ 24 ∨ j ≠ 4) → (tag b ≠ 24 ∨ j ≠ 5) → (tag b ≠ 24 ∨ j ≠ 6) → (tag b ≠ 24 ∨ j ≠ 7) → (tag b ≠ 25 ∨ j ≠ 3) → (tag b ≠ 25 ∨ j ≠ 4) → (tag b ≠ 25 ∨ j ≠ 8) → fld F b j = fld Fo b j) ∧ EF tag F Fo := ⟨fun b j n24_2 n24_3 n24_4 n24_5 n24_6 n24_7 n25_3 n25_4 n25_8 => (yz68069.1 b j n24_2 n24_3 n24_4 n24_5 n24_6 n24_7 n25_3 n25_4).trans (hfr.1 b j n24_2 n24_3 n24_4 n24_5 n24_6 n24_7 n25_3 n25_4 n25_8), fun b j hb => (yz68069.2 b j hb).trans (hfr.2 b j hb)⟩
  refine lv_istore_n (lv' := [(2, .int z68069), (1, .int z68068), (0, .ref p0)]) hx hb dX3_readOlder_13 rfl hl (by decide) rfl (fun ls hl => ?_)
  refine lv_iload_n hx hb dX3_readOlder_14 rfl (lv_at hl 1 rfl) ?_
  refine lv_iload_n hx hb dX3_readOlder_15 rfl (lv_at hl 0 rfl) ?_
  refine lv_icmp_eq (tgt := 31) hx hb dX3_readOlder_16 (by decide) (fun c68070 => ?_) (fun c68070 => ?_)
  · have w68071 := cv_eq (rfl : z68068.toInt = z68068.toInt) (rfl : z68069.toInt = z68069.toInt) c68070
    exact K31 z68068 z68069 _ _ _ _ (by omega) (by omega) hT hfr hrel pf0 pf1 pf2 pf3 pf4 pf5 (lv_sub hl [2, 1, 0] rfl)
  · have w68072 := cv_ne (rfl : z68068.toInt = z68068.toInt) (rfl : z68069.toInt = z68069.toInt) c68070
    refine lv_aload_n hx hb dX3_readOlder_19 rfl (lv_at hl 2 rfl) ?_
    refine t_get (C := RX3) (T := TX3) (N := 13) X hT m0 g0 rfl rfl 1 (by decide) qw_161 inlX3 rfl dX3_readOlder_20 (fun v68073 hv68073 ov68073 => ?_)
    obtain rfl : v68073 = .ref x1 := hv68073.symm.trans pf1
    refine lv_iload_n hx hb dX3_readOlder_23 rfl (lv_at hl 1 rfl) ?_
    refine lv_iload_n hx hb dX3_readOlder_24 rfl (lv_at hl 0 rfl) ?_
    refine t_cVi (n := 2) (C := RX1) (T := TX1) (N := 20) (As := [.int z68068, .int z68069]) (rest := []) X hT (kt13_X1_isTold l G tag L F hT.2.2.2 x1 z68068 z68069 mx1 gx1 (by omega) (by omega)) mx1 gx1 rfl rfl qw_441 qw_442 qw_443 qw_17 qw_444 ⟨rfl, by decide +kernel, by decide +kernel, by decide +kernel⟩ ⟨Nat.le_of_ble_eq_true rfl, Nat.le_of_ble_eq_true rfl⟩ hl rfl rfl (Nat.le_of_ble_eq_true rfl) dX3_readOlder_25 ⟨Nat.le_of_ble_eq_true rfl, Nat.le_of_ble_eq_true rfl⟩ (fun z68074 F9 H locs hT hz68074 => ?_)
    obtain ⟨fz68074, hz68074⟩ := hz68074
    rw [fz68074] at hT
    refine lv_if_eq (tgt := 43) hx hb dX3_readOlder_28 (by decide) (fun c68075 => ?_) (fun c68075 => ?_)
    · have w68076 := cv_eq (rfl : z68074.toInt = z68074.toInt) (by decide : (0 : Int32).toInt = 0) c68075
      exact K43 z68068 z68069 _ _ _ _ (by omega) (by omega) hT hfr hrel pf0 pf1 pf2 pf3 pf4 pf5 (lv_sub hl [2, 1, 0] rfl)
    · have w68077 := cv_ne (rfl : z68074.toInt = z68074.toInt) (by decide : (0 : Int32).toInt = 0) c68075
      exact K31 z68068 z68069 _ _ _ _ (by omega) (by omega) hT hfr hrel pf0 pf1 pf2 pf3 pf4 pf5 (lv_sub hl [2, 1, 0] rfl)
set_option maxHeartbeats 4000000 in
set_option maxRecDepth 100000 in
theorem kt170_X3_name (l : Launch) (G : KG) (tag : Nat → Nat) (L : List Nat) (Fo : Nat → va_E) (ho : okT G ttC tag L Fo) (p0 : Nat) (p1 : Int32) (x0 : Nat) (x1 : Nat) (x2 : Nat) (x3 : Nat) (x4 : Nat) (x5 : Nat) (m0 : p0 ∈ L) (g0 : tag p0 = 25) (h1 : 3 ≤ p1.toInt ∧ p1.toInt ≤ 3) (mx0 : x0 ∈ L) (gx0 : tag x0 = 24) (pf0 : fld Fo p0 0 = .ref x0) (mx1 : x1 ∈ L) (gx1 : tag x1 = 18) (pf1 : fld Fo p0 1 = .ref x1) (mx2 : x2 ∈ L) (gx2 : tag x2 = 19) (pf2 : fld Fo p0 2 = .ref x2) (mx3 : x3 ∈ L) (gx3 : tag x3 = 1) (pf3 : fld Fo x0 0 = .ref x3) (mx4 : x4 ∈ L) (gx4 : tag x4 = 14) (pf4 : fld Fo p0 10 = .ref x4) (mx5 : x5 ∈ L) (gx5 : tag x5 = 15) (pf5 : fld Fo p0 11 = .ref x5) (hrel : NSR Fo x4 x5) : TMi l yX3_name cX3_name 3 (some .int) { frames := 6, cells := 0, slots := 0, locals := 128 } G ttC tag L Fo [.ref p0, .int p1] (fun r F1 => ((-2147483648) ≤ r.toInt ∧ r.toInt ≤ 2147483647) ∧ ((∀ b j : Nat, (tag b ≠ 24 ∨ j ≠ 2) → (tag b ≠ 24 ∨ j ≠ 3) → (tag b ≠ 24 ∨ j ≠ 4) → (tag b ≠ 24 ∨ j ≠ 5) → (tag b ≠ 24 ∨ j ≠ 6) → (tag b ≠ 24 ∨ j ≠ 7) → (tag b ≠ 25 ∨ j ≠ 3) → (tag b ≠ 25 ∨ j ≠ 4) → fld F1 b j = fld Fo b j) ∧ EF tag F1 Fo) ∧ (NSR F1 x4 x5)) := by
  refine t_bodyi (y := yX3_name) (cd := cX3_name) (mL := 3) (rt := (some .int)) (rm := { frames := 6, cells := 0, slots := 0, locals := 128 }) (av := [.ref p0, .int p1]) (by decide) (Nat.le_of_ble_eq_true rfl) ho ?_
  intro p e s m args below meth c ls A Q hQ X hT hl
  have hx := X.1.1
  have hb := X.1.2.1
  have hl : lv_has ls 3 [(0, .ref p0), (1, .int p1)] := hl
  obtain ⟨F, hFo⟩ : ∃ F : Nat → va_E, F = Fo := ⟨_, rfl⟩
  rw [← hFo] at hT pf0 pf1 pf2 pf3 pf4 pf5 hrel
  have hfr : (∀ b j : Nat, (tag b ≠ 24 ∨ j ≠ 2) → (tag b ≠ 24 ∨ j ≠ 3) → (tag b ≠ 24 ∨ j ≠ 4) → (tag b ≠ 24 ∨ j ≠ 5) → (tag b ≠ 24 ∨ j ≠ 6) → (tag b ≠ 24 ∨ j ≠ 7) → (tag b ≠ 25 ∨ j ≠ 3) → (tag b ≠ 25 ∨ j ≠ 4) → fld F b j = fld Fo b j) ∧ EF tag F Fo := by
    rw [hFo]
    exact ⟨by intros; rfl, fun _ _ _ => rfl⟩
  refine lv_aload_n hx hb dX3_name_0 rfl (lv_at hl 0 rfl) ?_
  refine t_get (C := RX3) (T := TX3) (N := 13) X hT m0 g0 rfl rfl 0 (by decide) qw_73 inlX3 rfl dX3_name_1 (fun v69426 hv69426 ov69426 => ?_)
  obtain rfl : v69426 = .ref x0 := hv69426.symm.trans pf0
  refine t_get (C := RX8) (T := TX8) (N := 8) X hT mx0 gx0 rfl rfl 3 (by decide) qw_170 inlX8 rfl dX3_name_4 (fun v69427 hv69427 ov69427 => ?_)
  obtain ⟨z69428, rfl, rz69428⟩ := okV_i ov69427
  refine lv_iconst (v := 1) hx hb dX3_name_7 (by decide) ?_
  refine lv_icmp_ne (tgt := 19) hx hb dX3_name_8 (by decide) (fun c69429 => ?_) (fun c69429 => ?_)
  · have w69430 := cv_ne (rfl : z69428.toInt = z69428.toInt) (by decide : (1 : Int32).toInt = 1) c69429
    refine lv_aload_n hx hb dX3_name_19 rfl (lv_at hl 0 rfl) ?_
    refine lv_iconst (v := 1) hx hb dX3_name_20 (by decide) ?_
    refine lv_aload_n hx hb dX3_name_21 rfl (lv_at hl 0 rfl) ?_
    refine t_get (C := RX3) (T := TX3) (N := 13) X hT m0 g0 rfl rfl 0 (by decide) qw_73 inlX3 rfl dX3_name_22 (fun v69431 hv69431 ov69431 => ?_)
    obtain rfl : v69431 = .ref x0 := hv69431.symm.trans pf0
    refine t_get (C := RX8) (T := TX8) (N := 8) X hT mx0 gx0 rfl rfl 4 (by decide) qw_227 inlX8 rfl dX3_name_25 (fun v69432 hv69432 ov69432 => ?_)
    obtain ⟨z69433, rfl, rz69433⟩ := okV_i ov69432
    refine t_cVv (n := 2) (C := RX3) (T := TX3) (N := 13) (As := [.int 1, .int z69433]) (rest := []) X hT (kt156_X3_fail l G tag L F hT.2.2.2 p0 1 z69433 m0 g0 (by decide)) m0 g0 rfl rfl qw_287 qw_288 qw_289 qw_28 qw_290 ⟨rfl, by decide +kernel, by decide +kernel, by decide +kernel⟩ ⟨Nat.le_of_ble_eq_true rfl, Nat.le_of_ble_eq_true rfl⟩ hl rfl rfl (Nat.le_of_ble_eq_true rfl) dX3_name_28 ⟨Nat.le_of_ble_eq_true rfl, Nat.le_of_ble_eq_true rfl⟩ (fun F H locs hT hz69434 => ?_)
    obtain ⟨yz69434, xz69434_0⟩ := hz69434
    have pf0 := (yz69434.1 _ 0 (Or.inr (by decide)) (Or.inr (by decide))).trans pf0
    have pf1 := (yz69434.1 _ 1 (Or.inr (by decide)) (Or.inr (by decide))).trans pf1
    have pf2 := (yz69434.1 _ 2 (Or.inr (by decide)) (Or.inr (by decide))).trans pf2
    have pf3 := (yz69434.1 _ 0 (Or.inr (by decide)) (Or.inr (by decide))).trans pf3
    have pf4 := (yz69434.1 _ 10 (Or.inr (by decide)) (Or.inr (by decide))).trans pf4
    have pf5 := (yz69434.1 _ 11 (Or.inr (by decide)) (Or.inr (by decide))).trans pf5
    have hv69427 := (yz69434.1 _ 3 (Or.inl (by rw [gx0]; decide)) (Or.inr (by decide))).trans hv69427
    have hv69432 := (yz69434.1 _ 4 (Or.inr (by decide)) (Or.inl (by rw [gx0]; decide))).trans hv69432
    have hfr : (∀ b j : Nat, (tag b ≠ 24 ∨ j ≠ 2) → (tag b ≠ 24 ∨ j ≠ 3) → (tag b ≠ 24 ∨ j ≠ 4) → (tag b ≠ 24 ∨ j ≠ 5) → (tag b ≠ 24 ∨ j ≠ 6) → (tag b ≠ 24 ∨ j ≠ 7) → (tag b ≠ 25 ∨ j ≠ 3) → (tag b ≠ 25 ∨ j ≠ 4) → fld F b j = fld Fo b j) ∧ EF tag F Fo := ⟨fun b j n24_2 n24_3 n24_4 n24_5 n24_6 n24_7 n25_3 n25_4 => (yz69434.1 b j n25_3 n25_4).trans (hfr.1 b j n24_2 n24_3 n24_4 n24_5 n24_6 n24_7 n25_3 n25_4), fun b j hb => (yz69434.2 b j hb).trans (hfr.2 b j hb)⟩
    have hrel := nsr_of (fun j => yz69434.2 _ j (Or.inl gx4)) (fun j => yz69434.2 _ j (Or.inr gx5)) hrel
    obtain ⟨z69435, qz69435, rz69435⟩ := xz69434_0
    refine lv_aload_n hx hb dX3_name_31 rfl (lv_at hl 0 rfl) ?_
    refine t_cVi (n := 0) (C := RX3) (T := TX3) (N := 13) (As := []) (rest := []) X hT (kt159_X3_findName l G tag L F hT.2.2.2 p0 x0 x1 x2 x3 x4 x5 m0 g0 mx0 gx0 pf0 mx1 gx1 pf1 mx2 gx2 pf2 mx3 gx3 pf3 mx4 gx4 pf4 mx5 gx5 pf5) m0 g0 rfl rfl qw_361 qw_362 qw_363 qw_28 qw_364 ⟨rfl, by decide +kernel, by decide +kernel, by decide +kernel⟩ ⟨Nat.le_of_ble_eq_true rfl, Nat.le_of_ble_eq_true rfl⟩ hl rfl rfl (Nat.le_of_ble_eq_true rfl) dX3_name_32 ⟨Nat.le_of_ble_eq_true rfl, Nat.le_of_ble_eq_true rfl⟩ (fun z69436 F9 H locs hT hz69436 => ?_)
    obtain ⟨fz69436, hz69436⟩ := hz69436
    rw [fz69436] at hT
    refine lv_istore_n (lv' := [(2, .int z69436), (0, .ref p0), (1, .int p1)]) hx hb dX3_name_35 rfl hl (by decide) rfl (fun ls hl => ?_)
    refine lv_iload_n hx hb dX3_name_36 rfl (lv_at hl 0 rfl) ?_
    refine lv_iconst (v := (-1)) hx hb dX3_name_37 (by decide) ?_
    refine lv_icmp_eq (tgt := 51) hx hb dX3_name_38 (by decide) (fun c69437 => ?_) (fun c69437 => ?_)
    · have w69438 := cv_eq (rfl : z69436.toInt = z69436.toInt) (by decide : ((-1) : Int32).toInt = (-1)) c69437
      refine lv_aload_n hx hb dX3_name_51 rfl (lv_at hl 1 rfl) ?_
      refine lv_iconst (v := 2) hx hb dX3_name_52 (by decide) ?_
      refine lv_aload_n hx hb dX3_name_53 rfl (lv_at hl 1 rfl) ?_
      refine t_get (C := RX3) (T := TX3) (N := 13) X hT m0 g0 rfl rfl 0 (by decide) qw_73 inlX3 rfl dX3_name_54 (fun v69439 hv69439 ov69439 => ?_)
      obtain rfl : v69439 = .ref x0 := hv69439.symm.trans pf0
      refine t_get (C := RX8) (T := TX8) (N := 8) X hT mx0 gx0 rfl rfl 4 (by decide) qw_227 inlX8 rfl dX3_name_57 (fun v69440 hv69440 ov69440 => ?_)
      obtain rfl : v69440 = .int z69433 := hv69440.symm.trans hv69432
      refine t_cVv (n := 2) (C := RX3) (T := TX3) (N := 13) (As := [.int 2, .int z69433]) (rest := []) X hT (kt156_X3_fail l G tag L F hT.2.2.2 p0 2 z69433 m0 g0 (by decide)) m0 g0 rfl rfl qw_287 qw_288 qw_289 qw_28 qw_290 ⟨rfl, by decide +kernel, by decide +kernel, by decide +kernel⟩ ⟨Nat.le_of_ble_eq_true rfl, Nat.le_of_ble_eq_true rfl⟩ hl rfl rfl (Nat.le_of_ble_eq_true rfl) dX3_name_60 ⟨Nat.le_of_ble_eq_true rfl, Nat.le_of_ble_eq_true rfl⟩ (fun F H locs hT hz69441 => ?_)
      obtain ⟨yz69441, xz69441_0⟩ := hz69441
      have pf0 := (yz69441.1 _ 0 (Or.inr (by decide)) (Or.inr (by decide))).trans pf0
      have pf1 := (yz69441.1 _ 1 (Or.inr (by decide)) (Or.inr (by decide))).trans pf1
      have pf2 := (yz69441.1 _ 2 (Or.inr (by decide)) (Or.inr (by decide))).trans pf2
      have pf3 := (yz69441.1 _ 0 (Or.inr (by decide)) (Or.inr (by decide))).trans pf3
      have pf4 := (yz69441.1 _ 10 (Or.inr (by decide)) (Or.inr (by decide))).trans pf4
      have pf5 := (yz69441.1 _ 11 (Or.inr (by decide)) (Or.inr (by decide))).trans pf5
      have hv69427 := (yz69441.1 _ 3 (Or.inl (by rw [gx0]; decide)) (Or.inr (by decide))).trans hv69427
      have hv69432 := (yz69441.1 _ 4 (Or.inr (by decide)) (Or.inl (by rw [gx0]; decide))).trans hv69432
      have hfr : (∀ b j : Nat, (tag b ≠ 24 ∨ j ≠ 2) → (tag b ≠ 24 ∨ j ≠ 3) → (tag b ≠ 24 ∨ j ≠ 4) → (tag b ≠ 24 ∨ j ≠ 5) → (tag b ≠ 24 ∨ j ≠ 6) → (tag b ≠ 24 ∨ j ≠ 7) → (tag b ≠ 25 ∨ j ≠ 3) → (tag b ≠ 25 ∨ j ≠ 4) → fld F b j = fld Fo b j) ∧ EF tag F Fo := ⟨fun b j n24_2 n24_3 n24_4 n24_5 n24_6 n24_7 n25_3 n25_4 => (yz69441.1 b j n25_3 n25_4).trans (hfr.1 b j n24_2 n24_3 n24_4 n24_5 n24_6 n24_7 n25_3 n25_4), fun b j hb => (yz69441.2 b j hb).trans (hfr.2 b j hb)⟩
      have hrel := nsr_of (fun j => yz69441.2 _ j (Or.inl gx4)) (fun j => yz69441.2 _ j (Or.inr gx5)) hrel
      obtain ⟨z69442, qz69442, rz69442⟩ := xz69441_0
      refine lv_aload_n hx hb dX3_name_63 rfl (lv_at hl 1 rfl) ?_
      refine t_get (C := RX3) (T := TX3) (N := 13) X hT m0 g0 rfl rfl 3 (by decide) qw_163 inlX3 rfl dX3_name_64 (fun v69443 hv69443 ov69443 => ?_)
      obtain rfl : v69443 = .int z69442 := hv69443.symm.trans qz69442
      refine lv_if_ne (tgt := 75) hx hb dX3_name_67 (by decide) (fun c69444 => ?_) (fun c69444 => ?_)
      · have w69445 := cv_ne (rfl : z69442.toInt = z69442.toInt) (by decide : (0 : Int32).toInt = 0) c69444
        refine lv_iconst (v := 0) hx hb dX3_name_75 (by decide) ?_
        exact t_iret hQ X hT (⟨rg_all _, hfr, hrel⟩) (Nat.le_of_ble_eq_true rfl) (Nat.le_of_ble_eq_true rfl) dX3_name_76
      · have w69446 := cv_eq (rfl : z69442.toInt = z69442.toInt) (by decide : (0 : Int32).toInt = 0) c69444
        exfalso
        omega
    · have w69447 := cv_ne (rfl : z69436.toInt = z69436.toInt) (by decide : ((-1) : Int32).toInt = (-1)) c69437
      refine lv_aload_n hx hb dX3_name_41 rfl (lv_at hl 1 rfl) ?_
      refine t_get (C := RX3) (T := TX3) (N := 13) X hT m0 g0 rfl rfl 10 (by decide) qw_75 inlX3 rfl dX3_name_42 (fun v69448 hv69448 ov69448 => ?_)
      obtain rfl : v69448 = .ref x4 := hv69448.symm.trans pf4
      refine lv_iload_n hx hb dX3_name_45 rfl (lv_at hl 0 rfl) ?_
      refine t_ild X hT mx4 gx4 rfl (by omega) dX3_name_46 (fun z69449 vz69449 rz69449 => ?_)
      have rz69449 : (-2147483648) ≤ z69449.toInt ∧ z69449.toInt ≤ 2147483647 := rz69449
      refine lv_iload_n hx hb dX3_name_47 rfl (lv_at hl 2 rfl) ?_
      refine lv_icmp_eq (tgt := 63) hx hb dX3_name_48 (by decide) (fun c69450 => ?_) (fun c69450 => ?_)
      · have w69451 := cv_eq (rfl : z69449.toInt = z69449.toInt) (rfl : p1.toInt = p1.toInt) c69450
        refine lv_aload_n hx hb dX3_name_63 rfl (lv_at hl 1 rfl) ?_
        refine t_get (C := RX3) (T := TX3) (N := 13) X hT m0 g0 rfl rfl 3 (by decide) qw_163 inlX3 rfl dX3_name_64 (fun v69452 hv69452 ov69452 => ?_)
        obtain rfl : v69452 = .int z69435 := hv69452.symm.trans qz69435
        refine lv_if_ne (tgt := 75) hx hb dX3_name_67 (by decide) (fun c69453 => ?_) (fun c69453 => ?_)
        · have w69454 := cv_ne (rfl : z69435.toInt = z69435.toInt) (by decide : (0 : Int32).toInt = 0) c69453
          refine lv_iconst (v := 0) hx hb dX3_name_75 (by decide) ?_
          exact t_iret hQ X hT (⟨rg_all _, hfr, hrel⟩) (Nat.le_of_ble_eq_true rfl) (Nat.le_of_ble_eq_true rfl) dX3_name_76
        · have w69455 := cv_eq (rfl : z69435.toInt = z69435.toInt) (by decide : (0 : Int32).toInt = 0) c69453
          exfalso
          omega
      · have w69456 := cv_ne (rfl : z69449.toInt = z69449.toInt) (rfl : p1.toInt = p1.toInt) c69450
        refine lv_aload_n hx hb dX3_name_51 rfl (lv_at hl 1 rfl) ?_
        refine lv_iconst (v := 2) hx hb dX3_name_52 (by decide) ?_
        refine lv_aload_n hx hb dX3_name_53 rfl (lv_at hl 1 rfl) ?_
        refine t_get (C := RX3) (T := TX3) (N := 13) X hT m0 g0 rfl rfl 0 (by decide) qw_73 inlX3 rfl dX3_name_54 (fun v69457 hv69457 ov69457 => ?_)
        obtain rfl : v69457 = .ref x0 := hv69457.symm.trans pf0
        refine t_get (C := RX8) (T := TX8) (N := 8) X hT mx0 gx0 rfl rfl 4 (by decide) qw_227 inlX8 rfl dX3_name_57 (fun v69458 hv69458 ov69458 => ?_)
        obtain rfl : v69458 = .int z69433 := hv69458.symm.trans hv69432
        refine t_cVv (n := 2) (C := RX3) (T := TX3) (N := 13) (As := [.int 2, .int z69433]) (rest := []) X hT (kt156_X3_fail l G tag L F hT.2.2.2 p0 2 z69433 m0 g0 (by decide)) m0 g0 rfl rfl qw_287 qw_288 qw_289 qw_28 qw_290 ⟨rfl, by decide +kernel, by decide +kernel, by decide +kernel⟩ ⟨Nat.le_of_ble_eq_true rfl, Nat.le_of_ble_eq_true rfl⟩ hl rfl rfl (Nat.le_of_ble_eq_true rfl) dX3_name_60 ⟨Nat.le_of_ble_eq_true rfl, Nat.le_of_ble_eq_true rfl⟩ (fun F H locs hT hz69459 => ?_)
        obtain ⟨yz69459, xz69459_0⟩ := hz69459
        have pf0 := (yz69459.1 _ 0 (Or.inr (by decide)) (Or.inr (by decide))).trans pf0
        have pf1 := (yz69459.1 _ 1 (Or.inr (by decide)) (Or.inr (by decide))).trans pf1
        have pf2 := (yz69459.1 _ 2 (Or.inr (by decide)) (Or.inr (by decide))).trans pf2
        have pf3 := (yz69459.1 _ 0 (Or.inr (by decide)) (Or.inr (by decide))).trans pf3
        have pf4 := (yz69459.1 _ 10 (Or.inr (by decide)) (Or.inr (by decide))).trans pf4
        have pf5 := (yz69459.1 _ 11 (Or.inr (by decide)) (Or.inr (by decide))).trans pf5
        have hv69427 := (yz69459.1 _ 3 (Or.inl (by rw [gx0]; decide)) (Or.inr (by decide))).trans hv69427
        have hv69432 := (yz69459.1 _ 4 (Or.inr (by decide)) (Or.inl (by rw [gx0]; decide))).trans hv69432
        have vz69449 := (yz69459.2 _ _ (Or.inl gx4)).trans vz69449
        have hfr : (∀ b j : Nat, (tag b ≠ 24 ∨ j ≠ 2) → (tag b ≠ 24 ∨ j ≠ 3) → (tag b ≠ 24 ∨ j ≠ 4) → (tag b ≠ 24 ∨ j ≠ 5) → (tag b ≠ 24 ∨ j ≠ 6) → (tag b ≠ 24 ∨ j ≠ 7) → (tag b ≠ 25 ∨ j ≠ 3) → (tag b ≠ 25 ∨ j ≠ 4) → fld F b j = fld Fo b j) ∧ EF tag F Fo := ⟨fun b j n24_2 n24_3 n24_4 n24_5 n24_6 n24_7 n25_3 n25_4 => (yz69459.1 b j n25_3 n25_4).trans (hfr.1 b j n24_2 n24_3 n24_4 n24_5 n24_6 n24_7 n25_3 n25_4), fun b j hb => (yz69459.2 b j hb).trans (hfr.2 b j hb)⟩
        have hrel := nsr_of (fun j => yz69459.2 _ j (Or.inl gx4)) (fun j => yz69459.2 _ j (Or.inr gx5)) hrel
        obtain ⟨z69460, qz69460, rz69460⟩ := xz69459_0
        refine lv_aload_n hx hb dX3_name_63 rfl (lv_at hl 1 rfl) ?_
        refine t_get (C := RX3) (T := TX3) (N := 13) X hT m0 g0 rfl rfl 3 (by decide) qw_163 inlX3 rfl dX3_name_64 (fun v69461 hv69461 ov69461 => ?_)
        obtain rfl : v69461 = .int z69460 := hv69461.symm.trans qz69460
        refine lv_if_ne (tgt := 75) hx hb dX3_name_67 (by decide) (fun c69462 => ?_) (fun c69462 => ?_)
        · have w69463 := cv_ne (rfl : z69460.toInt = z69460.toInt) (by decide : (0 : Int32).toInt = 0) c69462
          refine lv_iconst (v := 0) hx hb dX3_name_75 (by decide) ?_
          exact t_iret hQ X hT (⟨rg_all _, hfr, hrel⟩) (Nat.le_of_ble_eq_true rfl) (Nat.le_of_ble_eq_true rfl) dX3_name_76
        · have w69464 := cv_eq (rfl : z69460.toInt = z69460.toInt) (by decide : (0 : Int32).toInt = 0) c69462
          exfalso
          omega
  · have w69465 := cv_eq (rfl : z69428.toInt = z69428.toInt) (by decide : (1 : Int32).toInt = 1) c69429
    refine lv_aload_n hx hb dX3_name_11 rfl (lv_at hl 0 rfl) ?_
    refine t_cVi (n := 0) (C := RX3) (T := TX3) (N := 13) (As := []) (rest := []) X hT (kt108_X3_lineSort l G tag L F hT.2.2.2 p0 x0 x1 x2 x3 x4 x5 m0 g0 mx0 gx0 pf0 mx1 gx1 pf1 mx2 gx2 pf2 mx3 gx3 pf3 mx4 gx4 pf4 mx5 gx5 pf5) m0 g0 rfl rfl qw_230 qw_231 qw_232 qw_28 qw_233 ⟨rfl, by decide +kernel, by decide +kernel, by decide +kernel⟩ ⟨Nat.le_of_ble_eq_true rfl, Nat.le_of_ble_eq_true rfl⟩ hl rfl rfl (Nat.le_of_ble_eq_true rfl) dX3_name_12 ⟨Nat.le_of_ble_eq_true rfl, Nat.le_of_ble_eq_true rfl⟩ (fun z69466 F9 H locs hT hz69466 => ?_)
    obtain ⟨fz69466, hz69466⟩ := hz69466
    rw [fz69466] at hT
    refine lv_iconst (v := (-1)) hx hb dX3_name_15 (by decide) ?_
    refine lv_icmp_eq (tgt := 31) hx hb dX3_name_16 (by decide) (fun c69467 => ?_) (fun c69467 => ?_)
    · have w69468 := cv_eq (rfl : z69466.toInt = z69466.toInt) (by decide : ((-1) : Int32).toInt = (-1)) c69467
      refine lv_aload_n hx hb dX3_name_31 rfl (lv_at hl 0 rfl) ?_
      refine t_cVi (n := 0) (C := RX3) (T := TX3) (N := 13) (As := []) (rest := []) X hT (kt159_X3_findName l G tag L F hT.2.2.2 p0 x0 x1 x2 x3 x4 x5 m0 g0 mx0 gx0 pf0 mx1 gx1 pf1 mx2 gx2 pf2 mx3 gx3 pf3 mx4 gx4 pf4 mx5 gx5 pf5) m0 g0 rfl rfl qw_361 qw_362 qw_363 qw_28 qw_364 ⟨rfl, by decide +kernel, by decide +kernel, by decide +kernel⟩ ⟨Nat.le_of_ble_eq_true rfl, Nat.le_of_ble_eq_true rfl⟩ hl rfl rfl (Nat.le_of_ble_eq_true rfl) dX3_name_32 ⟨Nat.le_of_ble_eq_true rfl, Nat.le_of_ble_eq_true rfl⟩ (fun z69469 F9 H locs hT hz69469 => ?_)
      obtain ⟨fz69469, hz69469⟩ := hz69469
      rw [fz69469] at hT
      refine lv_istore_n (lv' := [(2, .int z69469), (0, .ref p0), (1, .int p1)]) hx hb dX3_name_35 rfl hl (by decide) rfl (fun ls hl => ?_)
      refine lv_iload_n hx hb dX3_name_36 rfl (lv_at hl 0 rfl) ?_
      refine lv_iconst (v := (-1)) hx hb dX3_name_37 (by decide) ?_
      refine lv_icmp_eq (tgt := 51) hx hb dX3_name_38 (by decide) (fun c69470 => ?_) (fun c69470 => ?_)
      · have w69471 := cv_eq (rfl : z69469.toInt = z69469.toInt) (by decide : ((-1) : Int32).toInt = (-1)) c69470
        refine lv_aload_n hx hb dX3_name_51 rfl (lv_at hl 1 rfl) ?_
        refine lv_iconst (v := 2) hx hb dX3_name_52 (by decide) ?_
        refine lv_aload_n hx hb dX3_name_53 rfl (lv_at hl 1 rfl) ?_
        refine t_get (C := RX3) (T := TX3) (N := 13) X hT m0 g0 rfl rfl 0 (by decide) qw_73 inlX3 rfl dX3_name_54 (fun v69472 hv69472 ov69472 => ?_)
        obtain rfl : v69472 = .ref x0 := hv69472.symm.trans pf0
        refine t_get (C := RX8) (T := TX8) (N := 8) X hT mx0 gx0 rfl rfl 4 (by decide) qw_227 inlX8 rfl dX3_name_57 (fun v69473 hv69473 ov69473 => ?_)
        obtain ⟨z69474, rfl, rz69474⟩ := okV_i ov69473
        refine t_cVv (n := 2) (C := RX3) (T := TX3) (N := 13) (As := [.int 2, .int z69474]) (rest := []) X hT (kt156_X3_fail l G tag L F hT.2.2.2 p0 2 z69474 m0 g0 (by decide)) m0 g0 rfl rfl qw_287 qw_288 qw_289 qw_28 qw_290 ⟨rfl, by decide +kernel, by decide +kernel, by decide +kernel⟩ ⟨Nat.le_of_ble_eq_true rfl, Nat.le_of_ble_eq_true rfl⟩ hl rfl rfl (Nat.le_of_ble_eq_true rfl) dX3_name_60 ⟨Nat.le_of_ble_eq_true rfl, Nat.le_of_ble_eq_true rfl⟩ (fun F H locs hT hz69475 => ?_)
        obtain ⟨yz69475, xz69475_0⟩ := hz69475
        have pf0 := (yz69475.1 _ 0 (Or.inr (by decide)) (Or.inr (by decide))).trans pf0
        have pf1 := (yz69475.1 _ 1 (Or.inr (by decide)) (Or.inr (by decide))).trans pf1
        have pf2 := (yz69475.1 _ 2 (Or.inr (by decide)) (Or.inr (by decide))).trans pf2
        have pf3 := (yz69475.1 _ 0 (Or.inr (by decide)) (Or.inr (by decide))).trans pf3
        have pf4 := (yz69475.1 _ 10 (Or.inr (by decide)) (Or.inr (by decide))).trans pf4
        have pf5 := (yz69475.1 _ 11 (Or.inr (by decide)) (Or.inr (by decide))).trans pf5
        have hv69427 := (yz69475.1 _ 3 (Or.inl (by rw [gx0]; decide)) (Or.inr (by decide))).trans hv69427
        have hv69473 := (yz69475.1 _ 4 (Or.inr (by decide)) (Or.inl (by rw [gx0]; decide))).trans hv69473
        have hfr : (∀ b j : Nat, (tag b ≠ 24 ∨ j ≠ 2) → (tag b ≠ 24 ∨ j ≠ 3) → (tag b ≠ 24 ∨ j ≠ 4) → (tag b ≠ 24 ∨ j ≠ 5) → (tag b ≠ 24 ∨ j ≠ 6) → (tag b ≠ 24 ∨ j ≠ 7) → (tag b ≠ 25 ∨ j ≠ 3) → (tag b ≠ 25 ∨ j ≠ 4) → fld F b j = fld Fo b j) ∧ EF tag F Fo := ⟨fun b j n24_2 n24_3 n24_4 n24_5 n24_6 n24_7 n25_3 n25_4 => (yz69475.1 b j n25_3 n25_4).trans (hfr.1 b j n24_2 n24_3 n24_4 n24_5 n24_6 n24_7 n25_3 n25_4), fun b j hb => (yz69475.2 b j hb).trans (hfr.2 b j hb)⟩
        have hrel := nsr_of (fun j => yz69475.2 _ j (Or.inl gx4)) (fun j => yz69475.2 _ j (Or.inr gx5)) hrel
        obtain ⟨z69476, qz69476, rz69476⟩ := xz69475_0
        refine lv_aload_n hx hb dX3_name_63 rfl (lv_at hl 1 rfl) ?_
        refine t_get (C := RX3) (T := TX3) (N := 13) X hT m0 g0 rfl rfl 3 (by decide) qw_163 inlX3 rfl dX3_name_64 (fun v69477 hv69477 ov69477 => ?_)
        obtain rfl : v69477 = .int z69476 := hv69477.symm.trans qz69476
        refine lv_if_ne (tgt := 75) hx hb dX3_name_67 (by decide) (fun c69478 => ?_) (fun c69478 => ?_)
        · have w69479 := cv_ne (rfl : z69476.toInt = z69476.toInt) (by decide : (0 : Int32).toInt = 0) c69478
          refine lv_iconst (v := 0) hx hb dX3_name_75 (by decide) ?_
          exact t_iret hQ X hT (⟨rg_all _, hfr, hrel⟩) (Nat.le_of_ble_eq_true rfl) (Nat.le_of_ble_eq_true rfl) dX3_name_76
        · have w69480 := cv_eq (rfl : z69476.toInt = z69476.toInt) (by decide : (0 : Int32).toInt = 0) c69478
          exfalso
          omega
      · have w69481 := cv_ne (rfl : z69469.toInt = z69469.toInt) (by decide : ((-1) : Int32).toInt = (-1)) c69470
        refine lv_aload_n hx hb dX3_name_41 rfl (lv_at hl 1 rfl) ?_
        refine t_get (C := RX3) (T := TX3) (N := 13) X hT m0 g0 rfl rfl 10 (by decide) qw_75 inlX3 rfl dX3_name_42 (fun v69482 hv69482 ov69482 => ?_)
        obtain rfl : v69482 = .ref x4 := hv69482.symm.trans pf4
        refine lv_iload_n hx hb dX3_name_45 rfl (lv_at hl 0 rfl) ?_
        refine t_ild X hT mx4 gx4 rfl (by omega) dX3_name_46 (fun z69483 vz69483 rz69483 => ?_)
        have rz69483 : (-2147483648) ≤ z69483.toInt ∧ z69483.toInt ≤ 2147483647 := rz69483
        refine lv_iload_n hx hb dX3_name_47 rfl (lv_at hl 2 rfl) ?_
        refine lv_icmp_eq (tgt := 63) hx hb dX3_name_48 (by decide) (fun c69484 => ?_) (fun c69484 => ?_)
        · have w69485 := cv_eq (rfl : z69483.toInt = z69483.toInt) (rfl : p1.toInt = p1.toInt) c69484
          refine lv_aload_n hx hb dX3_name_63 rfl (lv_at hl 1 rfl) ?_
          refine t_get (C := RX3) (T := TX3) (N := 13) X hT m0 g0 rfl rfl 3 (by decide) qw_163 inlX3 rfl dX3_name_64 (fun v69486 hv69486 ov69486 => ?_)
          obtain ⟨z69487, rfl, rz69487⟩ := okV_i ov69486
          refine lv_if_ne (tgt := 75) hx hb dX3_name_67 (by decide) (fun c69488 => ?_) (fun c69488 => ?_)
          · have w69489 := cv_ne (rfl : z69487.toInt = z69487.toInt) (by decide : (0 : Int32).toInt = 0) c69488
            refine lv_iconst (v := 0) hx hb dX3_name_75 (by decide) ?_
            exact t_iret hQ X hT (⟨rg_all _, hfr, hrel⟩) (Nat.le_of_ble_eq_true rfl) (Nat.le_of_ble_eq_true rfl) dX3_name_76
          · have w69490 := cv_eq (rfl : z69487.toInt = z69487.toInt) (by decide : (0 : Int32).toInt = 0) c69488
            refine lv_iload_n hx hb dX3_name_70 rfl (lv_at hl 0 rfl) ?_
            refine lv_iconst (v := (-1)) hx hb dX3_name_71 (by decide) ?_
            refine lv_icmp_ne (tgt := 77) hx hb dX3_name_72 (by decide) (fun c69491 => ?_) (fun c69491 => ?_)
            · have w69492 := cv_ne (rfl : z69469.toInt = z69469.toInt) (by decide : ((-1) : Int32).toInt = (-1)) c69491
              refine lv_aload_n hx hb dX3_name_77 rfl (lv_at hl 1 rfl) ?_
              refine t_get (C := RX3) (T := TX3) (N := 13) X hT m0 g0 rfl rfl 0 (by decide) qw_73 inlX3 rfl dX3_name_78 (fun v69493 hv69493 ov69493 => ?_)
              obtain rfl : v69493 = .ref x0 := hv69493.symm.trans pf0
              refine t_cVv (n := 0) (C := RX8) (T := TX8) (N := 8) (As := []) (rest := []) X hT (kt98_X8_advance l G tag L F hT.2.2.2 x0 x3 mx0 gx0 mx3 gx3 pf3) mx0 gx0 rfl rfl qw_305 qw_197 qw_198 qw_72 qw_199 ⟨rfl, by decide +kernel, by decide +kernel, by decide +kernel⟩ ⟨Nat.le_of_ble_eq_true rfl, Nat.le_of_ble_eq_true rfl⟩ hl rfl rfl (Nat.le_of_ble_eq_true rfl) dX3_name_81 ⟨Nat.le_of_ble_eq_true rfl, Nat.le_of_ble_eq_true rfl⟩ (fun F H locs hT hz69494 => ?_)
              have yz69494 := hz69494
              have pf0 := (yz69494.1 _ 0 (Or.inr (by decide)) (Or.inr (by decide)) (Or.inr (by decide)) (Or.inr (by decide)) (Or.inr (by decide)) (Or.inr (by decide))).trans pf0
              have pf1 := (yz69494.1 _ 1 (Or.inr (by decide)) (Or.inr (by decide)) (Or.inr (by decide)) (Or.inr (by decide)) (Or.inr (by decide)) (Or.inr (by decide))).trans pf1
              have pf2 := (yz69494.1 _ 2 (Or.inl (by rw [g0]; decide)) (Or.inr (by decide)) (Or.inr (by decide)) (Or.inr (by decide)) (Or.inr (by decide)) (Or.inr (by decide))).trans pf2
              have pf3 := (yz69494.1 _ 0 (Or.inr (by decide)) (Or.inr (by decide)) (Or.inr (by decide)) (Or.inr (by decide)) (Or.inr (by decide)) (Or.inr (by decide))).trans pf3
              have pf4 := (yz69494.1 _ 10 (Or.inr (by decide)) (Or.inr (by decide)) (Or.inr (by decide)) (Or.inr (by decide)) (Or.inr (by decide)) (Or.inr (by decide))).trans pf4
              have pf5 := (yz69494.1 _ 11 (Or.inr (by decide)) (Or.inr (by decide)) (Or.inr (by decide)) (Or.inr (by decide)) (Or.inr (by decide)) (Or.inr (by decide))).trans pf5
              have vz69483 := (yz69494.2 _ _ (Or.inl gx4)).trans vz69483
              have hv69486 := (yz69494.1 _ 3 (Or.inr (by decide)) (Or.inl (by rw [g0]; decide)) (Or.inr (by decide)) (Or.inr (by decide)) (Or.inr (by decide)) (Or.inr (by decide))).trans hv69486
              have hfr : (∀ b j : Nat, (tag b ≠ 24 ∨ j ≠ 2) → (tag b ≠ 24 ∨ j ≠ 3) → (tag b ≠ 24 ∨ j ≠ 4) → (tag b ≠ 24 ∨ j ≠ 5) → (tag b ≠ 24 ∨ j ≠ 6) → (tag b ≠ 24 ∨ j ≠ 7) → (tag b ≠ 25 ∨ j ≠ 3) → (tag b ≠ 25 ∨ j ≠ 4) → fld F b j = fld Fo b j) ∧ EF tag F Fo := ⟨fun b j n24_2 n24_3 n24_4 n24_5 n24_6 n24_7 n25_3 n25_4 => (yz69494.1 b j n24_2 n24_3 n24_4 n24_5 n24_6 n24_7).trans (hfr.1 b j n24_2 n24_3 n24_4 n24_5 n24_6 n24_7 n25_3 n25_4), fun b j hb => (yz69494.2 b j hb).trans (hfr.2 b j hb)⟩
              have hrel := nsr_of (fun j => yz69494.2 _ j (Or.inl gx4)) (fun j => yz69494.2 _ j (Or.inr gx5)) hrel
              refine lv_aload_n hx hb dX3_name_84 rfl (lv_at hl 1 rfl) ?_
              refine t_get (C := RX3) (T := TX3) (N := 13) X hT m0 g0 rfl rfl 11 (by decide) qw_76 inlX3 rfl dX3_name_85 (fun v69495 hv69495 ov69495 => ?_)
              obtain rfl : v69495 = .ref x5 := hv69495.symm.trans pf5
              refine lv_iload_n hx hb dX3_name_88 rfl (lv_at hl 0 rfl) ?_
              refine t_ild X hT mx5 gx5 rfl (by omega) dX3_name_89 (fun z69496 vz69496 rz69496 => ?_)
              have rz69496 : (-2147483648) ≤ z69496.toInt ∧ z69496.toInt ≤ 2147483647 := rz69496
              exact t_iret hQ X hT (⟨rg_all _, hfr, hrel⟩) (Nat.le_of_ble_eq_true rfl) (Nat.le_of_ble_eq_true rfl) dX3_name_90
            · have w69497 := cv_eq (rfl : z69469.toInt = z69469.toInt) (by decide : ((-1) : Int32).toInt = (-1)) c69491
              exfalso
              omega
        · have w69498 := cv_ne (rfl : z69483.toInt = z69483.toInt) (rfl : p1.toInt = p1.toInt) c69484
          refine lv_aload_n hx hb dX3_name_51 rfl (lv_at hl 1 rfl) ?_
          refine lv_iconst (v := 2) hx hb dX3_name_52 (by decide) ?_
          refine lv_aload_n hx hb dX3_name_53 rfl (lv_at hl 1 rfl) ?_
          refine t_get (C := RX3) (T := TX3) (N := 13) X hT m0 g0 rfl rfl 0 (by decide) qw_73 inlX3 rfl dX3_name_54 (fun v69499 hv69499 ov69499 => ?_)
          obtain rfl : v69499 = .ref x0 := hv69499.symm.trans pf0
          refine t_get (C := RX8) (T := TX8) (N := 8) X hT mx0 gx0 rfl rfl 4 (by decide) qw_227 inlX8 rfl dX3_name_57 (fun v69500 hv69500 ov69500 => ?_)
          obtain ⟨z69501, rfl, rz69501⟩ := okV_i ov69500
          refine t_cVv (n := 2) (C := RX3) (T := TX3) (N := 13) (As := [.int 2, .int z69501]) (rest := []) X hT (kt156_X3_fail l G tag L F hT.2.2.2 p0 2 z69501 m0 g0 (by decide)) m0 g0 rfl rfl qw_287 qw_288 qw_289 qw_28 qw_290 ⟨rfl, by decide +kernel, by decide +kernel, by decide +kernel⟩ ⟨Nat.le_of_ble_eq_true rfl, Nat.le_of_ble_eq_true rfl⟩ hl rfl rfl (Nat.le_of_ble_eq_true rfl) dX3_name_60 ⟨Nat.le_of_ble_eq_true rfl, Nat.le_of_ble_eq_true rfl⟩ (fun F H locs hT hz69502 => ?_)
          obtain ⟨yz69502, xz69502_0⟩ := hz69502
          have pf0 := (yz69502.1 _ 0 (Or.inr (by decide)) (Or.inr (by decide))).trans pf0
          have pf1 := (yz69502.1 _ 1 (Or.inr (by decide)) (Or.inr (by decide))).trans pf1
          have pf2 := (yz69502.1 _ 2 (Or.inr (by decide)) (Or.inr (by decide))).trans pf2
          have pf3 := (yz69502.1 _ 0 (Or.inr (by decide)) (Or.inr (by decide))).trans pf3
          have pf4 := (yz69502.1 _ 10 (Or.inr (by decide)) (Or.inr (by decide))).trans pf4
          have pf5 := (yz69502.1 _ 11 (Or.inr (by decide)) (Or.inr (by decide))).trans pf5
          have hv69427 := (yz69502.1 _ 3 (Or.inl (by rw [gx0]; decide)) (Or.inr (by decide))).trans hv69427
          have vz69483 := (yz69502.2 _ _ (Or.inl gx4)).trans vz69483
          have hv69500 := (yz69502.1 _ 4 (Or.inr (by decide)) (Or.inl (by rw [gx0]; decide))).trans hv69500
          have hfr : (∀ b j : Nat, (tag b ≠ 24 ∨ j ≠ 2) → (tag b ≠ 24 ∨ j ≠ 3) → (tag b ≠ 24 ∨ j ≠ 4) → (tag b ≠ 24 ∨ j ≠ 5) → (tag b ≠ 24 ∨ j ≠ 6) → (tag b ≠ 24 ∨ j ≠ 7) → (tag b ≠ 25 ∨ j ≠ 3) → (tag b ≠ 25 ∨ j ≠ 4) → fld F b j = fld Fo b j) ∧ EF tag F Fo := ⟨fun b j n24_2 n24_3 n24_4 n24_5 n24_6 n24_7 n25_3 n25_4 => (yz69502.1 b j n25_3 n25_4).trans (hfr.1 b j n24_2 n24_3 n24_4 n24_5 n24_6 n24_7 n25_3 n25_4), fun b j hb => (yz69502.2 b j hb).trans (hfr.2 b j hb)⟩
          have hrel := nsr_of (fun j => yz69502.2 _ j (Or.inl gx4)) (fun j => yz69502.2 _ j (Or.inr gx5)) hrel
          obtain ⟨z69503, qz69503, rz69503⟩ := xz69502_0
          refine lv_aload_n hx hb dX3_name_63 rfl (lv_at hl 1 rfl) ?_
          refine t_get (C := RX3) (T := TX3) (N := 13) X hT m0 g0 rfl rfl 3 (by decide) qw_163 inlX3 rfl dX3_name_64 (fun v69504 hv69504 ov69504 => ?_)
          obtain rfl : v69504 = .int z69503 := hv69504.symm.trans qz69503
          refine lv_if_ne (tgt := 75) hx hb dX3_name_67 (by decide) (fun c69505 => ?_) (fun c69505 => ?_)
          · have w69506 := cv_ne (rfl : z69503.toInt = z69503.toInt) (by decide : (0 : Int32).toInt = 0) c69505
            refine lv_iconst (v := 0) hx hb dX3_name_75 (by decide) ?_
            exact t_iret hQ X hT (⟨rg_all _, hfr, hrel⟩) (Nat.le_of_ble_eq_true rfl) (Nat.le_of_ble_eq_true rfl) dX3_name_76
          · have w69507 := cv_eq (rfl : z69503.toInt = z69503.toInt) (by decide : (0 : Int32).toInt = 0) c69505
            exfalso
            omega
    · have w69508 := cv_ne (rfl : z69466.toInt = z69466.toInt) (by decide : ((-1) : Int32).toInt = (-1)) c69467
      refine lv_aload_n hx hb dX3_name_19 rfl (lv_at hl 0 rfl) ?_
      refine lv_iconst (v := 1) hx hb dX3_name_20 (by decide) ?_
      refine lv_aload_n hx hb dX3_name_21 rfl (lv_at hl 0 rfl) ?_
      refine t_get (C := RX3) (T := TX3) (N := 13) X hT m0 g0 rfl rfl 0 (by decide) qw_73 inlX3 rfl dX3_name_22 (fun v69509 hv69509 ov69509 => ?_)
      obtain rfl : v69509 = .ref x0 := hv69509.symm.trans pf0
      refine t_get (C := RX8) (T := TX8) (N := 8) X hT mx0 gx0 rfl rfl 4 (by decide) qw_227 inlX8 rfl dX3_name_25 (fun v69510 hv69510 ov69510 => ?_)
      obtain ⟨z69511, rfl, rz69511⟩ := okV_i ov69510
      refine t_cVv (n := 2) (C := RX3) (T := TX3) (N := 13) (As := [.int 1, .int z69511]) (rest := []) X hT (kt156_X3_fail l G tag L F hT.2.2.2 p0 1 z69511 m0 g0 (by decide)) m0 g0 rfl rfl qw_287 qw_288 qw_289 qw_28 qw_290 ⟨rfl, by decide +kernel, by decide +kernel, by decide +kernel⟩ ⟨Nat.le_of_ble_eq_true rfl, Nat.le_of_ble_eq_true rfl⟩ hl rfl rfl (Nat.le_of_ble_eq_true rfl) dX3_name_28 ⟨Nat.le_of_ble_eq_true rfl, Nat.le_of_ble_eq_true rfl⟩ (fun F H locs hT hz69512 => ?_)
      obtain ⟨yz69512, xz69512_0⟩ := hz69512
      have pf0 := (yz69512.1 _ 0 (Or.inr (by decide)) (Or.inr (by decide))).trans pf0
      have pf1 := (yz69512.1 _ 1 (Or.inr (by decide)) (Or.inr (by decide))).trans pf1
      have pf2 := (yz69512.1 _ 2 (Or.inr (by decide)) (Or.inr (by decide))).trans pf2
      have pf3 := (yz69512.1 _ 0 (Or.inr (by decide)) (Or.inr (by decide))).trans pf3
      have pf4 := (yz69512.1 _ 10 (Or.inr (by decide)) (Or.inr (by decide))).trans pf4
      have pf5 := (yz69512.1 _ 11 (Or.inr (by decide)) (Or.inr (by decide))).trans pf5
      have hv69427 := (yz69512.1 _ 3 (Or.inl (by rw [gx0]; decide)) (Or.inr (by decide))).trans hv69427
      have hv69510 := (yz69512.1 _ 4 (Or.inr (by decide)) (Or.inl (by rw [gx0]; decide))).trans hv69510
      have hfr : (∀ b j : Nat, (tag b ≠ 24 ∨ j ≠ 2) → (tag b ≠ 24 ∨ j ≠ 3) → (tag b ≠ 24 ∨ j ≠ 4) → (tag b ≠ 24 ∨ j ≠ 5) → (tag b ≠ 24 ∨ j ≠ 6) → (tag b ≠ 24 ∨ j ≠ 7) → (tag b ≠ 25 ∨ j ≠ 3) → (tag b ≠ 25 ∨ j ≠ 4) → fld F b j = fld Fo b j) ∧ EF tag F Fo := ⟨fun b j n24_2 n24_3 n24_4 n24_5 n24_6 n24_7 n25_3 n25_4 => (yz69512.1 b j n25_3 n25_4).trans (hfr.1 b j n24_2 n24_3 n24_4 n24_5 n24_6 n24_7 n25_3 n25_4), fun b j hb => (yz69512.2 b j hb).trans (hfr.2 b j hb)⟩
      have hrel := nsr_of (fun j => yz69512.2 _ j (Or.inl gx4)) (fun j => yz69512.2 _ j (Or.inr gx5)) hrel
      obtain ⟨z69513, qz69513, rz69513⟩ := xz69512_0
      refine lv_aload_n hx hb dX3_name_31 rfl (lv_at hl 0 rfl) ?_
      refine t_cVi (n := 0) (C := RX3) (T := TX3) (N := 13) (As := []) (rest := []) X hT (kt159_X3_findName l G tag L F hT.2.2.2 p0 x0 x1 x2 x3 x4 x5 m0 g0 mx0 gx0 pf0 mx1 gx1 pf1 mx2 gx2 pf2 mx3 gx3 pf3 mx4 gx4 pf4 mx5 gx5 pf5) m0 g0 rfl rfl qw_361 qw_362 qw_363 qw_28 qw_364 ⟨rfl, by decide +kernel, by decide +kernel, by decide +kernel⟩ ⟨Nat.le_of_ble_eq_true rfl, Nat.le_of_ble_eq_true rfl⟩ hl rfl rfl (Nat.le_of_ble_eq_true rfl) dX3_name_32 ⟨Nat.le_of_ble_eq_true rfl, Nat.le_of_ble_eq_true rfl⟩ (fun z69514 F9 H locs hT hz69514 => ?_)
      obtain ⟨fz69514, hz69514⟩ := hz69514
      rw [fz69514] at hT
      refine lv_istore_n (lv' := [(2, .int z69514), (0, .ref p0), (1, .int p1)]) hx hb dX3_name_35 rfl hl (by decide) rfl (fun ls hl => ?_)
      refine lv_iload_n hx hb dX3_name_36 rfl (lv_at hl 0 rfl) ?_
      refine lv_iconst (v := (-1)) hx hb dX3_name_37 (by decide) ?_
      refine lv_icmp_eq (tgt := 51) hx hb dX3_name_38 (by decide) (fun c69515 => ?_) (fun c69515 => ?_)
      · have w69516 := cv_eq (rfl : z69514.toInt = z69514.toInt) (by decide : ((-1) : Int32).toInt = (-1)) c69515
        refine lv_aload_n hx hb dX3_name_51 rfl (lv_at hl 1 rfl) ?_
        refine lv_iconst (v := 2) hx hb dX3_name_52 (by decide) ?_
        refine lv_aload_n hx hb dX3_name_53 rfl (lv_at hl 1 rfl) ?_
        refine t_get (C := RX3) (T := TX3) (N := 13) X hT m0 g0 rfl rfl 0 (by decide) qw_73 inlX3 rfl dX3_name_54 (fun v69517 hv69517 ov69517 => ?_)
        obtain rfl : v69517 = .ref x0 := hv69517.symm.trans pf0
        refine t_get (C := RX8) (T := TX8) (N := 8) X hT mx0 gx0 rfl rfl 4 (by decide) qw_227 inlX8 rfl dX3_name_57 (fun v69518 hv69518 ov69518 => ?_)
        obtain rfl : v69518 = .int z69511 := hv69518.symm.trans hv69510
        refine t_cVv (n := 2) (C := RX3) (T := TX3) (N := 13) (As := [.int 2, .int z69511]) (rest := []) X hT (kt156_X3_fail l G tag L F hT.2.2.2 p0 2 z69511 m0 g0 (by decide)) m0 g0 rfl rfl qw_287 qw_288 qw_289 qw_28 qw_290 ⟨rfl, by decide +kernel, by decide +kernel, by decide +kernel⟩ ⟨Nat.le_of_ble_eq_true rfl, Nat.le_of_ble_eq_true rfl⟩ hl rfl rfl (Nat.le_of_ble_eq_true rfl) dX3_name_60 ⟨Nat.le_of_ble_eq_true rfl, Nat.le_of_ble_eq_true rfl⟩ (fun F H locs hT hz69519 => ?_)
        obtain ⟨yz69519, xz69519_0⟩ := hz69519
        have pf0 := (yz69519.1 _ 0 (Or.inr (by decide)) (Or.inr (by decide))).trans pf0
        have pf1 := (yz69519.1 _ 1 (Or.inr (by decide)) (Or.inr (by decide))).trans pf1
        have pf2 := (yz69519.1 _ 2 (Or.inr (by decide)) (Or.inr (by decide))).trans pf2
        have pf3 := (yz69519.1 _ 0 (Or.inr (by decide)) (Or.inr (by decide))).trans pf3
        have pf4 := (yz69519.1 _ 10 (Or.inr (by decide)) (Or.inr (by decide))).trans pf4
        have pf5 := (yz69519.1 _ 11 (Or.inr (by decide)) (Or.inr (by decide))).trans pf5
        have hv69427 := (yz69519.1 _ 3 (Or.inl (by rw [gx0]; decide)) (Or.inr (by decide))).trans hv69427
        have hv69510 := (yz69519.1 _ 4 (Or.inr (by decide)) (Or.inl (by rw [gx0]; decide))).trans hv69510
        have hfr : (∀ b j : Nat, (tag b ≠ 24 ∨ j ≠ 2) → (tag b ≠ 24 ∨ j ≠ 3) → (tag b ≠ 24 ∨ j ≠ 4) → (tag b ≠ 24 ∨ j ≠ 5) → (tag b ≠ 24 ∨ j ≠ 6) → (tag b ≠ 24 ∨ j ≠ 7) → (tag b ≠ 25 ∨ j ≠ 3) → (tag b ≠ 25 ∨ j ≠ 4) → fld F b j = fld Fo b j) ∧ EF tag F Fo := ⟨fun b j n24_2 n24_3 n24_4 n24_5 n24_6 n24_7 n25_3 n25_4 => (yz69519.1 b j n25_3 n25_4).trans (hfr.1 b j n24_2 n24_3 n24_4 n24_5 n24_6 n24_7 n25_3 n25_4), fun b j hb => (yz69519.2 b j hb).trans (hfr.2 b j hb)⟩
        have hrel := nsr_of (fun j => yz69519.2 _ j (Or.inl gx4)) (fun j => yz69519.2 _ j (Or.inr gx5)) hrel
        obtain ⟨z69520, qz69520, rz69520⟩ := xz69519_0
        refine lv_aload_n hx hb dX3_name_63 rfl (lv_at hl 1 rfl) ?_
        refine t_get (C := RX3) (T := TX3) (N := 13) X hT m0 g0 rfl rfl 3 (by decide) qw_163 inlX3 rfl dX3_name_64 (fun v69521 hv69521 ov69521 => ?_)
        obtain rfl : v69521 = .int z69520 := hv69521.symm.trans qz69520
        refine lv_if_ne (tgt := 75) hx hb dX3_name_67 (by decide) (fun c69522 => ?_) (fun c69522 => ?_)
        · have w69523 := cv_ne (rfl : z69520.toInt = z69520.toInt) (by decide : (0 : Int32).toInt = 0) c69522
          refine lv_iconst (v := 0) hx hb dX3_name_75 (by decide) ?_
          exact t_iret hQ X hT (⟨rg_all _, hfr, hrel⟩) (Nat.le_of_ble_eq_true rfl) (Nat.le_of_ble_eq_true rfl) dX3_name_76
        · have w69524 := cv_eq (rfl : z69520.toInt = z69520.toInt) (by decide : (0 : Int32).toInt = 0) c69522
          exfalso
          omega
      · have w69525 := cv_ne (rfl : z69514.toInt = z69514.toInt) (by decide : ((-1) : Int32).toInt = (-1)) c69515
        refine lv_aload_n hx hb dX3_name_41 rfl (lv_at hl 1 rfl) ?_
        refine t_get (C := RX3) (T := TX3) (N := 13) X hT m0 g0 rfl rfl 10 (by decide) qw_75 inlX3 rfl dX3_name_42 (fun v69526 hv69526 ov69526 => ?_)
        obtain rfl : v69526 = .ref x4 := hv69526.symm.trans pf4
        refine lv_iload_n hx hb dX3_name_45 rfl (lv_at hl 0 rfl) ?_
        refine t_ild X hT mx4 gx4 rfl (by omega) dX3_name_46 (fun z69527 vz69527 rz69527 => ?_)
        have rz69527 : (-2147483648) ≤ z69527.toInt ∧ z69527.toInt ≤ 2147483647 := rz69527
        refine lv_iload_n hx hb dX3_name_47 rfl (lv_at hl 2 rfl) ?_
        refine lv_icmp_eq (tgt := 63) hx hb dX3_name_48 (by decide) (fun c69528 => ?_) (fun c69528 => ?_)
        · have w69529 := cv_eq (rfl : z69527.toInt = z69527.toInt) (rfl : p1.toInt = p1.toInt) c69528
          refine lv_aload_n hx hb dX3_name_63 rfl (lv_at hl 1 rfl) ?_
          refine t_get (C := RX3) (T := TX3) (N := 13) X hT m0 g0 rfl rfl 3 (by decide) qw_163 inlX3 rfl dX3_name_64 (fun v69530 hv69530 ov69530 => ?_)
          obtain rfl : v69530 = .int z69513 := hv69530.symm.trans qz69513
          refine lv_if_ne (tgt := 75) hx hb dX3_name_67 (by decide) (fun c69531 => ?_) (fun c69531 => ?_)
          · have w69532 := cv_ne (rfl : z69513.toInt = z69513.toInt) (by decide : (0 : Int32).toInt = 0) c69531
            refine lv_iconst (v := 0) hx hb dX3_name_75 (by decide) ?_
            exact t_iret hQ X hT (⟨rg_all _, hfr, hrel⟩) (Nat.le_of_ble_eq_true rfl) (Nat.le_of_ble_eq_true rfl) dX3_name_76
          · have w69533 := cv_eq (rfl : z69513.toInt = z69513.toInt) (by decide : (0 : Int32).toInt = 0) c69531
            exfalso
            omega
        · have w69534 := cv_ne (rfl : z69527.toInt = z69527.toInt) (rfl : p1.toInt = p1.toInt) c69528
          refine lv_aload_n hx hb dX3_name_51 rfl (lv_at hl 1 rfl) ?_
          refine lv_iconst (v := 2) hx hb dX3_name_52 (by decide) ?_
          refine lv_aload_n hx hb dX3_name_53 rfl (lv_at hl 1 rfl) ?_
          refine t_get (C := RX3) (T := TX3) (N := 13) X hT m0 g0 rfl rfl 0 (by decide) qw_73 inlX3 rfl dX3_name_54 (fun v69535 hv69535 ov69535 => ?_)
          obtain rfl : v69535 = .ref x0 := hv69535.symm.trans pf0
          refine t_get (C := RX8) (T := TX8) (N := 8) X hT mx0 gx0 rfl rfl 4 (by decide) qw_227 inlX8 rfl dX3_name_57 (fun v69536 hv69536 ov69536 => ?_)
          obtain rfl : v69536 = .int z69511 := hv69536.symm.trans hv69510
          refine t_cVv (n := 2) (C := RX3) (T := TX3) (N := 13) (As := [.int 2, .int z69511]) (rest := []) X hT (kt156_X3_fail l G tag L F hT.2.2.2 p0 2 z69511 m0 g0 (by decide)) m0 g0 rfl rfl qw_287 qw_288 qw_289 qw_28 qw_290 ⟨rfl, by decide +kernel, by decide +kernel, by decide +kernel⟩ ⟨Nat.le_of_ble_eq_true rfl, Nat.le_of_ble_eq_true rfl⟩ hl rfl rfl (Nat.le_of_ble_eq_true rfl) dX3_name_60 ⟨Nat.le_of_ble_eq_true rfl, Nat.le_of_ble_eq_true rfl⟩ (fun F H locs hT hz69537 => ?_)
          obtain ⟨yz69537, xz69537_0⟩ := hz69537
          have pf0 := (yz69537.1 _ 0 (Or.inr (by decide)) (Or.inr (by decide))).trans pf0
          have pf1 := (yz69537.1 _ 1 (Or.inr (by decide)) (Or.inr (by decide))).trans pf1
          have pf2 := (yz69537.1 _ 2 (Or.inr (by decide)) (Or.inr (by decide))).trans pf2
          have pf3 := (yz69537.1 _ 0 (Or.inr (by decide)) (Or.inr (by decide))).trans pf3
          have pf4 := (yz69537.1 _ 10 (Or.inr (by decide)) (Or.inr (by decide))).trans pf4
          have pf5 := (yz69537.1 _ 11 (Or.inr (by decide)) (Or.inr (by decide))).trans pf5
          have hv69427 := (yz69537.1 _ 3 (Or.inl (by rw [gx0]; decide)) (Or.inr (by decide))).trans hv69427
          have hv69510 := (yz69537.1 _ 4 (Or.inr (by decide)) (Or.inl (by rw [gx0]; decide))).trans hv69510
          have vz69527 := (yz69537.2 _ _ (Or.inl gx4)).trans vz69527
          have hfr : (∀ b j : Nat, (tag b ≠ 24 ∨ j ≠ 2) → (tag b ≠ 24 ∨ j ≠ 3) → (tag b ≠ 24 ∨ j ≠ 4) → (tag b ≠ 24 ∨ j ≠ 5) → (tag b ≠ 24 ∨ j ≠ 6) → (tag b ≠ 24 ∨ j ≠ 7) → (tag b ≠ 25 ∨ j ≠ 3) → (tag b ≠ 25 ∨ j ≠ 4) → fld F b j = fld Fo b j) ∧ EF tag F Fo := ⟨fun b j n24_2 n24_3 n24_4 n24_5 n24_6 n24_7 n25_3 n25_4 => (yz69537.1 b j n25_3 n25_4).trans (hfr.1 b j n24_2 n24_3 n24_4 n24_5 n24_6 n24_7 n25_3 n25_4), fun b j hb => (yz69537.2 b j hb).trans (hfr.2 b j hb)⟩
          have hrel := nsr_of (fun j => yz69537.2 _ j (Or.inl gx4)) (fun j => yz69537.2 _ j (Or.inr gx5)) hrel
          obtain ⟨z69538, qz69538, rz69538⟩ := xz69537_0
          refine lv_aload_n hx hb dX3_name_63 rfl (lv_at hl 1 rfl) ?_
          refine t_get (C := RX3) (T := TX3) (N := 13) X hT m0 g0 rfl rfl 3 (by decide) qw_163 inlX3 rfl dX3_name_64 (fun v69539 hv69539 ov69539 => ?_)
          obtain rfl : v69539 = .int z69538 := hv69539.symm.trans qz69538
          refine lv_if_ne (tgt := 75) hx hb dX3_name_67 (by decide) (fun c69540 => ?_) (fun c69540 => ?_)
          · have w69541 := cv_ne (rfl : z69538.toInt = z69538.toInt) (by decide : (0 : Int32).toInt = 0) c69540
            refine lv_iconst (v := 0) hx hb dX3_name_75 (by decide) ?_
            exact t_iret hQ X hT (⟨rg_all _, hfr, hrel⟩) (Nat.le_of_ble_eq_true rfl) (Nat.le_of_ble_eq_true rfl) dX3_name_76
          · have w69542 := cv_eq (rfl : z69538.toInt = z69538.toInt) (by decide : (0 : Int32).toInt = 0) c69540
            exfalso
            omega
