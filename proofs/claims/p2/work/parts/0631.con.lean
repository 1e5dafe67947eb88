set_option maxHeartbeats 4000000 in
set_option maxRecDepth 100000 in
theorem kt476_X3_readOlder (l : Launch) (G : KG) (tag : Nat → Nat) (L : List Nat) (Fo : Nat → va_E) (ho : okT G ttC tag L Fo) (p0 : Nat) (x0 : Nat) (x1 : Nat) (x2 : Nat) (x3 : Nat) (x4 : Nat) (x5 : Nat) (m0 : p0 ∈ L) (g0 : tag p0 = 25) (mx0 : x0 ∈ L) (gx0 : tag x0 = 24) (pf0 : fld Fo p0 0 = .ref x0) (mx1 : x1 ∈ L) (gx1 : tag x1 = 18) (pf1 : fld Fo p0 1 = .ref x1) (mx2 : x2 ∈ L) (gx2 : tag x2 = 19) (pf2 : fld Fo p0 2 = .ref x2) (mx3 : x3 ∈ L) (gx3 : tag x3 = 1) (pf3 : fld Fo x0 0 = .ref x3) (mx4 : x4 ∈ L) (gx4 : tag x4 = 14) (pf4 : fld Fo p0 10 = .ref x4) (mx5 : x5 ∈ L) (gx5 : tag x5 = 15) (pf5 : fld Fo p0 11 = .ref x5) (hrel : NSR Fo x4 x5) : TMv l yX3_readOlder cX3_readOlder 3 { frames := 7, cells := 0, slots := 0, locals := 150 } G ttC tag L Fo [.ref p0] (fun F1 => ((∀ b j : Nat, (tag b ≠ 24 ∨ j ≠ 2) → (tag b ≠ 24 ∨ j ≠ 3) → (tag b ≠ 24 ∨ j ≠ 4) → (tag b ≠ 24 ∨ j ≠ 5) → (tag b ≠ 24 ∨ j ≠ 6) → (tag b ≠ 24 ∨ j ≠ 7) → (tag b ≠ 25 ∨ j ≠ 3) → (tag b ≠ 25 ∨ j ≠ 4) → (tag b ≠ 25 ∨ j ≠ 8) → fld F1 b j = fld Fo b j) ∧ EF tag F1 Fo) ∧ (NSR F1 x4 x5)) := by
  refine t_bodyv (y := yX3_readOlder) (cd := cX3_readOlder) (mL := 3) (rm := { frames := 7, cells := 0, slots := 0, locals := 150 }) (av := [.ref p0]) (by decide) (Nat.le_of_ble_eq_true rfl) ho ?_
  intro p e s m args below meth c ls A Q hQ X hT hl
  have hx := X.1.1
  have hb := X.1.2.1
  have hl : lv_has ls 3 [(0, .ref p0)] := hl
  obtain ⟨F, hFo⟩ : ∃ F : Nat → va_E, F = Fo := ⟨_, rfl⟩
  rw [← hFo] at hT pf0 pf1 pf2 pf3 pf4 pf5 hrel
  have hfr : (∀ b j : Nat, (tag b ≠ 24 ∨ j ≠ 2) → (tag b ≠ 24 ∨ j ≠ 3) → (tag b ≠ 24 ∨ j ≠ 4) → (tag b ≠ 24 ∨ j ≠ 5) → (tag b ≠ 24 ∨ j ≠ 6) → (tag b ≠ 24 ∨ j ≠ 7) → (tag b ≠ 25 ∨ j ≠ 3) → (tag b ≠ 25 ∨ j ≠ 4) → (tag b ≠ 25 ∨ j ≠ 8) → fld F b j = fld Fo b j) ∧ EF tag F Fo := by
    rw [hFo]
    exact ⟨by intros; rfl, fun _ _ _ => rfl⟩
  have K43 : ∀ (z165660 : Int32) (z165661 : Int32) (F : Nat → va_E) (H : Heap) (locs : List Loc) (ls : Array Slot), (0 ≤ z165660.toInt ∧ z165660.toInt ≤ 5) → (0 ≤ z165661.toInt ∧ z165661.toInt ≤ 5) → TH G ttC A s tag L F H locs → ((∀ b j : Nat, (tag b ≠ 24 ∨ j ≠ 2) → (tag b ≠ 24 ∨ j ≠ 3) → (tag b ≠ 24 ∨ j ≠ 4) → (tag b ≠ 24 ∨ j ≠ 5) → (tag b ≠ 24 ∨ j ≠ 6) → (tag b ≠ 24 ∨ j ≠ 7) → (tag b ≠ 25 ∨ j ≠ 3) → (tag b ≠ 25 ∨ j ≠ 4) → (tag b ≠ 25 ∨ j ≠ 8) → fld F b j = fld Fo b j) ∧ EF tag F Fo) → NSR F x4 x5 → fld F p0 0 = .ref x0 → fld F p0 1 = .ref x1 → fld F p0 2 = .ref x2 → fld F x0 0 = .ref x3 → fld F p0 10 = .ref x4 → fld F p0 11 = .ref x5 → lv_has ls 3 [(0, .ref p0), (1, .int z165660), (2, .int z165661)] → W p l e { frames := 7, cells := 0, slots := 0, locals := 150 } s m args below meth c H locs 0 0 Q (F0 m 43 ls []) := by
    intro z165660 z165661 F H locs ls rz165660 rz165661 hT hfr hrel pf0 pf1 pf2 pf3 pf4 pf5 hl
    refine lv_aload_n hx hb dX3_readOlder_43 rfl (lv_at hl 0 rfl) ?_
    refine t_get (C := RX3) (T := TX3) (N := 13) X hT m0 g0 rfl rfl 1 (by decide) qw_161 inlX3 rfl dX3_readOlder_44 (fun v165662 hv165662 ov165662 => ?_)
    obtain rfl : v165662 = .ref x1 := hv165662.symm.trans pf1
    refine t_get (C := RX1) (T := TX1) (N := 20) X hT mx1 gx1 rfl rfl 17 (by decide) qw_440 inlX1 rfl dX3_readOlder_47 (fun v165663 hv165663 ov165663 => ?_)
    obtain ⟨b165664, rfl, mb165664, gb165664⟩ := okV_r ov165663
    have gb165664 : tag b165664 = 7 := tg_of gb165664
    refine lv_iload_n hx hb dX3_readOlder_50 rfl (lv_at hl 2 rfl) ?_
    refine lv_dup2_11 hx hb dX3_readOlder_51 rfl rfl ?_
    refine t_ild X hT mb165664 gb165664 rfl (by omega) dX3_readOlder_52 (fun z165665 vz165665 rz165665 => ?_)
    have rz165665 : (-2147483648) ≤ z165665.toInt ∧ z165665.toInt ≤ 2147483647 := rz165665
    refine lv_iconst (v := 1) hx hb dX3_readOlder_53 (by decide) ?_
    refine lv_iload_n hx hb dX3_readOlder_54 rfl (lv_at hl 1 rfl) ?_
    refine lv_ishl hx hb dX3_readOlder_55 ?_
    refine lv_topi (fun z165666 ez165666 => ?_)
    have rz165666 := rg_all z165666
    refine lv_ior hx hb dX3_readOlder_56 ?_
    refine lv_topi (fun z165667 ez165667 => ?_)
    have rz165667 := rg_all z165667
    refine t_ist X hT mb165664 gb165664 rfl (by omega) (show (-2147483648) ≤ (z165667 : Int32).toInt ∧ (z165667 : Int32).toInt ≤ 2147483647 from (by omega)) dX3_readOlder_57 (fun F H locs hT v165668 h1v165668 h2v165668 => ?_)
    have pf0 := (h2v165668 _ _).trans pf0
    have pf1 := (h2v165668 _ _).trans pf1
    have pf2 := (h2v165668 _ _).trans pf2
    have pf3 := (h2v165668 _ _).trans pf3
    have pf4 := (h2v165668 _ _).trans pf4
    have pf5 := (h2v165668 _ _).trans pf5
    have hv165663 := (h2v165668 _ _).trans hv165663
    have hfr : (∀ b j : Nat, (tag b ≠ 24 ∨ j ≠ 2) → (tag b ≠ 24 ∨ j ≠ 3) → (tag b ≠ 24 ∨ j ≠ 4) → (tag b ≠ 24 ∨ j ≠ 5) → (tag b ≠ 24 ∨ j ≠ 6) → (tag b ≠ 24 ∨ j ≠ 7) → (tag b ≠ 25 ∨ j ≠ 3) → (tag b ≠ 25 ∨ j ≠ 4) → (tag b ≠ 25 ∨ j ≠ 8) → fld F b j = fld Fo b j) ∧ EF tag F Fo := ⟨fun b j n24_2 n24_3 n24_4 n24_5 n24_6 n24_7 n25_3 n25_4 n25_8 => (h2v165668 b j).trans (hfr.1 b j n24_2 n24_3 n24_4 n24_5 n24_6 n24_7 n25_3 n25_4 n25_8), fun b j hb => (h1v165668 b j (Or.inl (ns_ne hb gb165664 (by decide)))).trans (hfr.2 b j hb)⟩
    have hrel := nsr_of (fun j => h1v165668 _ j (Or.inl (tne gx4 gb165664 (by decide)))) (fun j => h1v165668 _ j (Or.inl (tne gx5 gb165664 (by decide)))) hrel
    refine lv_aload_n hx hb dX3_readOlder_58 rfl (lv_at hl 0 rfl) ?_
    refine lv_dup hx hb dX3_readOlder_59 rfl ?_
    refine t_get (C := RX3) (T := TX3) (N := 13) X hT m0 g0 rfl rfl 8 (by decide) qw_168 inlX3 rfl dX3_readOlder_60 (fun v165669 hv165669 ov165669 => ?_)
    obtain ⟨z165670, rfl, rz165670⟩ := okV_i ov165669
    refine lv_iconst (v := 1) hx hb dX3_readOlder_63 (by decide) ?_
    refine lv_iadd hx hb dX3_readOlder_64 ?_
    refine lv_topi (fun z165671 ez165671 => ?_)
    have rz165671 := rg_all z165671
    refine t_put (C := RX3) (T := TX3) (N := 13) (v := .int z165671) X hT m0 g0 rfl tyX3 tyX3_ok nmX3 rfl 8 (by decide) qw_168 inlX3 rfl (by first | rfl | decide) (by first | rfl | decide) rfl (⟨_, rfl, (show (-2147483648) ≤ (z165671 : Int32).toInt from (by omega)), (show (z165671 : Int32).toInt ≤ 2147483647 from (by omega))⟩) dX3_readOlder_65 (fun F H locs hT v165672 h1v165672 h2v165672 => ?_)
    have pf0 := (h1v165672 _ _ (Or.inr (by decide))).trans pf0
    have pf1 := (h1v165672 _ _ (Or.inr (by decide))).trans pf1
    have pf2 := (h1v165672 _ _ (Or.inr (by decide))).trans pf2
    have pf3 := (h1v165672 _ _ (Or.inr (by decide))).trans pf3
    have pf4 := (h1v165672 _ _ (Or.inr (by decide))).trans pf4
    have pf5 := (h1v165672 _ _ (Or.inr (by decide))).trans pf5
    have hv165663 := (h1v165672 _ _ (Or.inr (by decide))).trans hv165663
    have v165668 := (h2v165672 _ _).trans v165668
    have hfr : (∀ b j : Nat, (tag b ≠ 24 ∨ j ≠ 2) → (tag b ≠ 24 ∨ j ≠ 3) → (tag b ≠ 24 ∨ j ≠ 4) → (tag b ≠ 24 ∨ j ≠ 5) → (tag b ≠ 24 ∨ j ≠ 6) → (tag b ≠ 24 ∨ j ≠ 7) → (tag b ≠ 25 ∨ j ≠ 3) → (tag b ≠ 25 ∨ j ≠ 4) → (tag b ≠ 25 ∨ j ≠ 8) → fld F b j = fld Fo b j) ∧ EF tag F Fo := ⟨fun b j n24_2 n24_3 n24_4 n24_5 n24_6 n24_7 n25_3 n25_4 n25_8 => (h1v165672 b j (fr_ne g0 n25_8)).trans (hfr.1 b j n24_2 n24_3 n24_4 n24_5 n24_6 n24_7 n25_3 n25_4 n25_8), fun b j hb => (h2v165672 b j).trans (hfr.2 b j hb)⟩
    have hrel := nsr_of (fun j => h2v165672 _ j) (fun j => h2v165672 _ j) hrel
    exact t_vret hQ X hT ⟨hfr, hrel⟩ (Nat.le_of_ble_eq_true rfl) (Nat.le_of_ble_eq_true rfl) dX3_readOlder_68
  have K31 : ∀ (z165673 : Int32) (z165674 : Int32) (F : Nat → va_E) (H : Heap) (locs : List Loc) (ls : Array Slot), (0 ≤ z165673.toInt ∧ z165673.toInt ≤ 5) → (0 ≤ z165674.toInt ∧ z165674.toInt ≤ 5) → TH G ttC A s tag L F H locs → ((∀ b j : Nat, (tag b ≠ 24 ∨ j ≠ 2) → (tag b ≠ 24 ∨ j ≠ 3) → (tag b ≠ 24 ∨ j ≠ 4) → (tag b ≠ 24 ∨ j ≠ 5) → (tag b ≠ 24 ∨ j ≠ 6) → (tag b ≠ 24 ∨ j ≠ 7) → (tag b ≠ 25 ∨ j ≠ 3) → (tag b ≠ 25 ∨ j ≠ 4) → (tag b ≠ 25 ∨ j ≠ 8) → fld F b j = fld Fo b j) ∧ EF tag F Fo) → NSR F x4 x5 → fld F p0 0 = .ref x0 → fld F p0 1 = .ref x1 → fld F p0 2 = .ref x2 → fld F x0 0 = .ref x3 → fld F p0 10 = .ref x4 → fld F p0 11 = .ref x5 → lv_has ls 3 [(0, .ref p0), (1, .int z165673), (2, .int z165674)] → W p l e { frames := 7, cells := 0, slots := 0, locals := 150 } s m args below meth c H locs 0 0 Q (F0 m 31 ls []) := by
    intro z165673 z165674 F H locs ls rz165673 rz165674 hT hfr hrel pf0 pf1 pf2 pf3 pf4 pf5 hl
    refine lv_aload_n hx hb dX3_readOlder_31 rfl (lv_at hl 0 rfl) ?_
    refine lv_iconst (v := 3) hx hb dX3_readOlder_32 (by decide) ?_
    refine lv_aload_n hx hb dX3_readOlder_33 rfl (lv_at hl 0 rfl) ?_
    refine t_get (C := RX3) (T := TX3) (N := 13) X hT m0 g0 rfl rfl 0 (by decide) qw_73 inlX3 rfl dX3_readOlder_34 (fun v165675 hv165675 ov165675 => ?_)
    obtain rfl : v165675 = .ref x0 := hv165675.symm.trans pf0
    refine t_get (C := RX8) (T := TX8) (N := 8) X hT mx0 gx0 rfl rfl 5 (by decide) qw_339 inlX8 rfl dX3_readOlder_37 (fun v165676 hv165676 ov165676 => ?_)
    obtain ⟨z165677, rfl, rz165677⟩ := okV_i ov165676
    refine t_cVv (n := 2) (C := RX3) (T := TX3) (N := 13) (As := [.int 3, .int z165677]) (rest := []) X hT (kt432_X3_fail l G tag L F hT.2.2.2 p0 3 z165677 m0 g0 (by decide)) m0 g0 rfl rfl qw_287 qw_288 qw_289 qw_28 qw_290 ⟨rfl, by decide +kernel, by decide +kernel, by decide +kernel⟩ ⟨Nat.le_of_ble_eq_true rfl, Nat.le_of_ble_eq_true rfl⟩ hl rfl rfl (Nat.le_of_ble_eq_true rfl) dX3_readOlder_40 ⟨Nat.le_of_ble_eq_true rfl, Nat.le_of_ble_eq_true rfl⟩ (fun F H locs hT hz165678 => ?_)
    obtain ⟨yz165678, xz165678_0⟩ := hz165678
    have pf0 := (yz165678.1 _ 0 (Or.inr (by decide)) (Or.inr (by decide))).trans pf0
    have pf1 := (yz165678.1 _ 1 (Or.inr (by decide)) (Or.inr (by decide))).trans pf1
    have pf2 := (yz165678.1 _ 2 (Or.inr (by decide)) (Or.inr (by decide))).trans pf2
    have pf3 := (yz165678.1 _ 0 (Or.inr (by decide)) (Or.inr (by decide))).trans pf3
    have pf4 := (yz165678.1 _ 10 (Or.inr (by decide)) (Or.inr (by decide))).trans pf4
    have pf5 := (yz165678.1 _ 11 (Or.inr (by decide)) (Or.inr (by decide))).trans pf5
    have hv165676 := (yz165678.1 _ 5 (Or.inr (by decide)) (Or.inr (by decide))).trans hv165676
    have hfr : (∀ b j : Nat, (tag b ≠ 24 ∨ j ≠ 2) → (tag b ≠ 24 ∨ j ≠ 3) → (tag b ≠ 24 ∨ j ≠ 4) → (tag b ≠ 24 ∨ j ≠ 5) → (tag b ≠ 24 ∨ j ≠ 6) → (tag b ≠ 24 ∨ j ≠ 7) → (tag b ≠ 25 ∨ j ≠ 3) → (tag b ≠ 25 ∨ j ≠ 4) → (tag b ≠ 25 ∨ j ≠ 8) → fld F b j = fld Fo b j) ∧ EF tag F Fo := ⟨fun b j n24_2 n24_3 n24_4 n24_5 n24_6 n24_7 n25_3 n25_4 n25_8 => (yz165678.1 b j n25_3 n25_4).trans (hfr.1 b j n24_2 n24_3 n24_4 n24_5 n24_6 n24_7 n25_3 n25_4 n25_8), fun b j hb => (yz165678.2 b j hb).trans (hfr.2 b j hb)⟩
    have hrel := nsr_of (fun j => yz165678.2 _ j (Or.inl gx4)) (fun j => yz165678.2 _ j (Or.inr gx5)) hrel
    obtain ⟨z165679, qz165679, rz165679⟩ := xz165678_0
    exact K43 z165673 z165674 _ _ _ _ (by omega) (by omega) hT hfr hrel pf0 pf1 pf2 pf3 pf4 pf5 (lv_sub hl [0, 1, 2] rfl)
  refine lv_aload_n hx hb dX3_readOlder_0 rfl (lv_at hl 0 rfl) ?_
  refine lv_bipush (v := 7) hx hb dX3_readOlder_1 (by decide) ?_
  refine t_cVi (n := 1) (C := RX3) (T := TX3) (N := 13) (As := [.int 7]) (rest := []) X hT (kt475_X3_name l G tag L F hT.2.2.2 p0 7 x0 x1 x2 x3 x4 x5 m0 g0 (by decide) mx0 gx0 pf0 mx1 gx1 pf1 mx2 gx2 pf2 mx3 gx3 pf3 mx4 gx4 pf4 mx5 gx5 pf5 hrel) m0 g0 rfl rfl qw_393 qw_394 qw_395 qw_28 qw_396 ⟨rfl, by decide +kernel, by decide +kernel, by decide +kernel⟩ ⟨Nat.le_of_ble_eq_true rfl, Nat.le_of_ble_eq_true rfl⟩ hl rfl rfl (Nat.le_of_ble_eq_true rfl) dX3_readOlder_3 ⟨Nat.le_of_ble_eq_true rfl, Nat.le_of_ble_eq_true rfl⟩ (fun z165680 F H locs hT hz165680 => ?_)
  obtain ⟨hz165680, yz165680, hrel⟩ := hz165680
  have pf0 := (yz165680.1 _ 0 (Or.inr (by decide)) (Or.inr (by decide)) (Or.inr (by decide)) (Or.inr (by decide)) (Or.inr (by decide)) (Or.inr (by decide)) (Or.inr (by decide)) (Or.inr (by decide))).trans pf0
  have pf1 := (yz165680.1 _ 1 (Or.inr (by decide)) (Or.inr (by decide)) (Or.inr (by decide)) (Or.inr (by decide)) (Or.inr (by decide)) (Or.inr (by decide)) (Or.inr (by decide)) (Or.inr (by decide))).trans pf1
  have pf2 := (yz165680.1 _ 2 (Or.inl (by rw [g0]; decide)) (Or.inr (by decide)) (Or.inr (by decide)) (Or.inr (by decide)) (Or.inr (by decide)) (Or.inr (by decide)) (Or.inr (by decide)) (Or.inr (by decide))).trans pf2
  have pf3 := (yz165680.1 _ 0 (Or.inr (by decide)) (Or.inr (by decide)) (Or.inr (by decide)) (Or.inr (by decide)) (Or.inr (by decide)) (Or.inr (by decide)) (Or.inr (by decide)) (Or.inr (by decide))).trans pf3
  have pf4 := (yz165680.1 _ 10 (Or.inr (by decide)) (Or.inr (by decide)) (Or.inr (by decide)) (Or.inr (by decide)) (Or.inr (by decide)) (Or.inr (by decide)) (Or.inr (by decide)) (Or.inr (by decide))).trans pf4
  have pf5 := (yz165680.1 _ 11 (Or.inr (by decide)) (Or.inr (by decide)) (Or.inr (by decide)) (Or.inr (by decide)) (Or.inr (by decide)) (Or.inr (by decide)) (Or.inr (by decide)) (Or.inr (by decide))).trans pf5
  have hfr : (∀ b j : Nat, (tag b ≠ 24 ∨ j ≠ 2) → (tag b ≠ 24 ∨ j ≠ 3) → (tag b ≠ 24 ∨ j ≠ 4) → (tag b ≠ 24 ∨ j ≠ 5) → (tag b ≠ 24 ∨ j ≠ 6) → (tag b ≠ 24 ∨ j ≠ 7) → (tag b ≠ 25 ∨ j ≠ 3) → (tag b ≠ 25 ∨ j ≠ 4) → (tag b ≠ 25 ∨ j ≠ 8) → fld F b j = fld Fo b j) ∧ EF tag F Fo := ⟨fun b j n24_2 n24_3 n24_4 n24_5 n24_6 n24_7 n25_3 n25_4 n25_8 => (yz165680.1 b j n24_2 n24_3 n24_4 n24_5 n24_6 n24_7 n25_3 n25_4).trans (hfr.1 b j n24_2 n24_3 n24_4 n24_5 n24_6 n24_7 n25_3 n25_4 n25_8), fun b j hb => (yz165680.2 b j hb).trans (hfr.2 b j hb)⟩
  refine lv_istore_n (lv' := [(1, .int z165680), (0, .ref p0)]) hx hb dX3_readOlder_6 rfl hl (by decide) rfl (fun ls hl => ?_)
  refine lv_aload_n hx hb dX3_readOlder_7 rfl (lv_at hl 1 rfl) ?_
  refine lv_bipush (v := 7) hx hb dX3_readOlder_8 (by decide) ?_
  refine t_cVi (n := 1) (C := RX3) (T := TX3) (N := 13) (As := [.int 7]) (rest := []) X hT (kt475_X3_name l G tag L F hT.2.2.2 p0 7 x0 x1 x2 x3 x4 x5 m0 g0 (by decide) mx0 gx0 pf0 mx1 gx1 pf1 mx2 gx2 pf2 mx3 gx3 pf3 mx4 gx4 pf4 mx5 gx5 pf5 hrel) m0 g0 rfl rfl qw_393 qw_394 qw_395 qw_28 qw_396 ⟨rfl, by decide +kernel, by decide +kernel, by decide +kernel⟩ ⟨Nat.le_of_ble_eq_true rfl, Nat.le_of_ble_eq_true rfl⟩ hl rfl rfl (Nat.le_of_ble_eq_true rfl) dX3_readOlder_10 ⟨Nat.le_of_ble_eq_true rfl, Nat.le_of_ble_eq_true rfl⟩ (fun z165681 F H locs hT hz165681 => ?_)
  obtain ⟨hz165681, yz165681, hrel⟩ := hz165681
  have pf0 := (yz165681.1 _ 0 (Or.inr (by decide)) (Or.inr (by decide)) (Or.inr (by decide)) (Or.inr (by decide)) (Or.inr (by decide)) (Or.inr (by decide)) (Or.inr (by decide)) (Or.inr (by decide))).trans pf0
  have pf1 := (yz165681.1 _ 1 (Or.inr (by decide)) (Or.inr (by decide)) (Or.inr (by decide)) (Or.inr (by decide)) (Or.inr (by decide)) (Or.inr (by decide)) (Or.inr (by decide)) (Or.inr (by decide))).trans pf1
  have pf2 := (yz165681.1 _ 2 (Or.inl (by rw [g0]; decide)) (Or.inr (by decide)) (Or.inr (by decide)) (Or.inr (by decide)) (Or.inr (by decide)) (Or.inr (by decide)) (Or.inr (by decide)) (Or.inr (by decide))).trans pf2
  have pf3 := (yz165681.1 _ 0 (Or.inr (by decide)) (Or.inr (by decide)) (Or.inr (by decide)) (Or.inr (by decide)) (Or.inr (by decide)) (Or.inr (by decide)) (Or.inr (by decide)) (Or.inr (by decide))).trans pf3
  have pf4 := (yz165681.1 _ 10 (Or.inr (by decide)) (Or.inr (by decide)) (Or.inr (by decide)) (Or.inr (by decide)) (Or.inr (by decide)) (Or.inr (by decide)) (Or.inr (by decide)) (Or.inr (by decide))).trans pf4
  have pf5 := (yz165681.1 _ 11 (Or.inr (by decide)) (Or.inr (by decide)) (Or.inr (by decide)) (Or.inr (by decide)) (Or.inr (by decide)) (Or.inr (by decide)) (Or.inr (by decide)) (Or.inr (by decide))).trans pf5
  have hfr : (∀ b j : Nat, (tag b ≠ 24 ∨ j ≠ 2) → (tag b ≠ 24 ∨ j ≠ 3) → (tag b ≠ 24 ∨ j ≠ 4) → (tag b ≠ 24 ∨ j ≠ 5) → (tag b ≠ 24 ∨ j ≠ 6) → (tag b ≠ 24 ∨ j ≠ 7) → (tag b ≠ 25 ∨ j ≠ 3) → (tag b ≠ 25 ∨ j ≠ 4) → (tag b ≠ 25 ∨ j ≠ 8) → fld F b j = fld Fo b j) ∧ EF tag F Fo := ⟨fun b j n24_2 n24_3 n24_4 n24_5 n24_6 n24_7 n25_3 n25_4 n25_8 => (yz165681.1 b j n24_2 n24_3 n24_4 n24_5 n24_6 n24_7 n25_3 n25_4).trans (hfr.1 b j n24_2 n24_3 n24_4 n24_5 n24_6 n24_7 n25_3 n25_4 n25_8), fun b j hb => (yz165681.2 b j hb).trans (hfr.2 b j hb)⟩
  refine lv_istore_n (lv' := [(2, .int z165681), (1, .int z165680), (0, .ref p0)]) hx hb dX3_readOlder_13 rfl hl (by decide) rfl (fun ls hl => ?_)
  refine lv_iload_n hx hb dX3_readOlder_14 rfl (lv_at hl 1 rfl) ?_
  refine lv_iload_n hx hb dX3_readOlder_15 rfl (lv_at hl 0 rfl) ?_
  refine lv_icmp_eq (tgt := 31) hx hb dX3_readOlder_16 (by decide) (fun c165682 => ?_) (fun c165682 => ?_)
  · have w165683 := cv_eq (rfl : z165680.toInt = z165680.toInt) (rfl : z165681.toInt = z165681.toInt) c165682
    exact K31 z165680 z165681 _ _ _ _ (by omega) (by omega) hT hfr hrel pf0 pf1 pf2 pf3 pf4 pf5 (lv_sub hl [2, 1, 0] rfl)
  · have w165684 := cv_ne (rfl : z165680.toInt = z165680.toInt) (rfl : z165681.toInt = z165681.toInt) c165682
    refine lv_aload_n hx hb dX3_readOlder_19 rfl (lv_at hl 2 rfl) ?_
    refine t_get (C := RX3) (T := TX3) (N := 13) X hT m0 g0 rfl rfl 1 (by decide) qw_161 inlX3 rfl dX3_readOlder_20 (fun v165685 hv165685 ov165685 => ?_)
    obtain rfl : v165685 = .ref x1 := hv165685.symm.trans pf1
    refine lv_iload_n hx hb dX3_readOlder_23 rfl (lv_at hl 1 rfl) ?_
    refine lv_iload_n hx hb dX3_readOlder_24 rfl (lv_at hl 0 rfl) ?_
    refine t_cVi (n := 2) (C := RX1) (T := TX1) (N := 20) (As := [.int z165680, .int z165681]) (rest := []) X hT (kt307_X1_isTold l G tag L F hT.2.2.2 x1 z165680 z165681 mx1 gx1 (by omega) (by omega)) mx1 gx1 rfl rfl qw_441 qw_442 qw_443 qw_17 qw_444 ⟨rfl, by decide +kernel, by decide +kernel, by decide +kernel⟩ ⟨Nat.le_of_ble_eq_true rfl, Nat.le_of_ble_eq_true rfl⟩ hl rfl rfl (Nat.le_of_ble_eq_true rfl) dX3_readOlder_25 ⟨Nat.le_of_ble_eq_true rfl, Nat.le_of_ble_eq_true rfl⟩ (fun z165686 F9 H locs hT hz165686 => ?_)
    obtain ⟨fz165686, hz165686⟩ := hz165686
    rw [fz165686] at hT
    refine lv_if_eq (tgt := 43) hx hb dX3_readOlder_28 (by decide) (fun c165687 => ?_) (fun c165687 => ?_)
    · have w165688 := cv_eq (rfl : z165686.toInt = z165686.toInt) (by decide : (0 : Int32).toInt = 0) c165687
      exact K43 z165680 z165681 _ _ _ _ (by omega) (by omega) hT hfr hrel pf0 pf1 pf2 pf3 pf4 pf5 (lv_sub hl [2, 1, 0] rfl)
    · have w165689 := cv_ne (rfl : z165686.toInt = z165686.toInt) (by decide : (0 : Int32).toInt = 0) c165687
      exact K31 z165680 z165681 _ _ _ _ (by omega) (by omega) hT hfr hrel pf0 pf1 pf2 pf3 pf4 pf5 (lv_sub hl [2, 1, 0] rfl)
set_option maxHeartbeats 4000000 in
set_option maxRecDepth 100000 in
theorem kt477_X3_readYearOfWall (l : Launch) (G : KG) (tag : Nat → Nat) (L : List Nat) (Fo : Nat → va_E) (ho : okT G ttC tag L Fo) (p0 : Nat) (p1 : Nat) (x0 : Nat) (x1 : Nat) (x2 : Nat) (x3 : Nat) (x4 : Nat) (x5 : Nat) (m0 : p0 ∈ L) (g0 : tag p0 = 25) (m1 : p1 ∈ L) (g1 : tag p1 = 7) (mx0 : x0 ∈ L) (gx0 : tag x0 = 24) (pf0 : fld Fo p0 0 = .ref x0) (mx1 : x1 ∈ L) (gx1 : tag x1 = 18) (pf1 : fld Fo p0 1 = .ref x1) (mx2 : x2 ∈ L) (gx2 : tag x2 = 19) (pf2 : fld Fo p0 2 = .ref x2) (mx3 : x3 ∈ L) (gx3 : tag x3 = 1) (pf3 : fld Fo x0 0 = .ref x3) (mx4 : x4 ∈ L) (gx4 : tag x4 = 14) (pf4 : fld Fo p0 10 = .ref x4) (mx5 : x5 ∈ L) (gx5 : tag x5 = 15) (pf5 : fld Fo p0 11 = .ref x5) (hrel : NSR Fo x4 x5) : TMv l yX3_readYearOfWall cX3_readYearOfWall 3 { frames := 7, cells := 0, slots := 0, locals := 150 } G ttC tag L Fo [.ref p0, .ref p1] (fun F1 => ((∀ b j : Nat, (tag b ≠ 24 ∨ j ≠ 2) → (tag b ≠ 24 ∨ j ≠ 3) → (tag b ≠ 24 ∨ j ≠ 4) → (tag b ≠ 24 ∨ j ≠ 5) → (tag b ≠ 24 ∨ j ≠ 6) → (tag b ≠ 24 ∨ j ≠ 7) → (tag b ≠ 25 ∨ j ≠ 3) → (tag b ≠ 25 ∨ j ≠ 4) → fld F1 b j = fld Fo b j) ∧ EF tag F1 Fo) ∧ (NSR F1 x4 x5)) := by
  refine t_bodyv (y := yX3_readYearOfWall) (cd := cX3_readYearOfWall) (mL := 3) (rm := { frames := 7, cells := 0, slots := 0, locals := 150 }) (av := [.ref p0, .ref p1]) (by decide) (Nat.le_of_ble_eq_true rfl) ho ?_
  intro p e s m args below meth c ls A Q hQ X hT hl
  have hx := X.1.1
  have hb := X.1.2.1
  have hl : lv_has ls 3 [(0, .ref p0), (1, .ref p1)] := hl
  obtain ⟨F, hFo⟩ : ∃ F : Nat → va_E, F = Fo := ⟨_, rfl⟩
  rw [← hFo] at hT pf0 pf1 pf2 pf3 pf4 pf5 hrel
  have hfr : (∀ b j : Nat, (tag b ≠ 24 ∨ j ≠ 2) → (tag b ≠ 24 ∨ j ≠ 3) → (tag b ≠ 24 ∨ j ≠ 4) → (tag b ≠ 24 ∨ j ≠ 5) → (tag b ≠ 24 ∨ j ≠ 6) → (tag b ≠ 24 ∨ j ≠ 7) → (tag b ≠ 25 ∨ j ≠ 3) → (tag b ≠ 25 ∨ j ≠ 4) → fld F b j = fld Fo b j) ∧ EF tag F Fo := by
    rw [hFo]
    exact ⟨by intros; rfl, fun _ _ _ => rfl⟩
  have K26 : ∀ (z165917 : Int32) (F : Nat → va_E) (H : Heap) (locs : List Loc) (ls : Array Slot), (0 ≤ z165917.toInt ∧ z165917.toInt ≤ 5) → TH G ttC A s tag L F H locs → ((∀ b j : Nat, (tag b ≠ 24 ∨ j ≠ 2) → (tag b ≠ 24 ∨ j ≠ 3) → (tag b ≠ 24 ∨ j ≠ 4) → (tag b ≠ 24 ∨ j ≠ 5) → (tag b ≠ 24 ∨ j ≠ 6) → (tag b ≠ 24 ∨ j ≠ 7) → (tag b ≠ 25 ∨ j ≠ 3) → (tag b ≠ 25 ∨ j ≠ 4) → fld F b j = fld Fo b j) ∧ EF tag F Fo) → NSR F x4 x5 → fld F p0 0 = .ref x0 → fld F p0 1 = .ref x1 → fld F p0 2 = .ref x2 → fld F x0 0 = .ref x3 → fld F p0 10 = .ref x4 → fld F p0 11 = .ref x5 → lv_has ls 3 [(0, .ref p0), (1, .ref p1), (2, .int z165917)] → W p l e { frames := 7, cells := 0, slots := 0, locals := 150 } s m args below meth c H locs 0 0 Q (F0 m 26 ls []) := by
    intro z165917 F H locs ls rz165917 hT hfr hrel pf0 pf1 pf2 pf3 pf4 pf5 hl
    refine lv_aload_n hx hb dX3_readYearOfWall_26 rfl (lv_at hl 1 rfl) ?_
    refine lv_iload_n hx hb dX3_readYearOfWall_27 rfl (lv_at hl 2 rfl) ?_
    refine lv_aload_n hx hb dX3_readYearOfWall_28 rfl (lv_at hl 0 rfl) ?_
    refine lv_iconst (v := 0) hx hb dX3_readYearOfWall_29 (by decide) ?_
    refine lv_sipush (v := 999) hx hb dX3_readYearOfWall_30 (by decide) ?_
    refine t_cVi (n := 2) (C := RX3) (T := TX3) (N := 13) (As := [.int 0, .int 999]) (rest := [.int z165917, .ref p1]) X hT (kt455_X3_whole l G tag L F hT.2.2.2 p0 0 999 x0 x1 x2 x3 x4 x5 m0 g0 (by decide) (by decide) mx0 gx0 pf0 mx1 gx1 pf1 mx2 gx2 pf2 mx3 gx3 pf3 mx4 gx4 pf4 mx5 gx5 pf5) m0 g0 rfl rfl qw_318 qw_319 qw_320 qw_28 qw_321 ⟨rfl, by decide +kernel, by decide +kernel, by decide +kernel⟩ ⟨Nat.le_of_ble_eq_true rfl, Nat.le_of_ble_eq_true rfl⟩ hl rfl rfl (Nat.le_of_ble_eq_true rfl) dX3_readYearOfWall_33 ⟨Nat.le_of_ble_eq_true rfl, Nat.le_of_ble_eq_true rfl⟩ (fun z165918 F H locs hT hz165918 => ?_)
    obtain ⟨hz165918, yz165918⟩ := hz165918
    have pf0 := (yz165918.1 _ 0 (Or.inr (by decide)) (Or.inr (by decide)) (Or.inr (by decide)) (Or.inr (by decide)) (Or.inr (by decide)) (Or.inr (by decide)) (Or.inr (by decide)) (Or.inr (by decide))).trans pf0
    have pf1 := (yz165918.1 _ 1 (Or.inr (by decide)) (Or.inr (by decide)) (Or.inr (by decide)) (Or.inr (by decide)) (Or.inr (by decide)) (Or.inr (by decide)) (Or.inr (by decide)) (Or.inr (by decide))).trans pf1
    have pf2 := (yz165918.1 _ 2 (Or.inl (by rw [g0]; decide)) (Or.inr (by decide)) (Or.inr (by decide)) (Or.inr (by decide)) (Or.inr (by decide)) (Or.inr (by decide)) (Or.inr (by decide)) (Or.inr (by decide))).trans pf2
    have pf3 := (yz165918.1 _ 0 (Or.inr (by decide)) (Or.inr (by decide)) (Or.inr (by decide)) (Or.inr (by decide)) (Or.inr (by decide)) (Or.inr (by decide)) (Or.inr (by decide)) (Or.inr (by decide))).trans pf3
    have pf4 := (yz165918.1 _ 10 (Or.inr (by decide)) (Or.inr (by decide)) (Or.inr (by decide)) (Or.inr (by decide)) (Or.inr (by decide)) (Or.inr (by decide)) (Or.inr (by decide)) (Or.inr (by decide))).trans pf4
    have pf5 := (yz165918.1 _ 11 (Or.inr (by decide)) (Or.inr (by decide)) (Or.inr (by decide)) (Or.inr (by decide)) (Or.inr (by decide)) (Or.inr (by decide)) (Or.inr (by decide)) (Or.inr (by decide))).trans pf5
    have hfr : (∀ b j : Nat, (tag b ≠ 24 ∨ j ≠ 2) → (tag b ≠ 24 ∨ j ≠ 3) → (tag b ≠ 24 ∨ j ≠ 4) → (tag b ≠ 24 ∨ j ≠ 5) → (tag b ≠ 24 ∨ j ≠ 6) → (tag b ≠ 24 ∨ j ≠ 7) → (tag b ≠ 25 ∨ j ≠ 3) → (tag b ≠ 25 ∨ j ≠ 4) → fld F b j = fld Fo b j) ∧ EF tag F Fo := ⟨fun b j n24_2 n24_3 n24_4 n24_5 n24_6 n24_7 n25_3 n25_4 => (yz165918.1 b j n24_2 n24_3 n24_4 n24_5 n24_6 n24_7 n25_3 n25_4).trans (hfr.1 b j n24_2 n24_3 n24_4 n24_5 n24_6 n24_7 n25_3 n25_4), fun b j hb => (yz165918.2 b j hb).trans (hfr.2 b j hb)⟩
    have hrel := nsr_of (fun j => yz165918.2 _ j (Or.inl gx4)) (fun j => yz165918.2 _ j (Or.inr gx5)) hrel
    refine t_ist X hT m1 g1 rfl (by omega) (show (-2147483648) ≤ (z165918 : Int32).toInt ∧ (z165918 : Int32).toInt ≤ 2147483647 from (by omega)) dX3_readYearOfWall_36 (fun F H locs hT v165919 h1v165919 h2v165919 => ?_)
    have pf0 := (h2v165919 _ _).trans pf0
    have pf1 := (h2v165919 _ _).trans pf1
    have pf2 := (h2v165919 _ _).trans pf2
    have pf3 := (h2v165919 _ _).trans pf3
    have pf4 := (h2v165919 _ _).trans pf4
    have pf5 := (h2v165919 _ _).trans pf5
    have hfr : (∀ b j : Nat, (tag b ≠ 24 ∨ j ≠ 2) → (tag b ≠ 24 ∨ j ≠ 3) → (tag b ≠ 24 ∨ j ≠ 4) → (tag b ≠ 24 ∨ j ≠ 5) → (tag b ≠ 24 ∨ j ≠ 6) → (tag b ≠ 24 ∨ j ≠ 7) → (tag b ≠ 25 ∨ j ≠ 3) → (tag b ≠ 25 ∨ j ≠ 4) → fld F b j = fld Fo b j) ∧ EF tag F Fo := ⟨fun b j n24_2 n24_3 n24_4 n24_5 n24_6 n24_7 n25_3 n25_4 => (h2v165919 b j).trans (hfr.1 b j n24_2 n24_3 n24_4 n24_5 n24_6 n24_7 n25_3 n25_4), fun b j hb => (h1v165919 b j (Or.inl (ns_ne hb g1 (by decide)))).trans (hfr.2 b j hb)⟩
    have hrel := nsr_of (fun j => h1v165919 _ j (Or.inl (tne gx4 g1 (by decide)))) (fun j => h1v165919 _ j (Or.inl (tne gx5 g1 (by decide)))) hrel
    exact t_vret hQ X hT ⟨hfr, hrel⟩ (Nat.le_of_ble_eq_true rfl) (Nat.le_of_ble_eq_true rfl) dX3_readYearOfWall_37
  refine lv_aload_n hx hb dX3_readYearOfWall_0 rfl (lv_at hl 0 rfl) ?_
  refine lv_bipush (v := 7) hx hb dX3_readYearOfWall_1 (by decide) ?_
  refine t_cVi (n := 1) (C := RX3) (T := TX3) (N := 13) (As := [.int 7]) (rest := []) X hT (kt475_X3_name l G tag L F hT.2.2.2 p0 7 x0 x1 x2 x3 x4 x5 m0 g0 (by decide) mx0 gx0 pf0 mx1 gx1 pf1 mx2 gx2 pf2 mx3 gx3 pf3 mx4 gx4 pf4 mx5 gx5 pf5 hrel) m0 g0 rfl rfl qw_393 qw_394 qw_395 qw_28 qw_396 ⟨rfl, by decide +kernel, by decide +kernel, by decide +kernel⟩ ⟨Nat.le_of_ble_eq_true rfl, Nat.le_of_ble_eq_true rfl⟩ hl rfl rfl (Nat.le_of_ble_eq_true rfl) dX3_readYearOfWall_3 ⟨Nat.le_of_ble_eq_true rfl, Nat.le_of_ble_eq_true rfl⟩ (fun z165920 F H locs hT hz165920 => ?_)
  obtain ⟨hz165920, yz165920, hrel⟩ := hz165920
  have pf0 := (yz165920.1 _ 0 (Or.inr (by decide)) (Or.inr (by decide)) (Or.inr (by decide)) (Or.inr (by decide)) (Or.inr (by decide)) (Or.inr (by decide)) (Or.inr (by decide)) (Or.inr (by decide))).trans pf0
  have pf1 := (yz165920.1 _ 1 (Or.inr (by decide)) (Or.inr (by decide)) (Or.inr (by decide)) (Or.inr (by decide)) (Or.inr (by decide)) (Or.inr (by decide)) (Or.inr (by decide)) (Or.inr (by decide))).trans pf1
  have pf2 := (yz165920.1 _ 2 (Or.inl (by rw [g0]; decide)) (Or.inr (by decide)) (Or.inr (by decide)) (Or.inr (by decide)) (Or.inr (by decide)) (Or.inr (by decide)) (Or.inr (by decide)) (Or.inr (by decide))).trans pf2
  have pf3 := (yz165920.1 _ 0 (Or.inr (by decide)) (Or.inr (by decide)) (Or.inr (by decide)) (Or.inr (by decide)) (Or.inr (by decide)) (Or.inr (by decide)) (Or.inr (by decide)) (Or.inr (by decide))).trans pf3
  have pf4 := (yz165920.1 _ 10 (Or.inr (by decide)) (Or.inr (by decide)) (Or.inr (by decide)) (Or.inr (by decide)) (Or.inr (by decide)) (Or.inr (by decide)) (Or.inr (by decide)) (Or.inr (by decide))).trans pf4
  have pf5 := (yz165920.1 _ 11 (Or.inr (by decide)) (Or.inr (by decide)) (Or.inr (by decide)) (Or.inr (by decide)) (Or.inr (by decide)) (Or.inr (by decide)) (Or.inr (by decide)) (Or.inr (by decide))).trans pf5
  have hfr : (∀ b j : Nat, (tag b ≠ 24 ∨ j ≠ 2) → (tag b ≠ 24 ∨ j ≠ 3) → (tag b ≠ 24 ∨ j ≠ 4) → (tag b ≠ 24 ∨ j ≠ 5) → (tag b ≠ 24 ∨ j ≠ 6) → (tag b ≠ 24 ∨ j ≠ 7) → (tag b ≠ 25 ∨ j ≠ 3) → (tag b ≠ 25 ∨ j ≠ 4) → fld F b j = fld Fo b j) ∧ EF tag F Fo := ⟨fun b j n24_2 n24_3 n24_4 n24_5 n24_6 n24_7 n25_3 n25_4 => (yz165920.1 b j n24_2 n24_3 n24_4 n24_5 n24_6 n24_7 n25_3 n25_4).trans (hfr.1 b j n24_2 n24_3 n24_4 n24_5 n24_6 n24_7 n25_3 n25_4), fun b j hb => (yz165920.2 b j hb).trans (hfr.2 b j hb)⟩
  refine lv_istore_n (lv' := [(2, .int z165920), (0, .ref p0), (1, .ref p1)]) hx hb dX3_readYearOfWall_6 rfl hl (by decide) rfl (fun ls hl => ?_)
  refine lv_aload_n hx hb dX3_readYearOfWall_7 rfl (lv_at hl 2 rfl) ?_
  refine lv_iload_n hx hb dX3_readYearOfWall_8 rfl (lv_at hl 0 rfl) ?_
  refine t_ild X hT m1 g1 rfl (by omega) dX3_readYearOfWall_9 (fun z165921 vz165921 rz165921 => ?_)
  have rz165921 : (-2147483648) ≤ z165921.toInt ∧ z165921.toInt ≤ 2147483647 := rz165921
  refine lv_iconst (v := (-1)) hx hb dX3_readYearOfWall_10 (by decide) ?_
  refine lv_icmp_eq (tgt := 26) hx hb dX3_readYearOfWall_11 (by decide) (fun c165922 => ?_) (fun c165922 => ?_)
  · have w165923 := cv_eq (rfl : z165921.toInt = z165921.toInt) (by decide : ((-1) : Int32).toInt = (-1)) c165922
    exact K26 z165920 _ _ _ _ (by omega) hT hfr hrel pf0 pf1 pf2 pf3 pf4 pf5 (lv_sub hl [1, 2, 0] rfl)
  · have w165924 := cv_ne (rfl : z165921.toInt = z165921.toInt) (by decide : ((-1) : Int32).toInt = (-1)) c165922
    refine lv_aload_n hx hb dX3_readYearOfWall_14 rfl (lv_at hl 1 rfl) ?_
    refine lv_iconst (v := 3) hx hb dX3_readYearOfWall_15 (by decide) ?_
    refine lv_aload_n hx hb dX3_readYearOfWall_16 rfl (lv_at hl 1 rfl) ?_
    refine t_get (C := RX3) (T := TX3) (N := 13) X hT m0 g0 rfl rfl 0 (by decide) qw_73 inlX3 rfl dX3_readYearOfWall_17 (fun v165925 hv165925 ov165925 => ?_)
    obtain rfl : v165925 = .ref x0 := hv165925.symm.trans pf0
    refine t_get (C := RX8) (T := TX8) (N := 8) X hT mx0 gx0 rfl rfl 5 (by decide) qw_339 inlX8 rfl dX3_readYearOfWall_20 (fun v165926 hv165926 ov165926 => ?_)
    obtain ⟨z165927, rfl, rz165927⟩ := okV_i ov165926
    refine t_cVv (n := 2) (C := RX3) (T := TX3) (N := 13) (As := [.int 3, .int z165927]) (rest := []) X hT (kt432_X3_fail l G tag L F hT.2.2.2 p0 3 z165927 m0 g0 (by decide)) m0 g0 rfl rfl qw_287 qw_288 qw_289 qw_28 qw_290 ⟨rfl, by decide +kernel, by decide +kernel, by decide +kernel⟩ ⟨Nat.le_of_ble_eq_true rfl, Nat.le_of_ble_eq_true rfl⟩ hl rfl rfl (Nat.le_of_ble_eq_true rfl) dX3_readYearOfWall_23 ⟨Nat.le_of_ble_eq_true rfl, Nat.le_of_ble_eq_true rfl⟩ (fun F H locs hT hz165928 => ?_)
    obtain ⟨yz165928, xz165928_0⟩ := hz165928
    have pf0 := (yz165928.1 _ 0 (Or.inr (by decide)) (Or.inr (by decide))).trans pf0
    have pf1 := (yz165928.1 _ 1 (Or.inr (by decide)) (Or.inr (by decide))).trans pf1
    have pf2 := (yz165928.1 _ 2 (Or.inr (by decide)) (Or.inr (by decide))).trans pf2
    have pf3 := (yz165928.1 _ 0 (Or.inr (by decide)) (Or.inr (by decide))).trans pf3
    have pf4 := (yz165928.1 _ 10 (Or.inr (by decide)) (Or.inr (by decide))).trans pf4
    have pf5 := (yz165928.1 _ 11 (Or.inr (by decide)) (Or.inr (by decide))).trans pf5
    have hv165926 := (yz165928.1 _ 5 (Or.inr (by decide)) (Or.inr (by decide))).trans hv165926
    have hfr : (∀ b j : Nat, (tag b ≠ 24 ∨ j ≠ 2) → (tag b ≠ 24 ∨ j ≠ 3) → (tag b ≠ 24 ∨ j ≠ 4) → (tag b ≠ 24 ∨ j ≠ 5) → (tag b ≠ 24 ∨ j ≠ 6) → (tag b ≠ 24 ∨ j ≠ 7) → (tag b ≠ 25 ∨ j ≠ 3) → (tag b ≠ 25 ∨ j ≠ 4) → fld F b j = fld Fo b j) ∧ EF tag F Fo := ⟨fun b j n24_2 n24_3 n24_4 n24_5 n24_6 n24_7 n25_3 n25_4 => (yz165928.1 b j n25_3 n25_4).trans (hfr.1 b j n24_2 n24_3 n24_4 n24_5 n24_6 n24_7 n25_3 n25_4), fun b j hb => (yz165928.2 b j hb).trans (hfr.2 b j hb)⟩
    have hrel := nsr_of (fun j => yz165928.2 _ j (Or.inl gx4)) (fun j => yz165928.2 _ j (Or.inr gx5)) hrel
    obtain ⟨z165929, qz165929, rz165929⟩ := xz165928_0
    exact K26 z165920 _ _ _ _ (by omega) hT hfr hrel pf0 pf1 pf2 pf3 pf4 pf5 (lv_sub hl [1, 2, 0] rfl)
set_option maxHeartbeats 4000000 in
set_option maxRecDepth 100000 in
theorem kt478_X3_readLine (l : Launch) (G : KG) (tag : Nat → Nat) (L : List Nat) (Fo : Nat → va_E) (ho : okT G ttC tag L Fo) (p0 : Nat) (x0 : Nat) (x1 : Nat) (x2 : Nat) (x3 : Nat) (x4 : Nat) (x5 : Nat) (m0 : p0 ∈ L) (g0 : tag p0 = 25) (mx0 : x0 ∈ L) (gx0 : tag x0 = 24) (pf0 : fld Fo p0 0 = .ref x0) (mx1 : x1 ∈ L) (gx1 : tag x1 = 18) (pf1 : fld Fo p0 1 = .ref x1) (mx2 : x2 ∈ L) (gx2 : tag x2 = 19) (pf2 : fld Fo p0 2 = .ref x2) (mx3 : x3 ∈ L) (gx3 : tag x3 = 1) (pf3 : fld Fo x0 0 = .ref x3) (mx4 : x4 ∈ L) (gx4 : tag x4 = 14) (pf4 : fld Fo p0 10 = .ref x4) (mx5 : x5 ∈ L) (gx5 : tag x5 = 15) (pf5 : fld Fo p0 11 = .ref x5) (hrel : NSR Fo x4 x5) : TMv l yX3_readLine cX3_readLine 2 { frames := 8, cells := 0, slots := 0, locals := 176 } G ttC tag L Fo [.ref p0] (fun F1 => (∀ b j : Nat, (tag b ≠ 18 ∨ j ≠ 0) → (tag b ≠ 18 ∨ j ≠ 1) → (tag b ≠ 18 ∨ j ≠ 2) → (tag b ≠ 18 ∨ j ≠ 3) → (tag b ≠ 18 ∨ j ≠ 4) → (tag b ≠ 18 ∨ j ≠ 5) → (tag b ≠ 18 ∨ j ≠ 6) → (tag b ≠ 18 ∨ j ≠ 8) → (tag b ≠ 18 ∨ j ≠ 10) → (tag b ≠ 18 ∨ j ≠ 14) → (tag b ≠ 18 ∨ j ≠ 16) → (tag b ≠ 19 ∨ j ≠ 0) → (tag b ≠ 24 ∨ j ≠ 2) → (tag b ≠ 24 ∨ j ≠ 3) → (tag b ≠ 24 ∨ j ≠ 4) → (tag b ≠ 24 ∨ j ≠ 5) → (tag b ≠ 24 ∨ j ≠ 6) → (tag b ≠ 24 ∨ j ≠ 7) → (tag b ≠ 25 ∨ j ≠ 3) → (tag b ≠ 25 ∨ j ≠ 4) → (tag b ≠ 25 ∨ j ≠ 5) → (tag b ≠ 25 ∨ j ≠ 6) → (tag b ≠ 25 ∨ j ≠ 7) → (tag b ≠ 25 ∨ j ≠ 8) → (tag b ≠ 25 ∨ j ≠ 12) → fld F1 b j = fld Fo b j) ∧ (NSR F1 x4 x5)) := by
  refine t_bodyv (y := yX3_readLine) (cd := cX3_readLine) (mL := 2) (rm := { frames := 8, cells := 0, slots := 0, locals := 176 }) (av := [.ref p0]) (by decide) (Nat.le_of_ble_eq_true rfl) ho ?_
  intro p e s m args below meth c ls A Q hQ X hT hl
  have hx := X.1.1
  have hb := X.1.2.1
  have hl : lv_has ls 2 [(0, .ref p0)] := hl
  obtain ⟨F, hFo⟩ : ∃ F : Nat → va_E, F = Fo := ⟨_, rfl⟩
  rw [← hFo] at hT pf0 pf1 pf2 pf3 pf4 pf5 hrel
  have hfr : ∀ b j : Nat, (tag b ≠ 18 ∨ j ≠ 0) → (tag b ≠ 18 ∨ j ≠ 1) → (tag b ≠ 18 ∨ j ≠ 2) → (tag b ≠ 18 ∨ j ≠ 3) → (tag b ≠ 18 ∨ j ≠ 4) → (tag b ≠ 18 ∨ j ≠ 5) → (tag b ≠ 18 ∨ j ≠ 6) → (tag b ≠ 18 ∨ j ≠ 8) → (tag b ≠ 18 ∨ j ≠ 10) → (tag b ≠ 18 ∨ j ≠ 14) → (tag b ≠ 18 ∨ j ≠ 16) → (tag b ≠ 19 ∨ j ≠ 0) → (tag b ≠ 24 ∨ j ≠ 2) → (tag b ≠ 24 ∨ j ≠ 3) → (tag b ≠ 24 ∨ j ≠ 4) → (tag b ≠ 24 ∨ j ≠ 5) → (tag b ≠ 24 ∨ j ≠ 6) → (tag b ≠ 24 ∨ j ≠ 7) → (tag b ≠ 25 ∨ j ≠ 3) → (tag b ≠ 25 ∨ j ≠ 4) → (tag b ≠ 25 ∨ j ≠ 5) → (tag b ≠ 25 ∨ j ≠ 6) → (tag b ≠ 25 ∨ j ≠ 7) → (tag b ≠ 25 ∨ j ≠ 8) → (tag b ≠ 25 ∨ j ≠ 12) → fld F b j = fld Fo b j := by
    rw [hFo]
    intros
    rfl
  refine lv_aload_n hx hb dX3_readLine_0 rfl (lv_at hl 0 rfl) ?_
  refine t_cVi (n := 0) (C := RX3) (T := TX3) (N := 13) (As := []) (rest := []) X hT (kt443_X3_lineSort l G tag L F hT.2.2.2 p0 x0 x1 x2 x3 x4 x5 m0 g0 mx0 gx0 pf0 mx1 gx1 pf1 mx2 gx2 pf2 mx3 gx3 pf3 mx4 gx4 pf4 mx5 gx5 pf5) m0 g0 rfl rfl qw_230 qw_231 qw_232 qw_28 qw_233 ⟨rfl, by decide +kernel, by decide +kernel, by decide +kernel⟩ ⟨Nat.le_of_ble_eq_true rfl, Nat.le_of_ble_eq_true rfl⟩ hl rfl rfl (Nat.le_of_ble_eq_true rfl) dX3_readLine_1 ⟨Nat.le_of_ble_eq_true rfl, Nat.le_of_ble_eq_true rfl⟩ (fun z166947 F9 H locs hT hz166947 => ?_)
  obtain ⟨fz166947, hz166947⟩ := hz166947
  rw [fz166947] at hT
  refine lv_istore_n (lv' := [(1, .int z166947), (0, .ref p0)]) hx hb dX3_readLine_4 rfl hl (by decide) rfl (fun ls hl => ?_)
  refine lv_iload_n hx hb dX3_readLine_5 rfl (lv_at hl 0 rfl) ?_
  refine lv_iconst (v := (-1)) hx hb dX3_readLine_6 (by decide) ?_
  refine lv_icmp_ne (tgt := 25) hx hb dX3_readLine_7 (by decide) (fun c166948 => ?_) (fun c166948 => ?_)
  · have w166949 := cv_ne (rfl : z166947.toInt = z166947.toInt) (by decide : ((-1) : Int32).toInt = (-1)) c166948
    by_cases c166950 : z166947 = 4
    · subst c166950
      refine lv_aload_n hx hb dX3_readLine_25 rfl (lv_at hl 1 rfl) ?_
      refine lv_iload_n hx hb dX3_readLine_26 rfl (lv_at hl 0 rfl) ?_
      refine t_cVv (n := 1) (C := RX3) (T := TX3) (N := 13) (As := [.int 4]) (rest := []) X hT (kt460_X3_checkLine l G tag L F hT.2.2.2 p0 4 x0 x1 x2 x3 x4 x5 m0 g0 (by decide) mx0 gx0 pf0 mx1 gx1 pf1 mx2 gx2 pf2 mx3 gx3 pf3 mx4 gx4 pf4 mx5 gx5 pf5) m0 g0 rfl rfl qw_291 qw_292 qw_293 qw_28 qw_294 ⟨rfl, by decide +kernel, by decide +kernel, by decide +kernel⟩ ⟨Nat.le_of_ble_eq_true rfl, Nat.le_of_ble_eq_true rfl⟩ hl rfl rfl (Nat.le_of_ble_eq_true rfl) dX3_readLine_27 ⟨Nat.le_of_ble_eq_true rfl, Nat.le_of_ble_eq_true rfl⟩ (fun F H locs hT hz166951 => ?_)
      obtain ⟨yz166951, xz166951_0⟩ := hz166951
      have pf0 := (yz166951.1 _ 0 (Or.inr (by decide)) (Or.inr (by decide))).trans pf0
      have pf1 := (yz166951.1 _ 1 (Or.inr (by decide)) (Or.inr (by decide))).trans pf1
      have pf2 := (yz166951.1 _ 2 (Or.inr (by decide)) (Or.inr (by decide))).trans pf2
      have pf3 := (yz166951.1 _ 0 (Or.inr (by decide)) (Or.inr (by decide))).trans pf3
      have pf4 := (yz166951.1 _ 10 (Or.inr (by decide)) (Or.inr (by decide))).trans pf4
      have pf5 := (yz166951.1 _ 11 (Or.inr (by decide)) (Or.inr (by decide))).trans pf5
      have hfr : ∀ b j : Nat, (tag b ≠ 18 ∨ j ≠ 0) → (tag b ≠ 18 ∨ j ≠ 1) → (tag b ≠ 18 ∨ j ≠ 2) → (tag b ≠ 18 ∨ j ≠ 3) → (tag b ≠ 18 ∨ j ≠ 4) → (tag b ≠ 18 ∨ j ≠ 5) → (tag b ≠ 18 ∨ j ≠ 6) → (tag b ≠ 18 ∨ j ≠ 8) → (tag b ≠ 18 ∨ j ≠ 10) → (tag b ≠ 18 ∨ j ≠ 14) → (tag b ≠ 18 ∨ j ≠ 16) → (tag b ≠ 19 ∨ j ≠ 0) → (tag b ≠ 24 ∨ j ≠ 2) → (tag b ≠ 24 ∨ j ≠ 3) → (tag b ≠ 24 ∨ j ≠ 4) → (tag b ≠ 24 ∨ j ≠ 5) → (tag b ≠ 24 ∨ j ≠ 6) → (tag b ≠ 24 ∨ j ≠ 7) → (tag b ≠ 25 ∨ j ≠ 3) → (tag b ≠ 25 ∨ j ≠ 4) → (tag b ≠ 25 ∨ j ≠ 5) → (tag b ≠ 25 ∨ j ≠ 6) → (tag b ≠ 25 ∨ j ≠ 7) → (tag b ≠ 25 ∨ j ≠ 8) → (tag b ≠ 25 ∨ j ≠ 12) → fld F b j = fld Fo b j := fun b j n18_0 n18_1 n18_2 n18_3 n18_4 n18_5 n18_6 n18_8 n18_10 n18_14 n18_16 n19_0 n24_2 n24_3 n24_4 n24_5 n24_6 n24_7 n25_3 n25_4 n25_5 n25_6 n25_7 n25_8 n25_12 => (yz166951.1 b j n25_3 n25_4).trans (hfr b j n18_0 n18_1 n18_2 n18_3 n18_4 n18_5 n18_6 n18_8 n18_10 n18_14 n18_16 n19_0 n24_2 n24_3 n24_4 n24_5 n24_6 n24_7 n25_3 n25_4 n25_5 n25_6 n25_7 n25_8 n25_12)
      have hrel := nsr_of (fun j => yz166951.2 _ j (Or.inl gx4)) (fun j => yz166951.2 _ j (Or.inr gx5)) hrel
      rcases xz166951_0 with xz166951_0 | xz166951_0
      · obtain ⟨z166952, qz166952, rz166952⟩ := xz166951_0
        refine lv_aload_n hx hb dX3_readLine_30 rfl (lv_at hl 1 rfl) ?_
        refine t_get (C := RX3) (T := TX3) (N := 13) X hT m0 g0 rfl rfl 3 (by decide) qw_163 inlX3 rfl dX3_readLine_31 (fun v166953 hv166953 ov166953 => ?_)
        obtain rfl : v166953 = .int z166952 := hv166953.symm.trans qz166952
        refine lv_if_eq (tgt := 38) hx hb dX3_readLine_34 (by decide) (fun c166954 => ?_) (fun c166954 => ?_)
        · have w166955 := cv_eq (rfl : z166952.toInt = z166952.toInt) (by decide : (0 : Int32).toInt = 0) c166954
          exfalso
          omega
        · have w166956 := cv_ne (rfl : z166952.toInt = z166952.toInt) (by decide : (0 : Int32).toInt = 0) c166954
          exact t_vret hQ X hT ⟨hfr, hrel⟩ (Nat.le_of_ble_eq_true rfl) (Nat.le_of_ble_eq_true rfl) dX3_readLine_37
      · obtain ⟨z166957, qz166957, rz166957⟩ := xz166951_0
        refine lv_aload_n hx hb dX3_readLine_30 rfl (lv_at hl 1 rfl) ?_
        refine t_get (C := RX3) (T := TX3) (N := 13) X hT m0 g0 rfl rfl 3 (by decide) qw_163 inlX3 rfl dX3_readLine_31 (fun v166958 hv166958 ov166958 => ?_)
        obtain ⟨z166959, rfl, rz166959⟩ := okV_i ov166958
        refine lv_if_eq (tgt := 38) hx hb dX3_readLine_34 (by decide) (fun c166960 => ?_) (fun c166960 => ?_)
        · have w166961 := cv_eq (rfl : z166959.toInt = z166959.toInt) (by decide : (0 : Int32).toInt = 0) c166960
          refine lv_aload_n hx hb dX3_readLine_38 rfl (lv_at hl 1 rfl) ?_
          refine t_get (C := RX3) (T := TX3) (N := 13) X hT m0 g0 rfl rfl 0 (by decide) qw_73 inlX3 rfl dX3_readLine_39 (fun v166962 hv166962 ov166962 => ?_)
          obtain rfl : v166962 = .ref x0 := hv166962.symm.trans pf0
          refine t_cVv (n := 0) (C := RX8) (T := TX8) (N := 8) (As := []) (rest := []) X hT (kt440_X8_advance l G tag L F hT.2.2.2 x0 x3 mx0 gx0 mx3 gx3 pf3) mx0 gx0 rfl rfl qw_305 qw_197 qw_198 qw_72 qw_199 ⟨rfl, by decide +kernel, by decide +kernel, by decide +kernel⟩ ⟨Nat.le_of_ble_eq_true rfl, Nat.le_of_ble_eq_true rfl⟩ hl rfl rfl (Nat.le_of_ble_eq_true rfl) dX3_readLine_42 ⟨Nat.le_of_ble_eq_true rfl, Nat.le_of_ble_eq_true rfl⟩ (fun F H locs hT hz166963 => ?_)
          have yz166963 := hz166963
          have pf0 := (yz166963.1 _ 0 (Or.inr (by decide)) (Or.inr (by decide)) (Or.inr (by decide)) (Or.inr (by decide)) (Or.inr (by decide)) (Or.inr (by decide))).trans pf0
          have pf1 := (yz166963.1 _ 1 (Or.inr (by decide)) (Or.inr (by decide)) (Or.inr (by decide)) (Or.inr (by decide)) (Or.inr (by decide)) (Or.inr (by decide))).trans pf1
          have pf2 := (yz166963.1 _ 2 (Or.inl (by rw [g0]; decide)) (Or.inr (by decide)) (Or.inr (by decide)) (Or.inr (by decide)) (Or.inr (by decide)) (Or.inr (by decide))).trans pf2
          have pf3 := (yz166963.1 _ 0 (Or.inr (by decide)) (Or.inr (by decide)) (Or.inr (by decide)) (Or.inr (by decide)) (Or.inr (by decide)) (Or.inr (by decide))).trans pf3
          have pf4 := (yz166963.1 _ 10 (Or.inr (by decide)) (Or.inr (by decide)) (Or.inr (by decide)) (Or.inr (by decide)) (Or.inr (by decide)) (Or.inr (by decide))).trans pf4
          have pf5 := (yz166963.1 _ 11 (Or.inr (by decide)) (Or.inr (by decide)) (Or.inr (by decide)) (Or.inr (by decide)) (Or.inr (by decide)) (Or.inr (by decide))).trans pf5
          have qz166957 := (yz166963.1 _ 10 (Or.inr (by decide)) (Or.inr (by decide)) (Or.inr (by decide)) (Or.inr (by decide)) (Or.inr (by decide)) (Or.inr (by decide))).trans qz166957
          have hv166958 := (yz166963.1 _ 3 (Or.inr (by decide)) (Or.inl (by rw [g0]; decide)) (Or.inr (by decide)) (Or.inr (by decide)) (Or.inr (by decide)) (Or.inr (by decide))).trans hv166958
          have hfr : ∀ b j : Nat, (tag b ≠ 18 ∨ j ≠ 0) → (tag b ≠ 18 ∨ j ≠ 1) → (tag b ≠ 18 ∨ j ≠ 2) → (tag b ≠ 18 ∨ j ≠ 3) → (tag b ≠ 18 ∨ j ≠ 4) → (tag b ≠ 18 ∨ j ≠ 5) → (tag b ≠ 18 ∨ j ≠ 6) → (tag b ≠ 18 ∨ j ≠ 8) → (tag b ≠ 18 ∨ j ≠ 10) → (tag b ≠ 18 ∨ j ≠ 14) → (tag b ≠ 18 ∨ j ≠ 16) → (tag b ≠ 19 ∨ j ≠ 0) → (tag b ≠ 24 ∨ j ≠ 2) → (tag b ≠ 24 ∨ j ≠ 3) → (tag b ≠ 24 ∨ j ≠ 4) → (tag b ≠ 24 ∨ j ≠ 5) → (tag b ≠ 24 ∨ j ≠ 6) → (tag b ≠ 24 ∨ j ≠ 7) → (tag b ≠ 25 ∨ j ≠ 3) → (tag b ≠ 25 ∨ j ≠ 4) → (tag b ≠ 25 ∨ j ≠ 5) → (tag b ≠ 25 ∨ j ≠ 6) → (tag b ≠ 25 ∨ j ≠ 7) → (tag b ≠ 25 ∨ j ≠ 8) → (tag b ≠ 25 ∨ j ≠ 12) → fld F b j = fld Fo b j := fun b j n18_0 n18_1 n18_2 n18_3 n18_4 n18_5 n18_6 n18_8 n18_10 n18_14 n18_16 n19_0 n24_2 n24_3 n24_4 n24_5 n24_6 n24_7 n25_3 n25_4 n25_5 n25_6 n25_7 n25_8 n25_12 => (yz166963.1 b j n24_2 n24_3 n24_4 n24_5 n24_6 n24_7).trans (hfr b j n18_0 n18_1 n18_2 n18_3 n18_4 n18_5 n18_6 n18_8 n18_10 n18_14 n18_16 n19_0 n24_2 n24_3 n24_4 n24_5 n24_6 n24_7 n25_3 n25_4 n25_5 n25_6 n25_7 n25_8 n25_12)
          have hrel := nsr_of (fun j => yz166963.2 _ j (Or.inl gx4)) (fun j => yz166963.2 _ j (Or.inr gx5)) hrel
          refine lv_iload_n hx hb dX3_readLine_45 rfl (lv_at hl 0 rfl) ?_
          refine lv_tableIn (off := 78) (tgt := 124) hx hb dX3_readLine_46 (by decide) (by decide) (by decide) (by decide) ?_
          refine lv_aload_n hx hb dX3_readLine_124 rfl (lv_at hl 1 rfl) ?_
          refine t_cVv (n := 0) (C := RX3) (T := TX3) (N := 13) (As := []) (rest := []) X hT (kt456_X3_readHouse l G tag L F hT.2.2.2 p0 x0 x1 x2 x3 x4 x5 z166957 m0 g0 mx0 gx0 pf0 mx1 gx1 pf1 mx2 gx2 pf2 mx3 gx3 pf3 mx4 gx4 pf4 mx5 gx5 pf5 (by omega) qz166957 hrel) m0 g0 rfl rfl qw_369 qw_370 qw_371 qw_28 qw_372 ⟨rfl, by decide +kernel, by decide +kernel, by decide +kernel⟩ ⟨Nat.le_of_ble_eq_true rfl, Nat.le_of_ble_eq_true rfl⟩ hl rfl rfl (Nat.le_of_ble_eq_true rfl) dX3_readLine_125 ⟨Nat.le_of_ble_eq_true rfl, Nat.le_of_ble_eq_true rfl⟩ (fun F H locs hT hz166964 => ?_)
          obtain ⟨yz166964, hrel⟩ := hz166964
          have pf0 := (yz166964 _ 0 (Or.inr (by decide)) (Or.inr (by decide)) (Or.inr (by decide)) (Or.inr (by decide)) (Or.inr (by decide)) (Or.inr (by decide)) (Or.inr (by decide)) (Or.inr (by decide)) (Or.inr (by decide)) (Or.inr (by decide))).trans pf0
          have pf1 := (yz166964 _ 1 (Or.inr (by decide)) (Or.inr (by decide)) (Or.inr (by decide)) (Or.inr (by decide)) (Or.inr (by decide)) (Or.inr (by decide)) (Or.inr (by decide)) (Or.inr (by decide)) (Or.inr (by decide)) (Or.inr (by decide))).trans pf1
          have pf2 := (yz166964 _ 2 (Or.inr (by decide)) (Or.inl (by rw [g0]; decide)) (Or.inr (by decide)) (Or.inr (by decide)) (Or.inr (by decide)) (Or.inr (by decide)) (Or.inr (by decide)) (Or.inr (by decide)) (Or.inr (by decide)) (Or.inr (by decide))).trans pf2
          have pf3 := (yz166964 _ 0 (Or.inr (by decide)) (Or.inr (by decide)) (Or.inr (by decide)) (Or.inr (by decide)) (Or.inr (by decide)) (Or.inr (by decide)) (Or.inr (by decide)) (Or.inr (by decide)) (Or.inr (by decide)) (Or.inr (by decide))).trans pf3
          have pf4 := (yz166964 _ 10 (Or.inl (by rw [g0]; decide)) (Or.inr (by decide)) (Or.inr (by decide)) (Or.inr (by decide)) (Or.inr (by decide)) (Or.inr (by decide)) (Or.inr (by decide)) (Or.inr (by decide)) (Or.inr (by decide)) (Or.inr (by decide))).trans pf4
          have pf5 := (yz166964 _ 11 (Or.inr (by decide)) (Or.inr (by decide)) (Or.inr (by decide)) (Or.inr (by decide)) (Or.inr (by decide)) (Or.inr (by decide)) (Or.inr (by decide)) (Or.inr (by decide)) (Or.inr (by decide)) (Or.inr (by decide))).trans pf5
          have hfr : ∀ b j : Nat, (tag b ≠ 18 ∨ j ≠ 0) → (tag b ≠ 18 ∨ j ≠ 1) → (tag b ≠ 18 ∨ j ≠ 2) → (tag b ≠ 18 ∨ j ≠ 3) → (tag b ≠ 18 ∨ j ≠ 4) → (tag b ≠ 18 ∨ j ≠ 5) → (tag b ≠ 18 ∨ j ≠ 6) → (tag b ≠ 18 ∨ j ≠ 8) → (tag b ≠ 18 ∨ j ≠ 10) → (tag b ≠ 18 ∨ j ≠ 14) → (tag b ≠ 18 ∨ j ≠ 16) → (tag b ≠ 19 ∨ j ≠ 0) → (tag b ≠ 24 ∨ j ≠ 2) → (tag b ≠ 24 ∨ j ≠ 3) → (tag b ≠ 24 ∨ j ≠ 4) → (tag b ≠ 24 ∨ j ≠ 5) → (tag b ≠ 24 ∨ j ≠ 6) → (tag b ≠ 24 ∨ j ≠ 7) → (tag b ≠ 25 ∨ j ≠ 3) → (tag b ≠ 25 ∨ j ≠ 4) → (tag b ≠ 25 ∨ j ≠ 5) → (tag b ≠ 25 ∨ j ≠ 6) → (tag b ≠ 25 ∨ j ≠ 7) → (tag b ≠ 25 ∨ j ≠ 8) → (tag b ≠ 25 ∨ j ≠ 12) → fld F b j = fld Fo b j := fun b j n18_0 n18_1 n18_2 n18_3 n18_4 n18_5 n18_6 n18_8 n18_10 n18_14 n18_16 n19_0 n24_2 n24_3 n24_4 n24_5 n24_6 n24_7 n25_3 n25_4 n25_5 n25_6 n25_7 n25_8 n25_12 => (yz166964 b j n18_10 n24_2 n24_3 n24_4 n24_5 n24_6 n24_7 n25_3 n25_4 n25_12).trans (hfr b j n18_0 n18_1 n18_2 n18_3 n18_4 n18_5 n18_6 n18_8 n18_10 n18_14 n18_16 n19_0 n24_2 n24_3 n24_4 n24_5 n24_6 n24_7 n25_3 n25_4 n25_5 n25_6 n25_7 n25_8 n25_12)
          refine lv_goto (tgt := 186) hx hb dX3_readLine_128 (by decide) ?_
          exact t_vret hQ X hT ⟨hfr, hrel⟩ (Nat.le_of_ble_eq_true rfl) (Nat.le_of_ble_eq_true rfl) dX3_readLine_186
        · have w166965 := cv_ne (rfl : z166959.toInt = z166959.toInt) (by decide : (0 : Int32).toInt = 0) c166960
          exact t_vret hQ X hT ⟨hfr, hrel⟩ (Nat.le_of_ble_eq_true rfl) (Nat.le_of_ble_eq_true rfl) dX3_readLine_37
    have w166966 := cv_ne (rfl : z166947.toInt = z166947.toInt) (by decide : (4 : Int32).toInt = 4) c166950
    by_cases c166967 : z166947 = 7
    · subst c166967
      refine lv_aload_n hx hb dX3_readLine_25 rfl (lv_at hl 1 rfl) ?_
      refine lv_iload_n hx hb dX3_readLine_26 rfl (lv_at hl 0 rfl) ?_
      refine t_cVv (n := 1) (C := RX3) (T := TX3) (N := 13) (As := [.int 7]) (rest := []) X hT (kt462_X3_checkLine l G tag L F hT.2.2.2 p0 7 x0 x1 x2 x3 x4 x5 m0 g0 (by decide) mx0 gx0 pf0 mx1 gx1 pf1 mx2 gx2 pf2 mx3 gx3 pf3 mx4 gx4 pf4 mx5 gx5 pf5) m0 g0 rfl rfl qw_291 qw_292 qw_293 qw_28 qw_294 ⟨rfl, by decide +kernel, by decide +kernel, by decide +kernel⟩ ⟨Nat.le_of_ble_eq_true rfl, Nat.le_of_ble_eq_true rfl⟩ hl rfl rfl (Nat.le_of_ble_eq_true rfl) dX3_readLine_27 ⟨Nat.le_of_ble_eq_true rfl, Nat.le_of_ble_eq_true rfl⟩ (fun F H locs hT hz166968 => ?_)
      obtain ⟨yz166968, xz166968_0⟩ := hz166968
      have pf0 := (yz166968.1 _ 0 (Or.inr (by decide)) (Or.inr (by decide))).trans pf0
      have pf1 := (yz166968.1 _ 1 (Or.inr (by decide)) (Or.inr (by decide))).trans pf1
      have pf2 := (yz166968.1 _ 2 (Or.inr (by decide)) (Or.inr (by decide))).trans pf2
      have pf3 := (yz166968.1 _ 0 (Or.inr (by decide)) (Or.inr (by decide))).trans pf3
      have pf4 := (yz166968.1 _ 10 (Or.inr (by decide)) (Or.inr (by decide))).trans pf4
      have pf5 := (yz166968.1 _ 11 (Or.inr (by decide)) (Or.inr (by decide))).trans pf5
      have hfr : ∀ b j : Nat, (tag b ≠ 18 ∨ j ≠ 0) → (tag b ≠ 18 ∨ j ≠ 1) → (tag b ≠ 18 ∨ j ≠ 2) → (tag b ≠ 18 ∨ j ≠ 3) → (tag b ≠ 18 ∨ j ≠ 4) → (tag b ≠ 18 ∨ j ≠ 5) → (tag b ≠ 18 ∨ j ≠ 6) → (tag b ≠ 18 ∨ j ≠ 8) → (tag b ≠ 18 ∨ j ≠ 10) → (tag b ≠ 18 ∨ j ≠ 14) → (tag b ≠ 18 ∨ j ≠ 16) → (tag b ≠ 19 ∨ j ≠ 0) → (tag b ≠ 24 ∨ j ≠ 2) → (tag b ≠ 24 ∨ j ≠ 3) → (tag b ≠ 24 ∨ j ≠ 4) → (tag b ≠ 24 ∨ j ≠ 5) → (tag b ≠ 24 ∨ j ≠ 6) → (tag b ≠ 24 ∨ j ≠ 7) → (tag b ≠ 25 ∨ j ≠ 3) → (tag b ≠ 25 ∨ j ≠ 4) → (tag b ≠ 25 ∨ j ≠ 5) → (tag b ≠ 25 ∨ j ≠ 6) → (tag b ≠ 25 ∨ j ≠ 7) → (tag b ≠ 25 ∨ j ≠ 8) → (tag b ≠ 25 ∨ j ≠ 12) → fld F b j = fld Fo b j := fun b j n18_0 n18_1 n18_2 n18_3 n18_4 n18_5 n18_6 n18_8 n18_10 n18_14 n18_16 n19_0 n24_2 n24_3 n24_4 n24_5 n24_6 n24_7 n25_3 n25_4 n25_5 n25_6 n25_7 n25_8 n25_12 => (yz166968.1 b j n25_3 n25_4).trans (hfr b j n18_0 n18_1 n18_2 n18_3 n18_4 n18_5 n18_6 n18_8 n18_10 n18_14 n18_16 n19_0 n24_2 n24_3 n24_4 n24_5 n24_6 n24_7 n25_3 n25_4 n25_5 n25_6 n25_7 n25_8 n25_12)
      have hrel := nsr_of (fun j => yz166968.2 _ j (Or.inl gx4)) (fun j => yz166968.2 _ j (Or.inr gx5)) hrel
      rcases xz166968_0 with xz166968_0 | xz166968_0
      · obtain ⟨z166969, qz166969, rz166969⟩ := xz166968_0
        refine lv_aload_n hx hb dX3_readLine_30 rfl (lv_at hl 1 rfl) ?_
        refine t_get (C := RX3) (T := TX3) (N := 13) X hT m0 g0 rfl rfl 3 (by decide) qw_163 inlX3 rfl dX3_readLine_31 (fun v166970 hv166970 ov166970 => ?_)
        obtain rfl : v166970 = .int z166969 := hv166970.symm.trans qz166969
        refine lv_if_eq (tgt := 38) hx hb dX3_readLine_34 (by decide) (fun c166971 => ?_) (fun c166971 => ?_)
        · have w166972 := cv_eq (rfl : z166969.toInt = z166969.toInt) (by decide : (0 : Int32).toInt = 0) c166971
          exfalso
          omega
        · have w166973 := cv_ne (rfl : z166969.toInt = z166969.toInt) (by decide : (0 : Int32).toInt = 0) c166971
          exact t_vret hQ X hT ⟨hfr, hrel⟩ (Nat.le_of_ble_eq_true rfl) (Nat.le_of_ble_eq_true rfl) dX3_readLine_37
      · obtain ⟨z166974, qz166974, rz166974⟩ := xz166968_0
        refine lv_aload_n hx hb dX3_readLine_30 rfl (lv_at hl 1 rfl) ?_
        refine t_get (C := RX3) (T := TX3) (N := 13) X hT m0 g0 rfl rfl 3 (by decide) qw_163 inlX3 rfl dX3_readLine_31 (fun v166975 hv166975 ov166975 => ?_)
        obtain ⟨z166976, rfl, rz166976⟩ := okV_i ov166975
        refine lv_if_eq (tgt := 38) hx hb dX3_readLine_34 (by decide) (fun c166977 => ?_) (fun c166977 => ?_)
        · have w166978 := cv_eq (rfl : z166976.toInt = z166976.toInt) (by decide : (0 : Int32).toInt = 0) c166977
          refine lv_aload_n hx hb dX3_readLine_38 rfl (lv_at hl 1 rfl) ?_
          refine t_get (C := RX3) (T := TX3) (N := 13) X hT m0 g0 rfl rfl 0 (by decide) qw_73 inlX3 rfl dX3_readLine_39 (fun v166979 hv166979 ov166979 => ?_)
          obtain rfl : v166979 = .ref x0 := hv166979.symm.trans pf0
          refine t_cVv (n := 0) (C := RX8) (T := TX8) (N := 8) (As := []) (rest := []) X hT (kt440_X8_advance l G tag L F hT.2.2.2 x0 x3 mx0 gx0 mx3 gx3 pf3) mx0 gx0 rfl rfl qw_305 qw_197 qw_198 qw_72 qw_199 ⟨rfl, by decide +kernel, by decide +kernel, by decide +kernel⟩ ⟨Nat.le_of_ble_eq_true rfl, Nat.le_of_ble_eq_true rfl⟩ hl rfl rfl (Nat.le_of_ble_eq_true rfl) dX3_readLine_42 ⟨Nat.le_of_ble_eq_true rfl, Nat.le_of_ble_eq_true rfl⟩ (fun F H locs hT hz166980 => ?_)
          have yz166980 := hz166980
          have pf0 := (yz166980.1 _ 0 (Or.inr (by decide)) (Or.inr (by decide)) (Or.inr (by decide)) (Or.inr (by decide)) (Or.inr (by decide)) (Or.inr (by decide))).trans pf0
          have pf1 := (yz166980.1 _ 1 (Or.inr (by decide)) (Or.inr (by decide)) (Or.inr (by decide)) (Or.inr (by decide)) (Or.inr (by decide)) (Or.inr (by decide))).trans pf1
          have pf2 := (yz166980.1 _ 2 (Or.inl (by rw [g0]; decide)) (Or.inr (by decide)) (Or.inr (by decide)) (Or.inr (by decide)) (Or.inr (by decide)) (Or.inr (by decide))).trans pf2
          have pf3 := (yz166980.1 _ 0 (Or.inr (by decide)) (Or.inr (by decide)) (Or.inr (by decide)) (Or.inr (by decide)) (Or.inr (by decide)) (Or.inr (by decide))).trans pf3
          have pf4 := (yz166980.1 _ 10 (Or.inr (by decide)) (Or.inr (by decide)) (Or.inr (by decide)) (Or.inr (by decide)) (Or.inr (by decide)) (Or.inr (by decide))).trans pf4
          have pf5 := (yz166980.1 _ 11 (Or.inr (by decide)) (Or.inr (by decide)) (Or.inr (by decide)) (Or.inr (by decide)) (Or.inr (by decide)) (Or.inr (by decide))).trans pf5
          have qz166974 := (yz166980.1 _ 16 (Or.inr (by decide)) (Or.inr (by decide)) (Or.inr (by decide)) (Or.inr (by decide)) (Or.inr (by decide)) (Or.inr (by decide))).trans qz166974
          have hv166975 := (yz166980.1 _ 3 (Or.inr (by decide)) (Or.inl (by rw [g0]; decide)) (Or.inr (by decide)) (Or.inr (by decide)) (Or.inr (by decide)) (Or.inr (by decide))).trans hv166975
          have hfr : ∀ b j : Nat, (tag b ≠ 18 ∨ j ≠ 0) → (tag b ≠ 18 ∨ j ≠ 1) → (tag b ≠ 18 ∨ j ≠ 2) → (tag b ≠ 18 ∨ j ≠ 3) → (tag b ≠ 18 ∨ j ≠ 4) → (tag b ≠ 18 ∨ j ≠ 5) → (tag b ≠ 18 ∨ j ≠ 6) → (tag b ≠ 18 ∨ j ≠ 8) → (tag b ≠ 18 ∨ j ≠ 10) → (tag b ≠ 18 ∨ j ≠ 14) → (tag b ≠ 18 ∨ j ≠ 16) → (tag b ≠ 19 ∨ j ≠ 0) → (tag b ≠ 24 ∨ j ≠ 2) → (tag b ≠ 24 ∨ j ≠ 3) → (tag b ≠ 24 ∨ j ≠ 4) → (tag b ≠ 24 ∨ j ≠ 5) → (tag b ≠ 24 ∨ j ≠ 6) → (tag b ≠ 24 ∨ j ≠ 7) → (tag b ≠ 25 ∨ j ≠ 3) → (tag b ≠ 25 ∨ j ≠ 4) → (tag b ≠ 25 ∨ j ≠ 5) → (tag b ≠ 25 ∨ j ≠ 6) → (tag b ≠ 25 ∨ j ≠ 7) → (tag b ≠ 25 ∨ j ≠ 8) → (tag b ≠ 25 ∨ j ≠ 12) → fld F b j = fld Fo b j := fun b j n18_0 n18_1 n18_2 n18_3 n18_4 n18_5 n18_6 n18_8 n18_10 n18_14 n18_16 n19_0 n24_2 n24_3 n24_4 n24_5 n24_6 n24_7 n25_3 n25_4 n25_5 n25_6 n25_7 n25_8 n25_12 => (yz166980.1 b j n24_2 n24_3 n24_4 n24_5 n24_6 n24_7).trans (hfr b j n18_0 n18_1 n18_2 n18_3 n18_4 n18_5 n18_6 n18_8 n18_10 n18_14 n18_16 n19_0 n24_2 n24_3 n24_4 n24_5 n24_6 n24_7 n25_3 n25_4 n25_5 n25_6 n25_7 n25_8 n25_12)
          have hrel := nsr_of (fun j => yz166980.2 _ j (Or.inl gx4)) (fun j => yz166980.2 _ j (Or.inr gx5)) hrel
          refine lv_iload_n hx hb dX3_readLine_45 rfl (lv_at hl 0 rfl) ?_
          refine lv_tableIn (off := 99) (tgt := 145) hx hb dX3_readLine_46 (by decide) (by decide) (by decide) (by decide) ?_
          refine lv_aload_n hx hb dX3_readLine_145 rfl (lv_at hl 1 rfl) ?_
          refine t_cVv (n := 0) (C := RX3) (T := TX3) (N := 13) (As := []) (rest := []) X hT (kt464_X3_readWall l G tag L F hT.2.2.2 p0 x0 x1 x2 x3 x4 x5 z166974 m0 g0 mx0 gx0 pf0 mx1 gx1 pf1 mx2 gx2 pf2 mx3 gx3 pf3 mx4 gx4 pf4 mx5 gx5 pf5 (by omega) qz166974 hrel) m0 g0 rfl rfl qw_432 qw_433 qw_434 qw_28 qw_435 ⟨rfl, by decide +kernel, by decide +kernel, by decide +kernel⟩ ⟨Nat.le_of_ble_eq_true rfl, Nat.le_of_ble_eq_true rfl⟩ hl rfl rfl (Nat.le_of_ble_eq_true rfl) dX3_readLine_146 ⟨Nat.le_of_ble_eq_true rfl, Nat.le_of_ble_eq_true rfl⟩ (fun F H locs hT hz166981 => ?_)
          obtain ⟨yz166981, hrel⟩ := hz166981
          have pf0 := (yz166981 _ 0 (Or.inr (by decide)) (Or.inr (by decide)) (Or.inr (by decide)) (Or.inr (by decide)) (Or.inr (by decide)) (Or.inr (by decide)) (Or.inr (by decide)) (Or.inr (by decide)) (Or.inr (by decide)) (Or.inr (by decide))).trans pf0
          have pf1 := (yz166981 _ 1 (Or.inr (by decide)) (Or.inr (by decide)) (Or.inr (by decide)) (Or.inr (by decide)) (Or.inr (by decide)) (Or.inr (by decide)) (Or.inr (by decide)) (Or.inr (by decide)) (Or.inr (by decide)) (Or.inr (by decide))).trans pf1
          have pf2 := (yz166981 _ 2 (Or.inr (by decide)) (Or.inl (by rw [g0]; decide)) (Or.inr (by decide)) (Or.inr (by decide)) (Or.inr (by decide)) (Or.inr (by decide)) (Or.inr (by decide)) (Or.inr (by decide)) (Or.inr (by decide)) (Or.inr (by decide))).trans pf2
          have pf3 := (yz166981 _ 0 (Or.inr (by decide)) (Or.inr (by decide)) (Or.inr (by decide)) (Or.inr (by decide)) (Or.inr (by decide)) (Or.inr (by decide)) (Or.inr (by decide)) (Or.inr (by decide)) (Or.inr (by decide)) (Or.inr (by decide))).trans pf3
          have pf4 := (yz166981 _ 10 (Or.inr (by decide)) (Or.inr (by decide)) (Or.inr (by decide)) (Or.inr (by decide)) (Or.inr (by decide)) (Or.inr (by decide)) (Or.inr (by decide)) (Or.inr (by decide)) (Or.inr (by decide)) (Or.inr (by decide))).trans pf4
          have pf5 := (yz166981 _ 11 (Or.inr (by decide)) (Or.inr (by decide)) (Or.inr (by decide)) (Or.inr (by decide)) (Or.inr (by decide)) (Or.inr (by decide)) (Or.inr (by decide)) (Or.inr (by decide)) (Or.inr (by decide)) (Or.inr (by decide))).trans pf5
          have hfr : ∀ b j : Nat, (tag b ≠ 18 ∨ j ≠ 0) → (tag b ≠ 18 ∨ j ≠ 1) → (tag b ≠ 18 ∨ j ≠ 2) → (tag b ≠ 18 ∨ j ≠ 3) → (tag b ≠ 18 ∨ j ≠ 4) → (tag b ≠ 18 ∨ j ≠ 5) → (tag b ≠ 18 ∨ j ≠ 6) → (tag b ≠ 18 ∨ j ≠ 8) → (tag b ≠ 18 ∨ j ≠ 10) → (tag b ≠ 18 ∨ j ≠ 14) → (tag b ≠ 18 ∨ j ≠ 16) → (tag b ≠ 19 ∨ j ≠ 0) → (tag b ≠ 24 ∨ j ≠ 2) → (tag b ≠ 24 ∨ j ≠ 3) → (tag b ≠ 24 ∨ j ≠ 4) → (tag b ≠ 24 ∨ j ≠ 5) → (tag b ≠ 24 ∨ j ≠ 6) → (tag b ≠ 24 ∨ j ≠ 7) → (tag b ≠ 25 ∨ j ≠ 3) → (tag b ≠ 25 ∨ j ≠ 4) → (tag b ≠ 25 ∨ j ≠ 5) → (tag b ≠ 25 ∨ j ≠ 6) → (tag b ≠ 25 ∨ j ≠ 7) → (tag b ≠ 25 ∨ j ≠ 8) → (tag b ≠ 25 ∨ j ≠ 12) → fld F b j = fld Fo b j := fun b j n18_0 n18_1 n18_2 n18_3 n18_4 n18_5 n18_6 n18_8 n18_10 n18_14 n18_16 n19_0 n24_2 n24_3 n24_4 n24_5 n24_6 n24_7 n25_3 n25_4 n25_5 n25_6 n25_7 n25_8 n25_12 => (yz166981 b j n18_16 n24_2 n24_3 n24_4 n24_5 n24_6 n24_7 n25_3 n25_4 n25_12).trans (hfr b j n18_0 n18_1 n18_2 n18_3 n18_4 n18_5 n18_6 n18_8 n18_10 n18_14 n18_16 n19_0 n24_2 n24_3 n24_4 n24_5 n24_6 n24_7 n25_3 n25_4 n25_5 n25_6 n25_7 n25_8 n25_12)
          refine lv_goto (tgt := 186) hx hb dX3_readLine_149 (by decide) ?_
          exact t_vret hQ X hT ⟨hfr, hrel⟩ (Nat.le_of_ble_eq_true rfl) (Nat.le_of_ble_eq_true rfl) dX3_readLine_186
        · have w166982 := cv_ne (rfl : z166976.toInt = z166976.toInt) (by decide : (0 : Int32).toInt = 0) c166977
          exact t_vret hQ X hT ⟨hfr, hrel⟩ (Nat.le_of_ble_eq_true rfl) (Nat.le_of_ble_eq_true rfl) dX3_readLine_37
    have w166983 := cv_ne (rfl : z166947.toInt = z166947.toInt) (by decide : (7 : Int32).toInt = 7) c166967
    refine lv_aload_n hx hb dX3_readLine_25 rfl (lv_at hl 1 rfl) ?_
    refine lv_iload_n hx hb dX3_readLine_26 rfl (lv_at hl 0 rfl) ?_
    refine t_cVv (n := 1) (C := RX3) (T := TX3) (N := 13) (As := [.int z166947]) (rest := []) X hT (kt433_X3_checkLine l G tag L F hT.2.2.2 p0 z166947 x0 x1 x2 x3 x4 x5 m0 g0 mx0 gx0 pf0 mx1 gx1 pf1 mx2 gx2 pf2 mx3 gx3 pf3 mx4 gx4 pf4 mx5 gx5 pf5) m0 g0 rfl rfl qw_291 qw_292 qw_293 qw_28 qw_294 ⟨rfl, by decide +kernel, by decide +kernel, by decide +kernel⟩ ⟨Nat.le_of_ble_eq_true rfl, Nat.le_of_ble_eq_true rfl⟩ hl rfl rfl (Nat.le_of_ble_eq_true rfl) dX3_readLine_27 ⟨Nat.le_of_ble_eq_true rfl, Nat.le_of_ble_eq_true rfl⟩ (fun F H locs hT hz166984 => ?_)
    have yz166984 := hz166984
    have pf0 := (yz166984.1 _ 0 (Or.inr (by decide)) (Or.inr (by decide))).trans pf0
    have pf1 := (yz166984.1 _ 1 (Or.inr (by decide)) (Or.inr (by decide))).trans pf1
    have pf2 := (yz166984.1 _ 2 (Or.inr (by decide)) (Or.inr (by decide))).trans pf2
    have pf3 := (yz166984.1 _ 0 (Or.inr (by decide)) (Or.inr (by decide))).trans pf3
    have pf4 := (yz166984.1 _ 10 (Or.inr (by decide)) (Or.inr (by decide))).trans pf4
    have pf5 := (yz166984.1 _ 11 (Or.inr (by decide)) (Or.inr (by decide))).trans pf5
    have hfr : ∀ b j : Nat, (tag b ≠ 18 ∨ j ≠ 0) → (tag b ≠ 18 ∨ j ≠ 1) → (tag b ≠ 18 ∨ j ≠ 2) → (tag b ≠ 18 ∨ j ≠ 3) → (tag b ≠ 18 ∨ j ≠ 4) → (tag b ≠ 18 ∨ j ≠ 5) → (tag b ≠ 18 ∨ j ≠ 6) → (tag b ≠ 18 ∨ j ≠ 8) → (tag b ≠ 18 ∨ j ≠ 10) → (tag b ≠ 18 ∨ j ≠ 14) → (tag b ≠ 18 ∨ j ≠ 16) → (tag b ≠ 19 ∨ j ≠ 0) → (tag b ≠ 24 ∨ j ≠ 2) → (tag b ≠ 24 ∨ j ≠ 3) → (tag b ≠ 24 ∨ j ≠ 4) → (tag b ≠ 24 ∨ j ≠ 5) → (tag b ≠ 24 ∨ j ≠ 6) → (tag b ≠ 24 ∨ j ≠ 7) → (tag b ≠ 25 ∨ j ≠ 3) → (tag b ≠ 25 ∨ j ≠ 4) → (tag b ≠ 25 ∨ j ≠ 5) → (tag b ≠ 25 ∨ j ≠ 6) → (tag b ≠ 25 ∨ j ≠ 7) → (tag b ≠ 25 ∨ j ≠ 8) → (tag b ≠ 25 ∨ j ≠ 12) → fld F b j = fld Fo b j := fun b j n18_0 n18_1 n18_2 n18_3 n18_4 n18_5 n18_6 n18_8 n18_10 n18_14 n18_16 n19_0 n24_2 n24_3 n24_4 n24_5 n24_6 n24_7 n25_3 n25_4 n25_5 n25_6 n25_7 n25_8 n25_12 => (yz166984.1 b j n25_3 n25_4).trans (hfr b j n18_0 n18_1 n18_2 n18_3 n18_4 n18_5 n18_6 n18_8 n18_10 n18_14 n18_16 n19_0 n24_2 n24_3 n24_4 n24_5 n24_6 n24_7 n25_3 n25_4 n25_5 n25_6 n25_7 n25_8 n25_12)
    have hrel := nsr_of (fun j => yz166984.2 _ j (Or.inl gx4)) (fun j => yz166984.2 _ j (Or.inr gx5)) hrel
    refine lv_aload_n hx hb dX3_readLine_30 rfl (lv_at hl 1 rfl) ?_
    refine t_get (C := RX3) (T := TX3) (N := 13) X hT m0 g0 rfl rfl 3 (by decide) qw_163 inlX3 rfl dX3_readLine_31 (fun v166985 hv166985 ov166985 => ?_)
    obtain ⟨z166986, rfl, rz166986⟩ := okV_i ov166985
    refine lv_if_eq (tgt := 38) hx hb dX3_readLine_34 (by decide) (fun c166987 => ?_) (fun c166987 => ?_)
    · have w166988 := cv_eq (rfl : z166986.toInt = z166986.toInt) (by decide : (0 : Int32).toInt = 0) c166987
      refine lv_aload_n hx hb dX3_readLine_38 rfl (lv_at hl 1 rfl) ?_
      refine t_get (C := RX3) (T := TX3) (N := 13) X hT m0 g0 rfl rfl 0 (by decide) qw_73 inlX3 rfl dX3_readLine_39 (fun v166989 hv166989 ov166989 => ?_)
      obtain rfl : v166989 = .ref x0 := hv166989.symm.trans pf0
      refine t_cVv (n := 0) (C := RX8) (T := TX8) (N := 8) (As := []) (rest := []) X hT (kt440_X8_advance l G tag L F hT.2.2.2 x0 x3 mx0 gx0 mx3 gx3 pf3) mx0 gx0 rfl rfl qw_305 qw_197 qw_198 qw_72 qw_199 ⟨rfl, by decide +kernel, by decide +kernel, by decide +kernel⟩ ⟨Nat.le_of_ble_eq_true rfl, Nat.le_of_ble_eq_true rfl⟩ hl rfl rfl (Nat.le_of_ble_eq_true rfl) dX3_readLine_42 ⟨Nat.le_of_ble_eq_true rfl, Nat.le_of_ble_eq_true rfl⟩ (fun F H locs hT hz166990 => ?_)
      have yz166990 := hz166990
      have pf0 := (yz166990.1 _ 0 (Or.inr (by decide)) (Or.inr (by decide)) (Or.inr (by decide)) (Or.inr (by decide)) (Or.inr (by decide)) (Or.inr (by decide))).trans pf0
      have pf1 := (yz166990.1 _ 1 (Or.inr (by decide)) (Or.inr (by decide)) (Or.inr (by decide)) (Or.inr (by decide)) (Or.inr (by decide)) (Or.inr (by decide))).trans pf1
      have pf2 := (yz166990.1 _ 2 (Or.inl (by rw [g0]; decide)) (Or.inr (by decide)) (Or.inr (by decide)) (Or.inr (by decide)) (Or.inr (by decide)) (Or.inr (by decide))).trans pf2
      have pf3 := (yz166990.1 _ 0 (Or.inr (by decide)) (Or.inr (by decide)) (Or.inr (by decide)) (Or.inr (by decide)) (Or.inr (by decide)) (Or.inr (by decide))).trans pf3
      have pf4 := (yz166990.1 _ 10 (Or.inr (by decide)) (Or.inr (by decide)) (Or.inr (by decide)) (Or.inr (by decide)) (Or.inr (by decide)) (Or.inr (by decide))).trans pf4
      have pf5 := (yz166990.1 _ 11 (Or.inr (by decide)) (Or.inr (by decide)) (Or.inr (by decide)) (Or.inr (by decide)) (Or.inr (by decide)) (Or.inr (by decide))).trans pf5
      have hv166985 := (yz166990.1 _ 3 (Or.inr (by decide)) (Or.inl (by rw [g0]; decide)) (Or.inr (by decide)) (Or.inr (by decide)) (Or.inr (by decide)) (Or.inr (by decide))).trans hv166985
      have hfr : ∀ b j : Nat, (tag b ≠ 18 ∨ j ≠ 0) → (tag b ≠ 18 ∨ j ≠ 1) → (tag b ≠ 18 ∨ j ≠ 2) → (tag b ≠ 18 ∨ j ≠ 3) → (tag b ≠ 18 ∨ j ≠ 4) → (tag b ≠ 18 ∨ j ≠ 5) → (tag b ≠ 18 ∨ j ≠ 6) → (tag b ≠ 18 ∨ j ≠ 8) → (tag b ≠ 18 ∨ j ≠ 10) → (tag b ≠ 18 ∨ j ≠ 14) → (tag b ≠ 18 ∨ j ≠ 16) → (tag b ≠ 19 ∨ j ≠ 0) → (tag b ≠ 24 ∨ j ≠ 2) → (tag b ≠ 24 ∨ j ≠ 3) → (tag b ≠ 24 ∨ j ≠ 4) → (tag b ≠ 24 ∨ j ≠ 5) → (tag b ≠ 24 ∨ j ≠ 6) → (tag b ≠ 24 ∨ j ≠ 7) → (tag b ≠ 25 ∨ j ≠ 3) → (tag b ≠ 25 ∨ j ≠ 4) → (tag b ≠ 25 ∨ j ≠ 5) → (tag b ≠ 25 ∨ j ≠ 6) → (tag b ≠ 25 ∨ j ≠ 7) → (tag b ≠ 25 ∨ j ≠ 8) → (tag b ≠ 25 ∨ j ≠ 12) → fld F b j = fld Fo b j := fun b j n18_0 n18_1 n18_2 n18_3 n18_4 n18_5 n18_6 n18_8 n18_10 n18_14 n18_16 n19_0 n24_2 n24_3 n24_4 n24_5 n24_6 n24_7 n25_3 n25_4 n25_5 n25_6 n25_7 n25_8 n25_12 => (yz166990.1 b j n24_2 n24_3 n24_4 n24_5 n24_6 n24_7).trans (hfr b j n18_0 n18_1 n18_2 n18_3 n18_4 n18_5 n18_6 n18_8 n18_10 n18_14 n18_16 n19_0 n24_2 n24_3 n24_4 n24_5 n24_6 n24_7 n25_3 n25_4 n25_5 n25_6 n25_7 n25_8 n25_12)
      have hrel := nsr_of (fun j => yz166990.2 _ j (Or.inl gx4)) (fun j => yz166990.2 _ j (Or.inr gx5)) hrel
      refine lv_iload_n hx hb dX3_readLine_45 rfl (lv_at hl 0 rfl) ?_
      by_cases c166991 : z166947 = 0
      · have w166992 := cv_eq (rfl : z166947.toInt = z166947.toInt) (by decide : (0 : Int32).toInt = 0) c166991
        refine lv_tableIn (off := 50) (tgt := 96) hx hb dX3_readLine_46 (by rw [c166991]; decide) (by rw [c166991]; decide) (by rw [c166991]; decide) (by decide) ?_
        refine lv_aload_n hx hb dX3_readLine_96 rfl (lv_at hl 1 rfl) ?_
        refine t_cVv (n := 0) (C := RX3) (T := TX3) (N := 13) (As := []) (rest := []) X hT (kt458_X3_readLand l G tag L F hT.2.2.2 p0 x0 x1 x2 x3 x4 x5 m0 g0 mx0 gx0 pf0 mx1 gx1 pf1 mx2 gx2 pf2 mx3 gx3 pf3 mx4 gx4 pf4 mx5 gx5 pf5) m0 g0 rfl rfl qw_306 qw_307 qw_308 qw_28 qw_309 ⟨rfl, by decide +kernel, by decide +kernel, by decide +kernel⟩ ⟨Nat.le_of_ble_eq_true rfl, Nat.le_of_ble_eq_true rfl⟩ hl rfl rfl (Nat.le_of_ble_eq_true rfl) dX3_readLine_97 ⟨Nat.le_of_ble_eq_true rfl, Nat.le_of_ble_eq_true rfl⟩ (fun F H locs hT hz166993 => ?_)
        have yz166993 := hz166993
        have pf0 := (yz166993.1 _ 0 (Or.inl (by rw [g0]; decide)) (Or.inr (by decide)) (Or.inr (by decide)) (Or.inr (by decide)) (Or.inr (by decide)) (Or.inr (by decide)) (Or.inr (by decide)) (Or.inr (by decide)) (Or.inr (by decide)) (Or.inr (by decide)) (Or.inr (by decide)) (Or.inr (by decide)) (Or.inr (by decide))).trans pf0
        have pf1 := (yz166993.1 _ 1 (Or.inr (by decide)) (Or.inl (by rw [g0]; decide)) (Or.inr (by decide)) (Or.inr (by decide)) (Or.inr (by decide)) (Or.inr (by decide)) (Or.inr (by decide)) (Or.inr (by decide)) (Or.inr (by decide)) (Or.inr (by decide)) (Or.inr (by decide)) (Or.inr (by decide)) (Or.inr (by decide))).trans pf1
        have pf2 := (yz166993.1 _ 2 (Or.inr (by decide)) (Or.inr (by decide)) (Or.inl (by rw [g0]; decide)) (Or.inr (by decide)) (Or.inl (by rw [g0]; decide)) (Or.inr (by decide)) (Or.inr (by decide)) (Or.inr (by decide)) (Or.inr (by decide)) (Or.inr (by decide)) (Or.inr (by decide)) (Or.inr (by decide)) (Or.inr (by decide))).trans pf2
        have pf3 := (yz166993.1 _ 0 (Or.inl (by rw [gx0]; decide)) (Or.inr (by decide)) (Or.inr (by decide)) (Or.inr (by decide)) (Or.inr (by decide)) (Or.inr (by decide)) (Or.inr (by decide)) (Or.inr (by decide)) (Or.inr (by decide)) (Or.inr (by decide)) (Or.inr (by decide)) (Or.inr (by decide)) (Or.inr (by decide))).trans pf3
        have pf4 := (yz166993.1 _ 10 (Or.inr (by decide)) (Or.inr (by decide)) (Or.inr (by decide)) (Or.inr (by decide)) (Or.inr (by decide)) (Or.inr (by decide)) (Or.inr (by decide)) (Or.inr (by decide)) (Or.inr (by decide)) (Or.inr (by decide)) (Or.inr (by decide)) (Or.inr (by decide)) (Or.inr (by decide))).trans pf4
        have pf5 := (yz166993.1 _ 11 (Or.inr (by decide)) (Or.inr (by decide)) (Or.inr (by decide)) (Or.inr (by decide)) (Or.inr (by decide)) (Or.inr (by decide)) (Or.inr (by decide)) (Or.inr (by decide)) (Or.inr (by decide)) (Or.inr (by decide)) (Or.inr (by decide)) (Or.inr (by decide)) (Or.inr (by decide))).trans pf5
        have hfr : ∀ b j : Nat, (tag b ≠ 18 ∨ j ≠ 0) → (tag b ≠ 18 ∨ j ≠ 1) → (tag b ≠ 18 ∨ j ≠ 2) → (tag b ≠ 18 ∨ j ≠ 3) → (tag b ≠ 18 ∨ j ≠ 4) → (tag b ≠ 18 ∨ j ≠ 5) → (tag b ≠ 18 ∨ j ≠ 6) → (tag b ≠ 18 ∨ j ≠ 8) → (tag b ≠ 18 ∨ j ≠ 10) → (tag b ≠ 18 ∨ j ≠ 14) → (tag b ≠ 18 ∨ j ≠ 16) → (tag b ≠ 19 ∨ j ≠ 0) → (tag b ≠ 24 ∨ j ≠ 2) → (tag b ≠ 24 ∨ j ≠ 3) → (tag b ≠ 24 ∨ j ≠ 4) → (tag b ≠ 24 ∨ j ≠ 5) → (tag b ≠ 24 ∨ j ≠ 6) → (tag b ≠ 24 ∨ j ≠ 7) → (tag b ≠ 25 ∨ j ≠ 3) → (tag b ≠ 25 ∨ j ≠ 4) → (tag b ≠ 25 ∨ j ≠ 5) → (tag b ≠ 25 ∨ j ≠ 6) → (tag b ≠ 25 ∨ j ≠ 7) → (tag b ≠ 25 ∨ j ≠ 8) → (tag b ≠ 25 ∨ j ≠ 12) → fld F b j = fld Fo b j := fun b j n18_0 n18_1 n18_2 n18_3 n18_4 n18_5 n18_6 n18_8 n18_10 n18_14 n18_16 n19_0 n24_2 n24_3 n24_4 n24_5 n24_6 n24_7 n25_3 n25_4 n25_5 n25_6 n25_7 n25_8 n25_12 => (yz166993.1 b j n18_0 n18_1 n18_2 n18_3 n24_2 n24_3 n24_4 n24_5 n24_6 n24_7 n25_3 n25_4 n25_5).trans (hfr b j n18_0 n18_1 n18_2 n18_3 n18_4 n18_5 n18_6 n18_8 n18_10 n18_14 n18_16 n19_0 n24_2 n24_3 n24_4 n24_5 n24_6 n24_7 n25_3 n25_4 n25_5 n25_6 n25_7 n25_8 n25_12)
        have hrel := nsr_of (fun j => yz166993.2 _ j (Or.inl gx4)) (fun j => yz166993.2 _ j (Or.inr gx5)) hrel
        refine lv_goto (tgt := 186) hx hb dX3_readLine_100 (by decide) ?_
        exact t_vret hQ X hT ⟨hfr, hrel⟩ (Nat.le_of_ble_eq_true rfl) (Nat.le_of_ble_eq_true rfl) dX3_readLine_186
      have w166994 := cv_ne (rfl : z166947.toInt = z166947.toInt) (by decide : (0 : Int32).toInt = 0) c166991
      by_cases c166995 : z166947 = 1
      · have w166996 := cv_eq (rfl : z166947.toInt = z166947.toInt) (by decide : (1 : Int32).toInt = 1) c166995
        refine lv_tableIn (off := 57) (tgt := 103) hx hb dX3_readLine_46 (by rw [c166995]; decide) (by rw [c166995]; decide) (by rw [c166995]; decide) (by decide) ?_
        refine lv_aload_n hx hb dX3_readLine_103 rfl (lv_at hl 1 rfl) ?_
        refine t_cVv (n := 0) (C := RX3) (T := TX3) (N := 13) (As := []) (rest := []) X hT (kt467_X3_readYears l G tag L F hT.2.2.2 p0 x0 x1 x2 x3 x4 x5 m0 g0 mx0 gx0 pf0 mx1 gx1 pf1 mx2 gx2 pf2 mx3 gx3 pf3 mx4 gx4 pf4 mx5 gx5 pf5) m0 g0 rfl rfl qw_327 qw_328 qw_329 qw_28 qw_330 ⟨rfl, by decide +kernel, by decide +kernel, by decide +kernel⟩ ⟨Nat.le_of_ble_eq_true rfl, Nat.le_of_ble_eq_true rfl⟩ hl rfl rfl (Nat.le_of_ble_eq_true rfl) dX3_readLine_104 ⟨Nat.le_of_ble_eq_true rfl, Nat.le_of_ble_eq_true rfl⟩ (fun F H locs hT hz166997 => ?_)
        have yz166997 := hz166997
        have pf0 := (yz166997.1 _ 0 (Or.inr (by decide)) (Or.inr (by decide)) (Or.inr (by decide)) (Or.inl (by rw [g0]; decide)) (Or.inr (by decide)) (Or.inr (by decide)) (Or.inr (by decide)) (Or.inr (by decide)) (Or.inr (by decide)) (Or.inr (by decide)) (Or.inr (by decide)) (Or.inr (by decide)) (Or.inr (by decide))).trans pf0
        have pf1 := (yz166997.1 _ 1 (Or.inr (by decide)) (Or.inr (by decide)) (Or.inr (by decide)) (Or.inr (by decide)) (Or.inr (by decide)) (Or.inr (by decide)) (Or.inr (by decide)) (Or.inr (by decide)) (Or.inr (by decide)) (Or.inr (by decide)) (Or.inr (by decide)) (Or.inr (by decide)) (Or.inr (by decide))).trans pf1
        have pf2 := (yz166997.1 _ 2 (Or.inr (by decide)) (Or.inr (by decide)) (Or.inr (by decide)) (Or.inr (by decide)) (Or.inl (by rw [g0]; decide)) (Or.inr (by decide)) (Or.inr (by decide)) (Or.inr (by decide)) (Or.inr (by decide)) (Or.inr (by decide)) (Or.inr (by decide)) (Or.inr (by decide)) (Or.inr (by decide))).trans pf2
        have pf3 := (yz166997.1 _ 0 (Or.inr (by decide)) (Or.inr (by decide)) (Or.inr (by decide)) (Or.inl (by rw [gx0]; decide)) (Or.inr (by decide)) (Or.inr (by decide)) (Or.inr (by decide)) (Or.inr (by decide)) (Or.inr (by decide)) (Or.inr (by decide)) (Or.inr (by decide)) (Or.inr (by decide)) (Or.inr (by decide))).trans pf3
        have pf4 := (yz166997.1 _ 10 (Or.inr (by decide)) (Or.inr (by decide)) (Or.inr (by decide)) (Or.inr (by decide)) (Or.inr (by decide)) (Or.inr (by decide)) (Or.inr (by decide)) (Or.inr (by decide)) (Or.inr (by decide)) (Or.inr (by decide)) (Or.inr (by decide)) (Or.inr (by decide)) (Or.inr (by decide))).trans pf4
        have pf5 := (yz166997.1 _ 11 (Or.inr (by decide)) (Or.inr (by decide)) (Or.inr (by decide)) (Or.inr (by decide)) (Or.inr (by decide)) (Or.inr (by decide)) (Or.inr (by decide)) (Or.inr (by decide)) (Or.inr (by decide)) (Or.inr (by decide)) (Or.inr (by decide)) (Or.inr (by decide)) (Or.inr (by decide))).trans pf5
        have hfr : ∀ b j : Nat, (tag b ≠ 18 ∨ j ≠ 0) → (tag b ≠ 18 ∨ j ≠ 1) → (tag b ≠ 18 ∨ j ≠ 2) → (tag b ≠ 18 ∨ j ≠ 3) → (tag b ≠ 18 ∨ j ≠ 4) → (tag b ≠ 18 ∨ j ≠ 5) → (tag b ≠ 18 ∨ j ≠ 6) → (tag b ≠ 18 ∨ j ≠ 8) → (tag b ≠ 18 ∨ j ≠ 10) → (tag b ≠ 18 ∨ j ≠ 14) → (tag b ≠ 18 ∨ j ≠ 16) → (tag b ≠ 19 ∨ j ≠ 0) → (tag b ≠ 24 ∨ j ≠ 2) → (tag b ≠ 24 ∨ j ≠ 3) → (tag b ≠ 24 ∨ j ≠ 4) → (tag b ≠ 24 ∨ j ≠ 5) → (tag b ≠ 24 ∨ j ≠ 6) → (tag b ≠ 24 ∨ j ≠ 7) → (tag b ≠ 25 ∨ j ≠ 3) → (tag b ≠ 25 ∨ j ≠ 4) → (tag b ≠ 25 ∨ j ≠ 5) → (tag b ≠ 25 ∨ j ≠ 6) → (tag b ≠ 25 ∨ j ≠ 7) → (tag b ≠ 25 ∨ j ≠ 8) → (tag b ≠ 25 ∨ j ≠ 12) → fld F b j = fld Fo b j := fun b j n18_0 n18_1 n18_2 n18_3 n18_4 n18_5 n18_6 n18_8 n18_10 n18_14 n18_16 n19_0 n24_2 n24_3 n24_4 n24_5 n24_6 n24_7 n25_3 n25_4 n25_5 n25_6 n25_7 n25_8 n25_12 => (yz166997.1 b j n18_4 n18_5 n18_6 n19_0 n24_2 n24_3 n24_4 n24_5 n24_6 n24_7 n25_3 n25_4 n25_6).trans (hfr b j n18_0 n18_1 n18_2 n18_3 n18_4 n18_5 n18_6 n18_8 n18_10 n18_14 n18_16 n19_0 n24_2 n24_3 n24_4 n24_5 n24_6 n24_7 n25_3 n25_4 n25_5 n25_6 n25_7 n25_8 n25_12)
        have hrel := nsr_of (fun j => yz166997.2 _ j (Or.inl gx4)) (fun j => yz166997.2 _ j (Or.inr gx5)) hrel
        refine lv_goto (tgt := 186) hx hb dX3_readLine_107 (by decide) ?_
        exact t_vret hQ X hT ⟨hfr, hrel⟩ (Nat.le_of_ble_eq_true rfl) (Nat.le_of_ble_eq_true rfl) dX3_readLine_186
      have w166998 := cv_ne (rfl : z166947.toInt = z166947.toInt) (by decide : (1 : Int32).toInt = 1) c166995
      by_cases c166999 : z166947 = 2
      · have w167000 := cv_eq (rfl : z166947.toInt = z166947.toInt) (by decide : (2 : Int32).toInt = 2) c166999
        refine lv_tableIn (off := 64) (tgt := 110) hx hb dX3_readLine_46 (by rw [c166999]; decide) (by rw [c166999]; decide) (by rw [c166999]; decide) (by decide) ?_
        refine lv_aload_n hx hb dX3_readLine_110 rfl (lv_at hl 1 rfl) ?_
        refine t_cVv (n := 0) (C := RX3) (T := TX3) (N := 13) (As := []) (rest := []) X hT (kt468_X3_readWater l G tag L F hT.2.2.2 p0 x0 x1 x2 x3 x4 x5 m0 g0 mx0 gx0 pf0 mx1 gx1 pf1 mx2 gx2 pf2 mx3 gx3 pf3 mx4 gx4 pf4 mx5 gx5 pf5) m0 g0 rfl rfl qw_335 qw_336 qw_337 qw_28 qw_338 ⟨rfl, by decide +kernel, by decide +kernel, by decide +kernel⟩ ⟨Nat.le_of_ble_eq_true rfl, Nat.le_of_ble_eq_true rfl⟩ hl rfl rfl (Nat.le_of_ble_eq_true rfl) dX3_readLine_111 ⟨Nat.le_of_ble_eq_true rfl, Nat.le_of_ble_eq_true rfl⟩ (fun F H locs hT hz167001 => ?_)
        have yz167001 := hz167001
        have pf0 := (yz167001.1 _ 0 (Or.inr (by decide)) (Or.inr (by decide)) (Or.inr (by decide)) (Or.inr (by decide)) (Or.inr (by decide)) (Or.inr (by decide)) (Or.inr (by decide)) (Or.inr (by decide)) (Or.inr (by decide))).trans pf0
        have pf1 := (yz167001.1 _ 1 (Or.inr (by decide)) (Or.inr (by decide)) (Or.inr (by decide)) (Or.inr (by decide)) (Or.inr (by decide)) (Or.inr (by decide)) (Or.inr (by decide)) (Or.inr (by decide)) (Or.inr (by decide))).trans pf1
        have pf2 := (yz167001.1 _ 2 (Or.inl (by rw [g0]; decide)) (Or.inr (by decide)) (Or.inr (by decide)) (Or.inr (by decide)) (Or.inr (by decide)) (Or.inr (by decide)) (Or.inr (by decide)) (Or.inr (by decide)) (Or.inr (by decide))).trans pf2
        have pf3 := (yz167001.1 _ 0 (Or.inr (by decide)) (Or.inr (by decide)) (Or.inr (by decide)) (Or.inr (by decide)) (Or.inr (by decide)) (Or.inr (by decide)) (Or.inr (by decide)) (Or.inr (by decide)) (Or.inr (by decide))).trans pf3
        have pf4 := (yz167001.1 _ 10 (Or.inr (by decide)) (Or.inr (by decide)) (Or.inr (by decide)) (Or.inr (by decide)) (Or.inr (by decide)) (Or.inr (by decide)) (Or.inr (by decide)) (Or.inr (by decide)) (Or.inr (by decide))).trans pf4
        have pf5 := (yz167001.1 _ 11 (Or.inr (by decide)) (Or.inr (by decide)) (Or.inr (by decide)) (Or.inr (by decide)) (Or.inr (by decide)) (Or.inr (by decide)) (Or.inr (by decide)) (Or.inr (by decide)) (Or.inr (by decide))).trans pf5
        have hfr : ∀ b j : Nat, (tag b ≠ 18 ∨ j ≠ 0) → (tag b ≠ 18 ∨ j ≠ 1) → (tag b ≠ 18 ∨ j ≠ 2) → (tag b ≠ 18 ∨ j ≠ 3) → (tag b ≠ 18 ∨ j ≠ 4) → (tag b ≠ 18 ∨ j ≠ 5) → (tag b ≠ 18 ∨ j ≠ 6) → (tag b ≠ 18 ∨ j ≠ 8) → (tag b ≠ 18 ∨ j ≠ 10) → (tag b ≠ 18 ∨ j ≠ 14) → (tag b ≠ 18 ∨ j ≠ 16) → (tag b ≠ 19 ∨ j ≠ 0) → (tag b ≠ 24 ∨ j ≠ 2) → (tag b ≠ 24 ∨ j ≠ 3) → (tag b ≠ 24 ∨ j ≠ 4) → (tag b ≠ 24 ∨ j ≠ 5) → (tag b ≠ 24 ∨ j ≠ 6) → (tag b ≠ 24 ∨ j ≠ 7) → (tag b ≠ 25 ∨ j ≠ 3) → (tag b ≠ 25 ∨ j ≠ 4) → (tag b ≠ 25 ∨ j ≠ 5) → (tag b ≠ 25 ∨ j ≠ 6) → (tag b ≠ 25 ∨ j ≠ 7) → (tag b ≠ 25 ∨ j ≠ 8) → (tag b ≠ 25 ∨ j ≠ 12) → fld F b j = fld Fo b j := fun b j n18_0 n18_1 n18_2 n18_3 n18_4 n18_5 n18_6 n18_8 n18_10 n18_14 n18_16 n19_0 n24_2 n24_3 n24_4 n24_5 n24_6 n24_7 n25_3 n25_4 n25_5 n25_6 n25_7 n25_8 n25_12 => (yz167001.1 b j n24_2 n24_3 n24_4 n24_5 n24_6 n24_7 n25_3 n25_4 n25_7).trans (hfr b j n18_0 n18_1 n18_2 n18_3 n18_4 n18_5 n18_6 n18_8 n18_10 n18_14 n18_16 n19_0 n24_2 n24_3 n24_4 n24_5 n24_6 n24_7 n25_3 n25_4 n25_5 n25_6 n25_7 n25_8 n25_12)
        have hrel := nsr_of (fun j => yz167001.2 _ j (Or.inl gx4)) (fun j => yz167001.2 _ j (Or.inr gx5)) hrel
        refine lv_goto (tgt := 186) hx hb dX3_readLine_114 (by decide) ?_
        exact t_vret hQ X hT ⟨hfr, hrel⟩ (Nat.le_of_ble_eq_true rfl) (Nat.le_of_ble_eq_true rfl) dX3_readLine_186
      have w167002 := cv_ne (rfl : z166947.toInt = z166947.toInt) (by decide : (2 : Int32).toInt = 2) c166999
      by_cases c167003 : z166947 = 3
      · have w167004 := cv_eq (rfl : z166947.toInt = z166947.toInt) (by decide : (3 : Int32).toInt = 3) c167003
        refine lv_tableIn (off := 71) (tgt := 117) hx hb dX3_readLine_46 (by rw [c167003]; decide) (by rw [c167003]; decide) (by rw [c167003]; decide) (by decide) ?_
        refine lv_aload_n hx hb dX3_readLine_117 rfl (lv_at hl 1 rfl) ?_
        refine t_cVv (n := 0) (C := RX3) (T := TX3) (N := 13) (As := []) (rest := []) X hT (kt472_X3_readStone l G tag L F hT.2.2.2 p0 x0 x1 x2 x3 x4 x5 m0 g0 mx0 gx0 pf0 mx1 gx1 pf1 mx2 gx2 pf2 mx3 gx3 pf3 mx4 gx4 pf4 mx5 gx5 pf5 hrel) m0 g0 rfl rfl qw_352 qw_353 qw_354 qw_28 qw_355 ⟨rfl, by decide +kernel, by decide +kernel, by decide +kernel⟩ ⟨Nat.le_of_ble_eq_true rfl, Nat.le_of_ble_eq_true rfl⟩ hl rfl rfl (Nat.le_of_ble_eq_true rfl) dX3_readLine_118 ⟨Nat.le_of_ble_eq_true rfl, Nat.le_of_ble_eq_true rfl⟩ (fun F H locs hT hz167005 => ?_)
        obtain ⟨yz167005, hrel⟩ := hz167005
        have pf0 := (yz167005 _ 0 (Or.inr (by decide)) (Or.inr (by decide)) (Or.inr (by decide)) (Or.inr (by decide)) (Or.inr (by decide)) (Or.inr (by decide)) (Or.inr (by decide)) (Or.inr (by decide)) (Or.inr (by decide)) (Or.inr (by decide))).trans pf0
        have pf1 := (yz167005 _ 1 (Or.inr (by decide)) (Or.inr (by decide)) (Or.inr (by decide)) (Or.inr (by decide)) (Or.inr (by decide)) (Or.inr (by decide)) (Or.inr (by decide)) (Or.inr (by decide)) (Or.inr (by decide)) (Or.inr (by decide))).trans pf1
        have pf2 := (yz167005 _ 2 (Or.inr (by decide)) (Or.inl (by rw [g0]; decide)) (Or.inr (by decide)) (Or.inr (by decide)) (Or.inr (by decide)) (Or.inr (by decide)) (Or.inr (by decide)) (Or.inr (by decide)) (Or.inr (by decide)) (Or.inr (by decide))).trans pf2
        have pf3 := (yz167005 _ 0 (Or.inr (by decide)) (Or.inr (by decide)) (Or.inr (by decide)) (Or.inr (by decide)) (Or.inr (by decide)) (Or.inr (by decide)) (Or.inr (by decide)) (Or.inr (by decide)) (Or.inr (by decide)) (Or.inr (by decide))).trans pf3
        have pf4 := (yz167005 _ 10 (Or.inr (by decide)) (Or.inr (by decide)) (Or.inr (by decide)) (Or.inr (by decide)) (Or.inr (by decide)) (Or.inr (by decide)) (Or.inr (by decide)) (Or.inr (by decide)) (Or.inr (by decide)) (Or.inr (by decide))).trans pf4
        have pf5 := (yz167005 _ 11 (Or.inr (by decide)) (Or.inr (by decide)) (Or.inr (by decide)) (Or.inr (by decide)) (Or.inr (by decide)) (Or.inr (by decide)) (Or.inr (by decide)) (Or.inr (by decide)) (Or.inr (by decide)) (Or.inr (by decide))).trans pf5
        have hfr : ∀ b j : Nat, (tag b ≠ 18 ∨ j ≠ 0) → (tag b ≠ 18 ∨ j ≠ 1) → (tag b ≠ 18 ∨ j ≠ 2) → (tag b ≠ 18 ∨ j ≠ 3) → (tag b ≠ 18 ∨ j ≠ 4) → (tag b ≠ 18 ∨ j ≠ 5) → (tag b ≠ 18 ∨ j ≠ 6) → (tag b ≠ 18 ∨ j ≠ 8) → (tag b ≠ 18 ∨ j ≠ 10) → (tag b ≠ 18 ∨ j ≠ 14) → (tag b ≠ 18 ∨ j ≠ 16) → (tag b ≠ 19 ∨ j ≠ 0) → (tag b ≠ 24 ∨ j ≠ 2) → (tag b ≠ 24 ∨ j ≠ 3) → (tag b ≠ 24 ∨ j ≠ 4) → (tag b ≠ 24 ∨ j ≠ 5) → (tag b ≠ 24 ∨ j ≠ 6) → (tag b ≠ 24 ∨ j ≠ 7) → (tag b ≠ 25 ∨ j ≠ 3) → (tag b ≠ 25 ∨ j ≠ 4) → (tag b ≠ 25 ∨ j ≠ 5) → (tag b ≠ 25 ∨ j ≠ 6) → (tag b ≠ 25 ∨ j ≠ 7) → (tag b ≠ 25 ∨ j ≠ 8) → (tag b ≠ 25 ∨ j ≠ 12) → fld F b j = fld Fo b j := fun b j n18_0 n18_1 n18_2 n18_3 n18_4 n18_5 n18_6 n18_8 n18_10 n18_14 n18_16 n19_0 n24_2 n24_3 n24_4 n24_5 n24_6 n24_7 n25_3 n25_4 n25_5 n25_6 n25_7 n25_8 n25_12 => (yz167005 b j n18_8 n24_2 n24_3 n24_4 n24_5 n24_6 n24_7 n25_3 n25_4 n25_12).trans (hfr b j n18_0 n18_1 n18_2 n18_3 n18_4 n18_5 n18_6 n18_8 n18_10 n18_14 n18_16 n19_0 n24_2 n24_3 n24_4 n24_5 n24_6 n24_7 n25_3 n25_4 n25_5 n25_6 n25_7 n25_8 n25_12)
        refine lv_goto (tgt := 186) hx hb dX3_readLine_121 (by decide) ?_
        exact t_vret hQ X hT ⟨hfr, hrel⟩ (Nat.le_of_ble_eq_true rfl) (Nat.le_of_ble_eq_true rfl) dX3_readLine_186
      have w167006 := cv_ne (rfl : z166947.toInt = z166947.toInt) (by decide : (3 : Int32).toInt = 3) c167003
      by_cases c167007 : z166947 = 4
      · have w167008 := cv_eq (rfl : z166947.toInt = z166947.toInt) (by decide : (4 : Int32).toInt = 4) c167007
        exfalso
        omega
      have w167009 := cv_ne (rfl : z166947.toInt = z166947.toInt) (by decide : (4 : Int32).toInt = 4) c167007
      by_cases c167010 : z166947 = 5
      · have w167011 := cv_eq (rfl : z166947.toInt = z166947.toInt) (by decide : (5 : Int32).toInt = 5) c167010
        refine lv_tableIn (off := 85) (tgt := 131) hx hb dX3_readLine_46 (by rw [c167010]; decide) (by rw [c167010]; decide) (by rw [c167010]; decide) (by decide) ?_
        refine lv_aload_n hx hb dX3_readLine_131 rfl (lv_at hl 1 rfl) ?_
        refine t_cVv (n := 0) (C := RX3) (T := TX3) (N := 13) (As := []) (rest := []) X hT (kt474_X3_readSkin l G tag L F hT.2.2.2 p0 x0 x1 x2 x3 x4 x5 m0 g0 mx0 gx0 pf0 mx1 gx1 pf1 mx2 gx2 pf2 mx3 gx3 pf3 mx4 gx4 pf4 mx5 gx5 pf5 hrel) m0 g0 rfl rfl qw_397 qw_398 qw_399 qw_28 qw_400 ⟨rfl, by decide +kernel, by decide +kernel, by decide +kernel⟩ ⟨Nat.le_of_ble_eq_true rfl, Nat.le_of_ble_eq_true rfl⟩ hl rfl rfl (Nat.le_of_ble_eq_true rfl) dX3_readLine_132 ⟨Nat.le_of_ble_eq_true rfl, Nat.le_of_ble_eq_true rfl⟩ (fun F H locs hT hz167012 => ?_)
        obtain ⟨yz167012, hrel⟩ := hz167012
        have pf0 := (yz167012.1 _ 0 (Or.inr (by decide)) (Or.inr (by decide)) (Or.inr (by decide)) (Or.inr (by decide)) (Or.inr (by decide)) (Or.inr (by decide)) (Or.inr (by decide)) (Or.inr (by decide))).trans pf0
        have pf1 := (yz167012.1 _ 1 (Or.inr (by decide)) (Or.inr (by decide)) (Or.inr (by decide)) (Or.inr (by decide)) (Or.inr (by decide)) (Or.inr (by decide)) (Or.inr (by decide)) (Or.inr (by decide))).trans pf1
        have pf2 := (yz167012.1 _ 2 (Or.inl (by rw [g0]; decide)) (Or.inr (by decide)) (Or.inr (by decide)) (Or.inr (by decide)) (Or.inr (by decide)) (Or.inr (by decide)) (Or.inr (by decide)) (Or.inr (by decide))).trans pf2
        have pf3 := (yz167012.1 _ 0 (Or.inr (by decide)) (Or.inr (by decide)) (Or.inr (by decide)) (Or.inr (by decide)) (Or.inr (by decide)) (Or.inr (by decide)) (Or.inr (by decide)) (Or.inr (by decide))).trans pf3
        have pf4 := (yz167012.1 _ 10 (Or.inr (by decide)) (Or.inr (by decide)) (Or.inr (by decide)) (Or.inr (by decide)) (Or.inr (by decide)) (Or.inr (by decide)) (Or.inr (by decide)) (Or.inr (by decide))).trans pf4
        have pf5 := (yz167012.1 _ 11 (Or.inr (by decide)) (Or.inr (by decide)) (Or.inr (by decide)) (Or.inr (by decide)) (Or.inr (by decide)) (Or.inr (by decide)) (Or.inr (by decide)) (Or.inr (by decide))).trans pf5
        have hfr : ∀ b j : Nat, (tag b ≠ 18 ∨ j ≠ 0) → (tag b ≠ 18 ∨ j ≠ 1) → (tag b ≠ 18 ∨ j ≠ 2) → (tag b ≠ 18 ∨ j ≠ 3) → (tag b ≠ 18 ∨ j ≠ 4) → (tag b ≠ 18 ∨ j ≠ 5) → (tag b ≠ 18 ∨ j ≠ 6) → (tag b ≠ 18 ∨ j ≠ 8) → (tag b ≠ 18 ∨ j ≠ 10) → (tag b ≠ 18 ∨ j ≠ 14) → (tag b ≠ 18 ∨ j ≠ 16) → (tag b ≠ 19 ∨ j ≠ 0) → (tag b ≠ 24 ∨ j ≠ 2) → (tag b ≠ 24 ∨ j ≠ 3) → (tag b ≠ 24 ∨ j ≠ 4) → (tag b ≠ 24 ∨ j ≠ 5) → (tag b ≠ 24 ∨ j ≠ 6) → (tag b ≠ 24 ∨ j ≠ 7) → (tag b ≠ 25 ∨ j ≠ 3) → (tag b ≠ 25 ∨ j ≠ 4) → (tag b ≠ 25 ∨ j ≠ 5) → (tag b ≠ 25 ∨ j ≠ 6) → (tag b ≠ 25 ∨ j ≠ 7) → (tag b ≠ 25 ∨ j ≠ 8) → (tag b ≠ 25 ∨ j ≠ 12) → fld F b j = fld Fo b j := fun b j n18_0 n18_1 n18_2 n18_3 n18_4 n18_5 n18_6 n18_8 n18_10 n18_14 n18_16 n19_0 n24_2 n24_3 n24_4 n24_5 n24_6 n24_7 n25_3 n25_4 n25_5 n25_6 n25_7 n25_8 n25_12 => (yz167012.1 b j n24_2 n24_3 n24_4 n24_5 n24_6 n24_7 n25_3 n25_4).trans (hfr b j n18_0 n18_1 n18_2 n18_3 n18_4 n18_5 n18_6 n18_8 n18_10 n18_14 n18_16 n19_0 n24_2 n24_3 n24_4 n24_5 n24_6 n24_7 n25_3 n25_4 n25_5 n25_6 n25_7 n25_8 n25_12)
        refine lv_goto (tgt := 186) hx hb dX3_readLine_135 (by decide) ?_
        exact t_vret hQ X hT ⟨hfr, hrel⟩ (Nat.le_of_ble_eq_true rfl) (Nat.le_of_ble_eq_true rfl) dX3_readLine_186
      have w167013 := cv_ne (rfl : z166947.toInt = z166947.toInt) (by decide : (5 : Int32).toInt = 5) c167010
      by_cases c167014 : z166947 = 6
      · have w167015 := cv_eq (rfl : z166947.toInt = z166947.toInt) (by decide : (6 : Int32).toInt = 6) c167014
        refine lv_tableIn (off := 92) (tgt := 138) hx hb dX3_readLine_46 (by rw [c167014]; decide) (by rw [c167014]; decide) (by rw [c167014]; decide) (by decide) ?_
        refine lv_aload_n hx hb dX3_readLine_138 rfl (lv_at hl 1 rfl) ?_
        refine t_cVv (n := 0) (C := RX3) (T := TX3) (N := 13) (As := []) (rest := []) X hT (kt448_X3_readHeir l G tag L F hT.2.2.2 p0 x0 x1 x2 x3 x4 x5 m0 g0 mx0 gx0 pf0 mx1 gx1 pf1 mx2 gx2 pf2 mx3 gx3 pf3 mx4 gx4 pf4 mx5 gx5 pf5 hrel) m0 g0 rfl rfl qw_426 qw_427 qw_428 qw_28 qw_429 ⟨rfl, by decide +kernel, by decide +kernel, by decide +kernel⟩ ⟨Nat.le_of_ble_eq_true rfl, Nat.le_of_ble_eq_true rfl⟩ hl rfl rfl (Nat.le_of_ble_eq_true rfl) dX3_readLine_139 ⟨Nat.le_of_ble_eq_true rfl, Nat.le_of_ble_eq_true rfl⟩ (fun F H locs hT hz167016 => ?_)
        obtain ⟨yz167016, hrel⟩ := hz167016
        have pf0 := (yz167016 _ 0 (Or.inr (by decide)) (Or.inr (by decide)) (Or.inr (by decide)) (Or.inr (by decide)) (Or.inr (by decide)) (Or.inr (by decide)) (Or.inr (by decide)) (Or.inr (by decide)) (Or.inr (by decide)) (Or.inr (by decide))).trans pf0
        have pf1 := (yz167016 _ 1 (Or.inr (by decide)) (Or.inr (by decide)) (Or.inr (by decide)) (Or.inr (by decide)) (Or.inr (by decide)) (Or.inr (by decide)) (Or.inr (by decide)) (Or.inr (by decide)) (Or.inr (by decide)) (Or.inr (by decide))).trans pf1
        have pf2 := (yz167016 _ 2 (Or.inr (by decide)) (Or.inl (by rw [g0]; decide)) (Or.inr (by decide)) (Or.inr (by decide)) (Or.inr (by decide)) (Or.inr (by decide)) (Or.inr (by decide)) (Or.inr (by decide)) (Or.inr (by decide)) (Or.inr (by decide))).trans pf2
        have pf3 := (yz167016 _ 0 (Or.inr (by decide)) (Or.inr (by decide)) (Or.inr (by decide)) (Or.inr (by decide)) (Or.inr (by decide)) (Or.inr (by decide)) (Or.inr (by decide)) (Or.inr (by decide)) (Or.inr (by decide)) (Or.inr (by decide))).trans pf3
        have pf4 := (yz167016 _ 10 (Or.inr (by decide)) (Or.inr (by decide)) (Or.inr (by decide)) (Or.inr (by decide)) (Or.inr (by decide)) (Or.inr (by decide)) (Or.inr (by decide)) (Or.inr (by decide)) (Or.inr (by decide)) (Or.inr (by decide))).trans pf4
        have pf5 := (yz167016 _ 11 (Or.inr (by decide)) (Or.inr (by decide)) (Or.inr (by decide)) (Or.inr (by decide)) (Or.inr (by decide)) (Or.inr (by decide)) (Or.inr (by decide)) (Or.inr (by decide)) (Or.inr (by decide)) (Or.inr (by decide))).trans pf5
        have hfr : ∀ b j : Nat, (tag b ≠ 18 ∨ j ≠ 0) → (tag b ≠ 18 ∨ j ≠ 1) → (tag b ≠ 18 ∨ j ≠ 2) → (tag b ≠ 18 ∨ j ≠ 3) → (tag b ≠ 18 ∨ j ≠ 4) → (tag b ≠ 18 ∨ j ≠ 5) → (tag b ≠ 18 ∨ j ≠ 6) → (tag b ≠ 18 ∨ j ≠ 8) → (tag b ≠ 18 ∨ j ≠ 10) → (tag b ≠ 18 ∨ j ≠ 14) → (tag b ≠ 18 ∨ j ≠ 16) → (tag b ≠ 19 ∨ j ≠ 0) → (tag b ≠ 24 ∨ j ≠ 2) → (tag b ≠ 24 ∨ j ≠ 3) → (tag b ≠ 24 ∨ j ≠ 4) → (tag b ≠ 24 ∨ j ≠ 5) → (tag b ≠ 24 ∨ j ≠ 6) → (tag b ≠ 24 ∨ j ≠ 7) → (tag b ≠ 25 ∨ j ≠ 3) → (tag b ≠ 25 ∨ j ≠ 4) → (tag b ≠ 25 ∨ j ≠ 5) → (tag b ≠ 25 ∨ j ≠ 6) → (tag b ≠ 25 ∨ j ≠ 7) → (tag b ≠ 25 ∨ j ≠ 8) → (tag b ≠ 25 ∨ j ≠ 12) → fld F b j = fld Fo b j := fun b j n18_0 n18_1 n18_2 n18_3 n18_4 n18_5 n18_6 n18_8 n18_10 n18_14 n18_16 n19_0 n24_2 n24_3 n24_4 n24_5 n24_6 n24_7 n25_3 n25_4 n25_5 n25_6 n25_7 n25_8 n25_12 => (yz167016 b j n18_14 n24_2 n24_3 n24_4 n24_5 n24_6 n24_7 n25_3 n25_4 n25_12).trans (hfr b j n18_0 n18_1 n18_2 n18_3 n18_4 n18_5 n18_6 n18_8 n18_10 n18_14 n18_16 n19_0 n24_2 n24_3 n24_4 n24_5 n24_6 n24_7 n25_3 n25_4 n25_5 n25_6 n25_7 n25_8 n25_12)
        refine lv_goto (tgt := 186) hx hb dX3_readLine_142 (by decide) ?_
        exact t_vret hQ X hT ⟨hfr, hrel⟩ (Nat.le_of_ble_eq_true rfl) (Nat.le_of_ble_eq_true rfl) dX3_readLine_186
      have w167017 := cv_ne (rfl : z166947.toInt = z166947.toInt) (by decide : (6 : Int32).toInt = 6) c167014
      by_cases c167018 : z166947 = 7
      · have w167019 := cv_eq (rfl : z166947.toInt = z166947.toInt) (by decide : (7 : Int32).toInt = 7) c167018
        exfalso
        omega
      have w167020 := cv_ne (rfl : z166947.toInt = z166947.toInt) (by decide : (7 : Int32).toInt = 7) c167018
      by_cases c167021 : z166947 = 8
      · have w167022 := cv_eq (rfl : z166947.toInt = z166947.toInt) (by decide : (8 : Int32).toInt = 8) c167021
        refine lv_tableIn (off := 106) (tgt := 152) hx hb dX3_readLine_46 (by rw [c167021]; decide) (by rw [c167021]; decide) (by rw [c167021]; decide) (by decide) ?_
        refine lv_aload_n hx hb dX3_readLine_152 rfl (lv_at hl 1 rfl) ?_
        refine t_cVv (n := 0) (C := RX3) (T := TX3) (N := 13) (As := []) (rest := []) X hT (kt476_X3_readOlder l G tag L F hT.2.2.2 p0 x0 x1 x2 x3 x4 x5 m0 g0 mx0 gx0 pf0 mx1 gx1 pf1 mx2 gx2 pf2 mx3 gx3 pf3 mx4 gx4 pf4 mx5 gx5 pf5 hrel) m0 g0 rfl rfl qw_436 qw_437 qw_438 qw_28 qw_439 ⟨rfl, by decide +kernel, by decide +kernel, by decide +kernel⟩ ⟨Nat.le_of_ble_eq_true rfl, Nat.le_of_ble_eq_true rfl⟩ hl rfl rfl (Nat.le_of_ble_eq_true rfl) dX3_readLine_153 ⟨Nat.le_of_ble_eq_true rfl, Nat.le_of_ble_eq_true rfl⟩ (fun F H locs hT hz167023 => ?_)
        obtain ⟨yz167023, hrel⟩ := hz167023
        have pf0 := (yz167023.1 _ 0 (Or.inr (by decide)) (Or.inr (by decide)) (Or.inr (by decide)) (Or.inr (by decide)) (Or.inr (by decide)) (Or.inr (by decide)) (Or.inr (by decide)) (Or.inr (by decide)) (Or.inr (by decide))).trans pf0
        have pf1 := (yz167023.1 _ 1 (Or.inr (by decide)) (Or.inr (by decide)) (Or.inr (by decide)) (Or.inr (by decide)) (Or.inr (by decide)) (Or.inr (by decide)) (Or.inr (by decide)) (Or.inr (by decide)) (Or.inr (by decide))).trans pf1
        have pf2 := (yz167023.1 _ 2 (Or.inl (by rw [g0]; decide)) (Or.inr (by decide)) (Or.inr (by decide)) (Or.inr (by decide)) (Or.inr (by decide)) (Or.inr (by decide)) (Or.inr (by decide)) (Or.inr (by decide)) (Or.inr (by decide))).trans pf2
        have pf3 := (yz167023.1 _ 0 (Or.inr (by decide)) (Or.inr (by decide)) (Or.inr (by decide)) (Or.inr (by decide)) (Or.inr (by decide)) (Or.inr (by decide)) (Or.inr (by decide)) (Or.inr (by decide)) (Or.inr (by decide))).trans pf3
        have pf4 := (yz167023.1 _ 10 (Or.inr (by decide)) (Or.inr (by decide)) (Or.inr (by decide)) (Or.inr (by decide)) (Or.inr (by decide)) (Or.inr (by decide)) (Or.inr (by decide)) (Or.inr (by decide)) (Or.inr (by decide))).trans pf4
        have pf5 := (yz167023.1 _ 11 (Or.inr (by decide)) (Or.inr (by decide)) (Or.inr (by decide)) (Or.inr (by decide)) (Or.inr (by decide)) (Or.inr (by decide)) (Or.inr (by decide)) (Or.inr (by decide)) (Or.inr (by decide))).trans pf5
        have hfr : ∀ b j : Nat, (tag b ≠ 18 ∨ j ≠ 0) → (tag b ≠ 18 ∨ j ≠ 1) → (tag b ≠ 18 ∨ j ≠ 2) → (tag b ≠ 18 ∨ j ≠ 3) → (tag b ≠ 18 ∨ j ≠ 4) → (tag b ≠ 18 ∨ j ≠ 5) → (tag b ≠ 18 ∨ j ≠ 6) → (tag b ≠ 18 ∨ j ≠ 8) → (tag b ≠ 18 ∨ j ≠ 10) → (tag b ≠ 18 ∨ j ≠ 14) → (tag b ≠ 18 ∨ j ≠ 16) → (tag b ≠ 19 ∨ j ≠ 0) → (tag b ≠ 24 ∨ j ≠ 2) → (tag b ≠ 24 ∨ j ≠ 3) → (tag b ≠ 24 ∨ j ≠ 4) → (tag b ≠ 24 ∨ j ≠ 5) → (tag b ≠ 24 ∨ j ≠ 6) → (tag b ≠ 24 ∨ j ≠ 7) → (tag b ≠ 25 ∨ j ≠ 3) → (tag b ≠ 25 ∨ j ≠ 4) → (tag b ≠ 25 ∨ j ≠ 5) → (tag b ≠ 25 ∨ j ≠ 6) → (tag b ≠ 25 ∨ j ≠ 7) → (tag b ≠ 25 ∨ j ≠ 8) → (tag b ≠ 25 ∨ j ≠ 12) → fld F b j = fld Fo b j := fun b j n18_0 n18_1 n18_2 n18_3 n18_4 n18_5 n18_6 n18_8 n18_10 n18_14 n18_16 n19_0 n24_2 n24_3 n24_4 n24_5 n24_6 n24_7 n25_3 n25_4 n25_5 n25_6 n25_7 n25_8 n25_12 => (yz167023.1 b j n24_2 n24_3 n24_4 n24_5 n24_6 n24_7 n25_3 n25_4 n25_8).trans (hfr b j n18_0 n18_1 n18_2 n18_3 n18_4 n18_5 n18_6 n18_8 n18_10 n18_14 n18_16 n19_0 n24_2 n24_3 n24_4 n24_5 n24_6 n24_7 n25_3 n25_4 n25_5 n25_6 n25_7 n25_8 n25_12)
        refine lv_goto (tgt := 186) hx hb dX3_readLine_156 (by decide) ?_
        exact t_vret hQ X hT ⟨hfr, hrel⟩ (Nat.le_of_ble_eq_true rfl) (Nat.le_of_ble_eq_true rfl) dX3_readLine_186
      have w167024 := cv_ne (rfl : z166947.toInt = z166947.toInt) (by decide : (8 : Int32).toInt = 8) c167021
      refine lv_tableOut (tgt := 159) hx hb dX3_readLine_46 (by omega) (by decide) ?_
      refine lv_aload_n hx hb dX3_readLine_159 rfl (lv_at hl 1 rfl) ?_
      refine lv_iload_n hx hb dX3_readLine_160 rfl (lv_at hl 0 rfl) ?_
      refine lv_bipush (v := 9) hx hb dX3_readLine_161 (by decide) ?_
      refine lv_icmp_ne (tgt := 176) hx hb dX3_readLine_163 (by decide) (fun c167025 => ?_) (fun c167025 => ?_)
      · have w167026 := cv_ne (rfl : z166947.toInt = z166947.toInt) (by decide : (9 : Int32).toInt = 9) c167025
        refine lv_aload_n hx hb dX3_readLine_176 rfl (lv_at hl 1 rfl) ?_
        refine t_get (C := RX3) (T := TX3) (N := 13) X hT m0 g0 rfl rfl 1 (by decide) qw_161 inlX3 rfl dX3_readLine_177 (fun v167027 hv167027 ov167027 => ?_)
        obtain rfl : v167027 = .ref x1 := hv167027.symm.trans pf1
        refine t_get (C := RX1) (T := TX1) (N := 20) X hT mx1 gx1 rfl rfl 19 (by decide) qw_229 inlX1 rfl dX3_readLine_180 (fun v167028 hv167028 ov167028 => ?_)
        obtain ⟨b167029, rfl, mb167029, gb167029⟩ := okV_r ov167028
        have gb167029 : tag b167029 = 7 := tg_of gb167029
        refine t_cVv (n := 1) (C := RX3) (T := TX3) (N := 13) (As := [.ref b167029]) (rest := []) X hT (kt477_X3_readYearOfWall l G tag L F hT.2.2.2 p0 b167029 x0 x1 x2 x3 x4 x5 m0 g0 mb167029 gb167029 mx0 gx0 pf0 mx1 gx1 pf1 mx2 gx2 pf2 mx3 gx3 pf3 mx4 gx4 pf4 mx5 gx5 pf5 hrel) m0 g0 rfl rfl qw_445 qw_446 qw_447 qw_28 qw_448 ⟨rfl, by decide +kernel, by decide +kernel, by decide +kernel⟩ ⟨Nat.le_of_ble_eq_true rfl, Nat.le_of_ble_eq_true rfl⟩ hl rfl rfl (Nat.le_of_ble_eq_true rfl) dX3_readLine_183 ⟨Nat.le_of_ble_eq_true rfl, Nat.le_of_ble_eq_true rfl⟩ (fun F H locs hT hz167030 => ?_)
        obtain ⟨yz167030, hrel⟩ := hz167030
        have pf0 := (yz167030.1 _ 0 (Or.inr (by decide)) (Or.inr (by decide)) (Or.inr (by decide)) (Or.inr (by decide)) (Or.inr (by decide)) (Or.inr (by decide)) (Or.inr (by decide)) (Or.inr (by decide))).trans pf0
        have pf1 := (yz167030.1 _ 1 (Or.inr (by decide)) (Or.inr (by decide)) (Or.inr (by decide)) (Or.inr (by decide)) (Or.inr (by decide)) (Or.inr (by decide)) (Or.inr (by decide)) (Or.inr (by decide))).trans pf1
        have pf2 := (yz167030.1 _ 2 (Or.inl (by rw [g0]; decide)) (Or.inr (by decide)) (Or.inr (by decide)) (Or.inr (by decide)) (Or.inr (by decide)) (Or.inr (by decide)) (Or.inr (by decide)) (Or.inr (by decide))).trans pf2
        have pf3 := (yz167030.1 _ 0 (Or.inr (by decide)) (Or.inr (by decide)) (Or.inr (by decide)) (Or.inr (by decide)) (Or.inr (by decide)) (Or.inr (by decide)) (Or.inr (by decide)) (Or.inr (by decide))).trans pf3
        have pf4 := (yz167030.1 _ 10 (Or.inr (by decide)) (Or.inr (by decide)) (Or.inr (by decide)) (Or.inr (by decide)) (Or.inr (by decide)) (Or.inr (by decide)) (Or.inr (by decide)) (Or.inr (by decide))).trans pf4
        have pf5 := (yz167030.1 _ 11 (Or.inr (by decide)) (Or.inr (by decide)) (Or.inr (by decide)) (Or.inr (by decide)) (Or.inr (by decide)) (Or.inr (by decide)) (Or.inr (by decide)) (Or.inr (by decide))).trans pf5
        have hv167028 := (yz167030.1 _ 19 (Or.inr (by decide)) (Or.inr (by decide)) (Or.inr (by decide)) (Or.inr (by decide)) (Or.inr (by decide)) (Or.inr (by decide)) (Or.inr (by decide)) (Or.inr (by decide))).trans hv167028
        have hfr : ∀ b j : Nat, (tag b ≠ 18 ∨ j ≠ 0) → (tag b ≠ 18 ∨ j ≠ 1) → (tag b ≠ 18 ∨ j ≠ 2) → (tag b ≠ 18 ∨ j ≠ 3) → (tag b ≠ 18 ∨ j ≠ 4) → (tag b ≠ 18 ∨ j ≠ 5) → (tag b ≠ 18 ∨ j ≠ 6) → (tag b ≠ 18 ∨ j ≠ 8) → (tag b ≠ 18 ∨ j ≠ 10) → (tag b ≠ 18 ∨ j ≠ 14) → (tag b ≠ 18 ∨ j ≠ 16) → (tag b ≠ 19 ∨ j ≠ 0) → (tag b ≠ 24 ∨ j ≠ 2) → (tag b ≠ 24 ∨ j ≠ 3) → (tag b ≠ 24 ∨ j ≠ 4) → (tag b ≠ 24 ∨ j ≠ 5) → (tag b ≠ 24 ∨ j ≠ 6) → (tag b ≠ 24 ∨ j ≠ 7) → (tag b ≠ 25 ∨ j ≠ 3) → (tag b ≠ 25 ∨ j ≠ 4) → (tag b ≠ 25 ∨ j ≠ 5) → (tag b ≠ 25 ∨ j ≠ 6) → (tag b ≠ 25 ∨ j ≠ 7) → (tag b ≠ 25 ∨ j ≠ 8) → (tag b ≠ 25 ∨ j ≠ 12) → fld F b j = fld Fo b j := fun b j n18_0 n18_1 n18_2 n18_3 n18_4 n18_5 n18_6 n18_8 n18_10 n18_14 n18_16 n19_0 n24_2 n24_3 n24_4 n24_5 n24_6 n24_7 n25_3 n25_4 n25_5 n25_6 n25_7 n25_8 n25_12 => (yz167030.1 b j n24_2 n24_3 n24_4 n24_5 n24_6 n24_7 n25_3 n25_4).trans (hfr b j n18_0 n18_1 n18_2 n18_3 n18_4 n18_5 n18_6 n18_8 n18_10 n18_14 n18_16 n19_0 n24_2 n24_3 n24_4 n24_5 n24_6 n24_7 n25_3 n25_4 n25_5 n25_6 n25_7 n25_8 n25_12)
        exact t_vret hQ X hT ⟨hfr, hrel⟩ (Nat.le_of_ble_eq_true rfl) (Nat.le_of_ble_eq_true rfl) dX3_readLine_186
      · have w167031 := cv_eq (rfl : z166947.toInt = z166947.toInt) (by decide : (9 : Int32).toInt = 9) c167025
        refine lv_aload_n hx hb dX3_readLine_166 rfl (lv_at hl 1 rfl) ?_
        refine t_get (C := RX3) (T := TX3) (N := 13) X hT m0 g0 rfl rfl 1 (by decide) qw_161 inlX3 rfl dX3_readLine_167 (fun v167032 hv167032 ov167032 => ?_)
        obtain rfl : v167032 = .ref x1 := hv167032.symm.trans pf1
        refine t_get (C := RX1) (T := TX1) (N := 20) X hT mx1 gx1 rfl rfl 18 (by decide) qw_228 inlX1 rfl dX3_readLine_170 (fun v167033 hv167033 ov167033 => ?_)
        obtain ⟨b167034, rfl, mb167034, gb167034⟩ := okV_r ov167033
        have gb167034 : tag b167034 = 7 := tg_of gb167034
        refine lv_goto (tgt := 183) hx hb dX3_readLine_173 (by decide) ?_
        refine t_cVv (n := 1) (C := RX3) (T := TX3) (N := 13) (As := [.ref b167034]) (rest := []) X hT (kt477_X3_readYearOfWall l G tag L F hT.2.2.2 p0 b167034 x0 x1 x2 x3 x4 x5 m0 g0 mb167034 gb167034 mx0 gx0 pf0 mx1 gx1 pf1 mx2 gx2 pf2 mx3 gx3 pf3 mx4 gx4 pf4 mx5 gx5 pf5 hrel) m0 g0 rfl rfl qw_445 qw_446 qw_447 qw_28 qw_448 ⟨rfl, by decide +kernel, by decide +kernel, by decide +kernel⟩ ⟨Nat.le_of_ble_eq_true rfl, Nat.le_of_ble_eq_true rfl⟩ hl rfl rfl (Nat.le_of_ble_eq_true rfl) dX3_readLine_183 ⟨Nat.le_of_ble_eq_true rfl, Nat.le_of_ble_eq_true rfl⟩ (fun F H locs hT hz167035 => ?_)
        obtain ⟨yz167035, hrel⟩ := hz167035
        have pf0 := (yz167035.1 _ 0 (Or.inr (by decide)) (Or.inr (by decide)) (Or.inr (by decide)) (Or.inr (by decide)) (Or.inr (by decide)) (Or.inr (by decide)) (Or.inr (by decide)) (Or.inr (by decide))).trans pf0
        have pf1 := (yz167035.1 _ 1 (Or.inr (by decide)) (Or.inr (by decide)) (Or.inr (by decide)) (Or.inr (by decide)) (Or.inr (by decide)) (Or.inr (by decide)) (Or.inr (by decide)) (Or.inr (by decide))).trans pf1
        have pf2 := (yz167035.1 _ 2 (Or.inl (by rw [g0]; decide)) (Or.inr (by decide)) (Or.inr (by decide)) (Or.inr (by decide)) (Or.inr (by decide)) (Or.inr (by decide)) (Or.inr (by decide)) (Or.inr (by decide))).trans pf2
        have pf3 := (yz167035.1 _ 0 (Or.inr (by decide)) (Or.inr (by decide)) (Or.inr (by decide)) (Or.inr (by decide)) (Or.inr (by decide)) (Or.inr (by decide)) (Or.inr (by decide)) (Or.inr (by decide))).trans pf3
        have pf4 := (yz167035.1 _ 10 (Or.inr (by decide)) (Or.inr (by decide)) (Or.inr (by decide)) (Or.inr (by decide)) (Or.inr (by decide)) (Or.inr (by decide)) (Or.inr (by decide)) (Or.inr (by decide))).trans pf4
        have pf5 := (yz167035.1 _ 11 (Or.inr (by decide)) (Or.inr (by decide)) (Or.inr (by decide)) (Or.inr (by decide)) (Or.inr (by decide)) (Or.inr (by decide)) (Or.inr (by decide)) (Or.inr (by decide))).trans pf5
        have hv167033 := (yz167035.1 _ 18 (Or.inr (by decide)) (Or.inr (by decide)) (Or.inr (by decide)) (Or.inr (by decide)) (Or.inr (by decide)) (Or.inr (by decide)) (Or.inr (by decide)) (Or.inr (by decide))).trans hv167033
        have hfr : ∀ b j : Nat, (tag b ≠ 18 ∨ j ≠ 0) → (tag b ≠ 18 ∨ j ≠ 1) → (tag b ≠ 18 ∨ j ≠ 2) → (tag b ≠ 18 ∨ j ≠ 3) → (tag b ≠ 18 ∨ j ≠ 4) → (tag b ≠ 18 ∨ j ≠ 5) → (tag b ≠ 18 ∨ j ≠ 6) → (tag b ≠ 18 ∨ j ≠ 8) → (tag b ≠ 18 ∨ j ≠ 10) → (tag b ≠ 18 ∨ j ≠ 14) → (tag b ≠ 18 ∨ j ≠ 16) → (tag b ≠ 19 ∨ j ≠ 0) → (tag b ≠ 24 ∨ j ≠ 2) → (tag b ≠ 24 ∨ j ≠ 3) → (tag b ≠ 24 ∨ j ≠ 4) → (tag b ≠ 24 ∨ j ≠ 5) → (tag b ≠ 24 ∨ j ≠ 6) → (tag b ≠ 24 ∨ j ≠ 7) → (tag b ≠ 25 ∨ j ≠ 3) → (tag b ≠ 25 ∨ j ≠ 4) → (tag b ≠ 25 ∨ j ≠ 5) → (tag b ≠ 25 ∨ j ≠ 6) → (tag b ≠ 25 ∨ j ≠ 7) → (tag b ≠ 25 ∨ j ≠ 8) → (tag b ≠ 25 ∨ j ≠ 12) → fld F b j = fld Fo b j := fun b j n18_0 n18_1 n18_2 n18_3 n18_4 n18_5 n18_6 n18_8 n18_10 n18_14 n18_16 n19_0 n24_2 n24_3 n24_4 n24_5 n24_6 n24_7 n25_3 n25_4 n25_5 n25_6 n25_7 n25_8 n25_12 => (yz167035.1 b j n24_2 n24_3 n24_4 n24_5 n24_6 n24_7 n25_3 n25_4).trans (hfr b j n18_0 n18_1 n18_2 n18_3 n18_4 n18_5 n18_6 n18_8 n18_10 n18_14 n18_16 n19_0 n24_2 n24_3 n24_4 n24_5 n24_6 n24_7 n25_3 n25_4 n25_5 n25_6 n25_7 n25_8 n25_12)
        exact t_vret hQ X hT ⟨hfr, hrel⟩ (Nat.le_of_ble_eq_true rfl) (Nat.le_of_ble_eq_true rfl) dX3_readLine_186
    · have w167036 := cv_ne (rfl : z166986.toInt = z166986.toInt) (by decide : (0 : Int32).toInt = 0) c166987
      exact t_vret hQ X hT ⟨hfr, hrel⟩ (Nat.le_of_ble_eq_true rfl) (Nat.le_of_ble_eq_true rfl) dX3_readLine_37
  · have w167037 := cv_eq (rfl : z166947.toInt = z166947.toInt) (by decide : ((-1) : Int32).toInt = (-1)) c166948
    refine lv_aload_n hx hb dX3_readLine_10 rfl (lv_at hl 1 rfl) ?_
    refine lv_iconst (v := 1) hx hb dX3_readLine_11 (by decide) ?_
    refine lv_aload_n hx hb dX3_readLine_12 rfl (lv_at hl 1 rfl) ?_
    refine t_get (C := RX3) (T := TX3) (N := 13) X hT m0 g0 rfl rfl 0 (by decide) qw_73 inlX3 rfl dX3_readLine_13 (fun v167038 hv167038 ov167038 => ?_)
    obtain rfl : v167038 = .ref x0 := hv167038.symm.trans pf0
    refine t_get (C := RX8) (T := TX8) (N := 8) X hT mx0 gx0 rfl rfl 4 (by decide) qw_227 inlX8 rfl dX3_readLine_16 (fun v167039 hv167039 ov167039 => ?_)
    obtain ⟨z167040, rfl, rz167040⟩ := okV_i ov167039
    refine t_cVv (n := 2) (C := RX3) (T := TX3) (N := 13) (As := [.int 1, .int z167040]) (rest := []) X hT (kt432_X3_fail l G tag L F hT.2.2.2 p0 1 z167040 m0 g0 (by decide)) m0 g0 rfl rfl qw_287 qw_288 qw_289 qw_28 qw_290 ⟨rfl, by decide +kernel, by decide +kernel, by decide +kernel⟩ ⟨Nat.le_of_ble_eq_true rfl, Nat.le_of_ble_eq_true rfl⟩ hl rfl rfl (Nat.le_of_ble_eq_true rfl) dX3_readLine_19 ⟨Nat.le_of_ble_eq_true rfl, Nat.le_of_ble_eq_true rfl⟩ (fun F H locs hT hz167041 => ?_)
    obtain ⟨yz167041, xz167041_0⟩ := hz167041
    have pf0 := (yz167041.1 _ 0 (Or.inr (by decide)) (Or.inr (by decide))).trans pf0
    have pf1 := (yz167041.1 _ 1 (Or.inr (by decide)) (Or.inr (by decide))).trans pf1
    have pf2 := (yz167041.1 _ 2 (Or.inr (by decide)) (Or.inr (by decide))).trans pf2
    have pf3 := (yz167041.1 _ 0 (Or.inr (by decide)) (Or.inr (by decide))).trans pf3
    have pf4 := (yz167041.1 _ 10 (Or.inr (by decide)) (Or.inr (by decide))).trans pf4
    have pf5 := (yz167041.1 _ 11 (Or.inr (by decide)) (Or.inr (by decide))).trans pf5
    have hv167039 := (yz167041.1 _ 4 (Or.inr (by decide)) (Or.inl (by rw [gx0]; decide))).trans hv167039
    have hfr : ∀ b j : Nat, (tag b ≠ 18 ∨ j ≠ 0) → (tag b ≠ 18 ∨ j ≠ 1) → (tag b ≠ 18 ∨ j ≠ 2) → (tag b ≠ 18 ∨ j ≠ 3) → (tag b ≠ 18 ∨ j ≠ 4) → (tag b ≠ 18 ∨ j ≠ 5) → (tag b ≠ 18 ∨ j ≠ 6) → (tag b ≠ 18 ∨ j ≠ 8) → (tag b ≠ 18 ∨ j ≠ 10) → (tag b ≠ 18 ∨ j ≠ 14) → (tag b ≠ 18 ∨ j ≠ 16) → (tag b ≠ 19 ∨ j ≠ 0) → (tag b ≠ 24 ∨ j ≠ 2) → (tag b ≠ 24 ∨ j ≠ 3) → (tag b ≠ 24 ∨ j ≠ 4) → (tag b ≠ 24 ∨ j ≠ 5) → (tag b ≠ 24 ∨ j ≠ 6) → (tag b ≠ 24 ∨ j ≠ 7) → (tag b ≠ 25 ∨ j ≠ 3) → (tag b ≠ 25 ∨ j ≠ 4) → (tag b ≠ 25 ∨ j ≠ 5) → (tag b ≠ 25 ∨ j ≠ 6) → (tag b ≠ 25 ∨ j ≠ 7) → (tag b ≠ 25 ∨ j ≠ 8) → (tag b ≠ 25 ∨ j ≠ 12) → fld F b j = fld Fo b j := fun b j n18_0 n18_1 n18_2 n18_3 n18_4 n18_5 n18_6 n18_8 n18_10 n18_14 n18_16 n19_0 n24_2 n24_3 n24_4 n24_5 n24_6 n24_7 n25_3 n25_4 n25_5 n25_6 n25_7 n25_8 n25_12 => (yz167041.1 b j n25_3 n25_4).trans (hfr b j n18_0 n18_1 n18_2 n18_3 n18_4 n18_5 n18_6 n18_8 n18_10 n18_14 n18_16 n19_0 n24_2 n24_3 n24_4 n24_5 n24_6 n24_7 n25_3 n25_4 n25_5 n25_6 n25_7 n25_8 n25_12)
    have hrel := nsr_of (fun j => yz167041.2 _ j (Or.inl gx4)) (fun j => yz167041.2 _ j (Or.inr gx5)) hrel
    obtain ⟨z167042, qz167042, rz167042⟩ := xz167041_0
    refine lv_goto (tgt := 30) hx hb dX3_readLine_22 (by decide) ?_
    refine lv_aload_n hx hb dX3_readLine_30 rfl (lv_at hl 1 rfl) ?_
    refine t_get (C := RX3) (T := TX3) (N := 13) X hT m0 g0 rfl rfl 3 (by decide) qw_163 inlX3 rfl dX3_readLine_31 (fun v167043 hv167043 ov167043 => ?_)
    obtain rfl : v167043 = .int z167042 := hv167043.symm.trans qz167042
    refine lv_if_eq (tgt := 38) hx hb dX3_readLine_34 (by decide) (fun c167044 => ?_) (fun c167044 => ?_)
    · have w167045 := cv_eq (rfl : z167042.toInt = z167042.toInt) (by decide : (0 : Int32).toInt = 0) c167044
      exfalso
      omega
    · have w167046 := cv_ne (rfl : z167042.toInt = z167042.toInt) (by decide : (0 : Int32).toInt = 0) c167044
      exact t_vret hQ X hT ⟨hfr, hrel⟩ (Nat.le_of_ble_eq_true rfl) (Nat.le_of_ble_eq_true rfl) dX3_readLine_37
