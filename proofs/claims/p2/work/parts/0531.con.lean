set_option maxHeartbeats 4000000 in
set_option maxRecDepth 100000 in
theorem kt171_X11_round (l : Launch) (G : KG) (tag : Nat → Nat) (L : List Nat) (Fo : Nat → va_E) (ho : okT G ttC tag L Fo) (p0 : Nat) (p1 : Int32) (p2 : Int32) (m0 : p0 ∈ L) (g0 : tag p0 = 26) : TMi l yX11_round cX11_round 3 (some .int) { frames := 3, cells := 0, slots := 0, locals := 68 } G ttC tag L Fo [.ref p0, .int p1, .int p2] (fun r F1 => ((-2147483648) ≤ r.toInt ∧ r.toInt ≤ 2147483647) ∧ ((∀ b j : Nat, (tag b ≠ 26 ∨ j ≠ 13) → fld F1 b j = fld Fo b j) ∧ EF tag F1 Fo)) := by
  refine t_bodyi (y := yX11_round) (cd := cX11_round) (mL := 3) (rt := (some .int)) (rm := { frames := 3, cells := 0, slots := 0, locals := 68 }) (av := [.ref p0, .int p1, .int p2]) (by decide) (Nat.le_of_ble_eq_true rfl) ho ?_
  intro p e s m args below meth c ls A Q hQ X hT hl
  have hx := X.1.1
  have hb := X.1.2.1
  have hl : lv_has ls 3 [(0, .ref p0), (1, .int p1), (2, .int p2)] := hl
  have rp1 := rg_all p1
  have rp2 := rg_all p2
  obtain ⟨F, hFo⟩ : ∃ F : Nat → va_E, F = Fo := ⟨_, rfl⟩
  rw [← hFo] at hT
  have hfr : (∀ b j : Nat, (tag b ≠ 26 ∨ j ≠ 13) → fld F b j = fld Fo b j) ∧ EF tag F Fo := by
    rw [hFo]
    exact ⟨by intros; rfl, fun _ _ _ => rfl⟩
  have K14 : ∀  (F : Nat → va_E) (H : Heap) (locs : List Loc) (ls : Array Slot), TH G ttC A s tag L F H locs → ((∀ b j : Nat, (tag b ≠ 26 ∨ j ≠ 13) → fld F b j = fld Fo b j) ∧ EF tag F Fo) → lv_has ls 3 [(0, .ref p0), (1, .int p1), (2, .int p2)] → W p l e { frames := 3, cells := 0, slots := 0, locals := 68 } s m args below meth c H locs 0 0 Q (F0 m 14 ls []) := by
    intro F H locs ls hT hfr hl
    refine lv_aload_n hx hb dX11_round_14 rfl (lv_at hl 0 rfl) ?_
    refine lv_iconst (v := 1) hx hb dX11_round_15 (by decide) ?_
    refine t_cVi (n := 1) (C := RX11) (T := TX11) (N := 16) (As := [.int 1]) (rest := []) X hT (kt63_X11_refuse l G tag L F hT.2.2.2 p0 1 m0 g0) m0 g0 rfl rfl qw_152 qw_153 qw_154 qw_2 qw_155 ⟨rfl, by decide +kernel, by decide +kernel, by decide +kernel⟩ ⟨Nat.le_of_ble_eq_true rfl, Nat.le_of_ble_eq_true rfl⟩ hl rfl rfl (Nat.le_of_ble_eq_true rfl) dX11_round_16 ⟨Nat.le_of_ble_eq_true rfl, Nat.le_of_ble_eq_true rfl⟩ (fun z74848 F H locs hT hz74848 => ?_)
    obtain ⟨hz74848, yz74848⟩ := hz74848
    have hfr : (∀ b j : Nat, (tag b ≠ 26 ∨ j ≠ 13) → fld F b j = fld Fo b j) ∧ EF tag F Fo := ⟨fun b j n26_13 => (yz74848.1 b j n26_13).trans (hfr.1 b j n26_13), fun b j hb => (yz74848.2 b j hb).trans (hfr.2 b j hb)⟩
    exact t_iret hQ X hT (⟨rg_all _, hfr⟩) (Nat.le_of_ble_eq_true rfl) (Nat.le_of_ble_eq_true rfl) dX11_round_19
  refine lv_aload_n hx hb dX11_round_0 rfl (lv_at hl 0 rfl) ?_
  refine lv_iload_n hx hb dX11_round_1 rfl (lv_at hl 1 rfl) ?_
  refine lv_iload_n hx hb dX11_round_2 rfl (lv_at hl 2 rfl) ?_
  refine t_cVi (n := 2) (C := RX11) (T := TX11) (N := 16) (As := [.int p1, .int p2]) (rest := []) X hT (kt70_X11_isSkin l G tag L F hT.2.2.2 p0 p1 p2 m0 g0) m0 g0 rfl rfl qw_823 qw_824 qw_825 qw_2 qw_826 ⟨rfl, by decide +kernel, by decide +kernel, by decide +kernel⟩ ⟨Nat.le_of_ble_eq_true rfl, Nat.le_of_ble_eq_true rfl⟩ hl rfl rfl (Nat.le_of_ble_eq_true rfl) dX11_round_3 ⟨Nat.le_of_ble_eq_true rfl, Nat.le_of_ble_eq_true rfl⟩ (fun z74849 F9 H locs hT hz74849 => ?_)
  obtain ⟨fz74849, hz74849⟩ := hz74849
  rw [fz74849] at hT
  obtain ⟨hz74849, iz74849⟩ := hz74849
  refine lv_if_eq (tgt := 14) hx hb dX11_round_6 (by decide) (fun c74850 => ?_) (fun c74850 => ?_)
  · have w74851 := cv_eq (rfl : z74849.toInt = z74849.toInt) (by decide : (0 : Int32).toInt = 0) c74850
    exact K14  _ _ _ _  hT hfr  (lv_sub hl [0, 1, 2] rfl)
  · have w74852 := cv_ne (rfl : z74849.toInt = z74849.toInt) (by decide : (0 : Int32).toInt = 0) c74850
    have w74853 := (fun h => (iz74849 h).1) (by omega)
    have w74854 := (fun h => (iz74849 h).2) (by omega)
    refine lv_iload_n hx hb dX11_round_9 rfl (lv_at hl 2 rfl) ?_
    refine lv_iconst (v := 2) hx hb dX11_round_10 (by decide) ?_
    refine lv_icmp_ge (tgt := 20) hx hb dX11_round_11 (by decide) (fun c74855 => ?_) (fun c74855 => ?_)
    · have w74856 := cv_le (by decide : (2 : Int32).toInt = 2) (rfl : p2.toInt = p2.toInt) c74855
      refine lv_aload_n hx hb dX11_round_20 rfl (lv_at hl 0 rfl) ?_
      refine lv_aload_n hx hb dX11_round_21 rfl (lv_at hl 0 rfl) ?_
      refine t_get (C := RX11) (T := TX11) (N := 16) X hT m0 g0 rfl rfl 5 (by decide) qw_23 inlX11 rfl dX11_round_22 (fun v74857 hv74857 ov74857 => ?_)
      obtain ⟨b74858, rfl, mb74858, gb74858⟩ := okV_r ov74857
      have gb74858 : tag b74858 = 19 := tg_of gb74858
      refine lv_iload_n hx hb dX11_round_25 rfl (lv_at hl 1 rfl) ?_
      refine lv_iload_n hx hb dX11_round_26 rfl (lv_at hl 2 rfl) ?_
      refine t_cVi (n := 2) (C := RX7) (T := TX7) (N := 7) (As := [.int p1, .int p2]) (rest := [.ref p0]) X hT (kt25_X7_roundIn l G tag L F hT.2.2.2 b74858 p1 p2 mb74858 gb74858) mb74858 gb74858 rfl rfl qw_1083 qw_989 qw_990 qw_22 qw_991 ⟨rfl, by decide +kernel, by decide +kernel, by decide +kernel⟩ ⟨Nat.le_of_ble_eq_true rfl, Nat.le_of_ble_eq_true rfl⟩ hl rfl rfl (Nat.le_of_ble_eq_true rfl) dX11_round_27 ⟨Nat.le_of_ble_eq_true rfl, Nat.le_of_ble_eq_true rfl⟩ (fun z74859 F9 H locs hT hz74859 => ?_)
      obtain ⟨fz74859, hz74859⟩ := hz74859
      rw [fz74859] at hT
      refine t_cVi (n := 1) (C := RX11) (T := TX11) (N := 16) (As := [.int z74859]) (rest := []) X hT (kt56_X11_answer l G tag L F hT.2.2.2 p0 z74859 m0 g0) m0 g0 rfl rfl qw_463 qw_464 qw_465 qw_2 qw_466 ⟨rfl, by decide +kernel, by decide +kernel, by decide +kernel⟩ ⟨Nat.le_of_ble_eq_true rfl, Nat.le_of_ble_eq_true rfl⟩ hl rfl rfl (Nat.le_of_ble_eq_true rfl) dX11_round_30 ⟨Nat.le_of_ble_eq_true rfl, Nat.le_of_ble_eq_true rfl⟩ (fun z74860 F H locs hT hz74860 => ?_)
      obtain ⟨hz74860, yz74860⟩ := hz74860
      have hv74857 := (yz74860.1 _ 5 (Or.inr (by decide))).trans hv74857
      have hfr : (∀ b j : Nat, (tag b ≠ 26 ∨ j ≠ 13) → fld F b j = fld Fo b j) ∧ EF tag F Fo := ⟨fun b j n26_13 => (yz74860.1 b j n26_13).trans (hfr.1 b j n26_13), fun b j hb => (yz74860.2 b j hb).trans (hfr.2 b j hb)⟩
      exact t_iret hQ X hT (⟨rg_all _, hfr⟩) (Nat.le_of_ble_eq_true rfl) (Nat.le_of_ble_eq_true rfl) dX11_round_33
    · have w74861 := cv_nle (by decide : (2 : Int32).toInt = 2) (rfl : p2.toInt = p2.toInt) c74855
      exact K14  _ _ _ _  hT hfr  (lv_sub hl [0, 1, 2] rfl)
set_option maxHeartbeats 4000000 in
set_option maxRecDepth 100000 in
theorem kt172_X11_seed (l : Launch) (G : KG) (tag : Nat → Nat) (L : List Nat) (Fo : Nat → va_E) (ho : okT G ttC tag L Fo) (p0 : Nat) (p1 : Int32) (m0 : p0 ∈ L) (g0 : tag p0 = 26) : TMi l yX11_seed cX11_seed 2 (some .boolean) { frames := 1, cells := 0, slots := 0, locals := 21 } G ttC tag L Fo [.ref p0, .int p1] (fun r F1 => (0 ≤ r.toInt ∧ r.toInt ≤ 1) ∧ ((∀ b j : Nat, (tag b ≠ 19 ∨ j ≠ 1) → (tag b ≠ 26 ∨ j ≠ 13) → fld F1 b j = fld Fo b j) ∧ EF tag F1 Fo)) := by
  refine t_bodyi (y := yX11_seed) (cd := cX11_seed) (mL := 2) (rt := (some .boolean)) (rm := { frames := 1, cells := 0, slots := 0, locals := 21 }) (av := [.ref p0, .int p1]) (by decide) (Nat.le_of_ble_eq_true rfl) ho ?_
  intro p e s m args below meth c ls A Q hQ X hT hl
  have hx := X.1.1
  have hb := X.1.2.1
  have hl : lv_has ls 2 [(0, .ref p0), (1, .int p1)] := hl
  have rp1 := rg_all p1
  obtain ⟨F, hFo⟩ : ∃ F : Nat → va_E, F = Fo := ⟨_, rfl⟩
  rw [← hFo] at hT
  have hfr : (∀ b j : Nat, (tag b ≠ 19 ∨ j ≠ 1) → (tag b ≠ 26 ∨ j ≠ 13) → fld F b j = fld Fo b j) ∧ EF tag F Fo := by
    rw [hFo]
    exact ⟨by intros; rfl, fun _ _ _ => rfl⟩
  have K24 : ∀ (z75060 : Int32) (F : Nat → va_E) (H : Heap) (locs : List Loc) (ls : Array Slot), (1 ≤ z75060.toInt ∧ z75060.toInt ≤ 1) → TH G ttC A s tag L F H locs → ((∀ b j : Nat, (tag b ≠ 19 ∨ j ≠ 1) → (tag b ≠ 26 ∨ j ≠ 13) → fld F b j = fld Fo b j) ∧ EF tag F Fo) → fld F p0 2 = .int z75060 → lv_has ls 2 [(0, .ref p0), (1, .int p1)] → W p l e { frames := 1, cells := 0, slots := 0, locals := 21 } s m args below meth c H locs 0 0 Q (F0 m 24 ls []) := by
    intro z75060 F H locs ls rz75060 hT hfr qz75060 hl
    refine lv_aload_n hx hb dX11_seed_24 rfl (lv_at hl 0 rfl) ?_
    refine lv_iconst (v := 2) hx hb dX11_seed_25 (by decide) ?_
    refine t_cVi (n := 1) (C := RX11) (T := TX11) (N := 16) (As := [.int 2]) (rest := []) X hT (kt58_X11_no l G tag L F hT.2.2.2 p0 2 m0 g0) m0 g0 rfl rfl qw_1454 qw_1455 qw_1456 qw_2 qw_1457 ⟨rfl, by decide +kernel, by decide +kernel, by decide +kernel⟩ ⟨Nat.le_of_ble_eq_true rfl, Nat.le_of_ble_eq_true rfl⟩ hl rfl rfl (Nat.le_of_ble_eq_true rfl) dX11_seed_26 ⟨Nat.le_of_ble_eq_true rfl, Nat.le_of_ble_eq_true rfl⟩ (fun z75061 F H locs hT hz75061 => ?_)
    obtain ⟨hz75061, yz75061⟩ := hz75061
    have qz75060 := (yz75061.1 _ 2 (Or.inr (by decide))).trans qz75060
    have hfr : (∀ b j : Nat, (tag b ≠ 19 ∨ j ≠ 1) → (tag b ≠ 26 ∨ j ≠ 13) → fld F b j = fld Fo b j) ∧ EF tag F Fo := ⟨fun b j n19_1 n26_13 => (yz75061.1 b j n26_13).trans (hfr.1 b j n19_1 n26_13), fun b j hb => (yz75061.2 b j hb).trans (hfr.2 b j hb)⟩
    exact t_zret hQ X hT (nar_z (by omega)) (⟨(by omega), hfr⟩) (Nat.le_of_ble_eq_true rfl) (Nat.le_of_ble_eq_true rfl) dX11_seed_29
  refine lv_aload_n hx hb dX11_seed_0 rfl (lv_at hl 0 rfl) ?_
  refine t_get (C := RX11) (T := TX11) (N := 16) X hT m0 g0 rfl rfl 2 (by decide) qw_150 inlX11 rfl dX11_seed_1 (fun v75062 hv75062 ov75062 => ?_)
  obtain ⟨z75063, rfl, rz75063⟩ := okV_i ov75062
  refine lv_if_ne (tgt := 13) hx hb dX11_seed_4 (by decide) (fun c75064 => ?_) (fun c75064 => ?_)
  · have w75065 := cv_ne (rfl : z75063.toInt = z75063.toInt) (by decide : (0 : Int32).toInt = 0) c75064
    refine lv_iload_n hx hb dX11_seed_13 rfl (lv_at hl 1 rfl) ?_
    refine lv_if_lt (tgt := 24) hx hb dX11_seed_14 (by decide) (fun c75066 => ?_) (fun c75066 => ?_)
    · have w75067 := cv_lt (rfl : p1.toInt = p1.toInt) (by decide : (0 : Int32).toInt = 0) c75066
      exact K24 z75063 _ _ _ _ (by omega) hT hfr hv75062 (lv_sub hl [0, 1] rfl)
    · have w75068 := cv_nlt (rfl : p1.toInt = p1.toInt) (by decide : (0 : Int32).toInt = 0) c75066
      refine lv_iload_n hx hb dX11_seed_17 rfl (lv_at hl 1 rfl) ?_
      refine m_ldcw X qw_1281 dX11_seed_18 ?_
      refine lv_icmp_lt (tgt := 30) hx hb dX11_seed_21 (by decide) (fun c75069 => ?_) (fun c75069 => ?_)
      · have w75070 := cv_lt (rfl : p1.toInt = p1.toInt) (by decide : (65537 : Int32).toInt = 65537) c75069
        refine lv_aload_n hx hb dX11_seed_30 rfl (lv_at hl 0 rfl) ?_
        refine t_get (C := RX11) (T := TX11) (N := 16) X hT m0 g0 rfl rfl 5 (by decide) qw_23 inlX11 rfl dX11_seed_31 (fun v75071 hv75071 ov75071 => ?_)
        obtain ⟨b75072, rfl, mb75072, gb75072⟩ := okV_r ov75071
        have gb75072 : tag b75072 = 19 := tg_of gb75072
        refine lv_iload_n hx hb dX11_seed_34 rfl (lv_at hl 1 rfl) ?_
        refine t_put (C := RX7) (T := TX7) (N := 7) (v := .int p1) X hT mb75072 gb75072 rfl tyX7 tyX7_ok nmX7 rfl 1 (by decide) qw_1282 inlX7 rfl (by first | rfl | decide) (by first | rfl | decide) rfl (⟨_, rfl, (show (-2147483648) ≤ (p1 : Int32).toInt from (by omega)), (show (p1 : Int32).toInt ≤ 2147483647 from (by omega))⟩) dX11_seed_35 (fun F H locs hT v75073 h1v75073 h2v75073 => ?_)
        have hv75062 := (h1v75073 _ _ (Or.inr (by decide))).trans hv75062
        have hv75071 := (h1v75073 _ _ (Or.inr (by decide))).trans hv75071
        have hfr : (∀ b j : Nat, (tag b ≠ 19 ∨ j ≠ 1) → (tag b ≠ 26 ∨ j ≠ 13) → fld F b j = fld Fo b j) ∧ EF tag F Fo := ⟨fun b j n19_1 n26_13 => (h1v75073 b j (fr_ne gb75072 n19_1)).trans (hfr.1 b j n19_1 n26_13), fun b j hb => (h2v75073 b j).trans (hfr.2 b j hb)⟩
        refine lv_aload_n hx hb dX11_seed_38 rfl (lv_at hl 0 rfl) ?_
        refine t_cVi (n := 0) (C := RX11) (T := TX11) (N := 16) (As := []) (rest := []) X hT (kt59_X11_yes l G tag L F hT.2.2.2 p0 m0 g0) m0 g0 rfl rfl qw_1460 qw_1461 qw_1462 qw_2 qw_1463 ⟨rfl, by decide +kernel, by decide +kernel, by decide +kernel⟩ ⟨Nat.le_of_ble_eq_true rfl, Nat.le_of_ble_eq_true rfl⟩ hl rfl rfl (Nat.le_of_ble_eq_true rfl) dX11_seed_39 ⟨Nat.le_of_ble_eq_true rfl, Nat.le_of_ble_eq_true rfl⟩ (fun z75074 F H locs hT hz75074 => ?_)
        obtain ⟨hz75074, yz75074⟩ := hz75074
        have hv75062 := (yz75074.1 _ 2 (Or.inr (by decide))).trans hv75062
        have hv75071 := (yz75074.1 _ 5 (Or.inr (by decide))).trans hv75071
        have v75073 := (yz75074.1 _ 1 (Or.inr (by decide))).trans v75073
        have hfr : (∀ b j : Nat, (tag b ≠ 19 ∨ j ≠ 1) → (tag b ≠ 26 ∨ j ≠ 13) → fld F b j = fld Fo b j) ∧ EF tag F Fo := ⟨fun b j n19_1 n26_13 => (yz75074.1 b j n26_13).trans (hfr.1 b j n19_1 n26_13), fun b j hb => (yz75074.2 b j hb).trans (hfr.2 b j hb)⟩
        exact t_zret hQ X hT (nar_z (by omega)) (⟨(by omega), hfr⟩) (Nat.le_of_ble_eq_true rfl) (Nat.le_of_ble_eq_true rfl) dX11_seed_42
      · have w75075 := cv_nlt (rfl : p1.toInt = p1.toInt) (by decide : (65537 : Int32).toInt = 65537) c75069
        exact K24 z75063 _ _ _ _ (by omega) hT hfr hv75062 (lv_sub hl [0, 1] rfl)
  · have w75076 := cv_eq (rfl : z75063.toInt = z75063.toInt) (by decide : (0 : Int32).toInt = 0) c75064
    refine lv_aload_n hx hb dX11_seed_7 rfl (lv_at hl 0 rfl) ?_
    refine lv_iconst (v := 1) hx hb dX11_seed_8 (by decide) ?_
    refine t_cVi (n := 1) (C := RX11) (T := TX11) (N := 16) (As := [.int 1]) (rest := []) X hT (kt58_X11_no l G tag L F hT.2.2.2 p0 1 m0 g0) m0 g0 rfl rfl qw_1454 qw_1455 qw_1456 qw_2 qw_1457 ⟨rfl, by decide +kernel, by decide +kernel, by decide +kernel⟩ ⟨Nat.le_of_ble_eq_true rfl, Nat.le_of_ble_eq_true rfl⟩ hl rfl rfl (Nat.le_of_ble_eq_true rfl) dX11_seed_9 ⟨Nat.le_of_ble_eq_true rfl, Nat.le_of_ble_eq_true rfl⟩ (fun z75077 F H locs hT hz75077 => ?_)
    obtain ⟨hz75077, yz75077⟩ := hz75077
    have hv75062 := (yz75077.1 _ 2 (Or.inr (by decide))).trans hv75062
    have hfr : (∀ b j : Nat, (tag b ≠ 19 ∨ j ≠ 1) → (tag b ≠ 26 ∨ j ≠ 13) → fld F b j = fld Fo b j) ∧ EF tag F Fo := ⟨fun b j n19_1 n26_13 => (yz75077.1 b j n26_13).trans (hfr.1 b j n19_1 n26_13), fun b j hb => (yz75077.2 b j hb).trans (hfr.2 b j hb)⟩
    exact t_zret hQ X hT (nar_z (by omega)) (⟨(by omega), hfr⟩) (Nat.le_of_ble_eq_true rfl) (Nat.le_of_ble_eq_true rfl) dX11_seed_12
set_option maxHeartbeats 4000000 in
set_option maxRecDepth 100000 in
theorem kt173_J6_bitCount_0f7a4 (l : Launch) (G : KG) (tag : Nat → Nat) (L : List Nat) (F : Nat → va_E) (ho : okT G ttC tag L F) (p0 : Int32)  : TMi l yJ6_bitCount_0f7a4 cJ6_bitCount_0f7a4 1 (some .int) { frames := 0, cells := 0, slots := 0, locals := 0 } G ttC tag L F [.int p0] (fun r F1 => F1 = F ∧ (0 ≤ r.toInt ∧ r.toInt ≤ 63)) := by
  refine t_bodyi (y := yJ6_bitCount_0f7a4) (cd := cJ6_bitCount_0f7a4) (mL := 1) (rt := (some .int)) (rm := { frames := 0, cells := 0, slots := 0, locals := 0 }) (av := [.int p0]) (by decide) (Nat.le_of_ble_eq_true rfl) ho ?_
  intro p e s m args below meth c ls A Q hQ X hT hl
  have hx := X.1.1
  have hb := X.1.2.1
  have hl : lv_has ls 1 [(0, .int p0)] := hl
  have rp0 := rg_all p0
  refine lv_iload_n hx hb dJ6_bitCount_0f7a4_0 rfl (lv_at hl 0 rfl) ?_
  refine lv_iload_n hx hb dJ6_bitCount_0f7a4_1 rfl (lv_at hl 0 rfl) ?_
  refine lv_iconst (v := 1) hx hb dJ6_bitCount_0f7a4_2 (by decide) ?_
  refine lv_iushr hx hb dJ6_bitCount_0f7a4_3 rfl ?_
  refine lv_topi (fun z75280 ez75280 => ?_)
  have rz75280 := rg_all z75280
  refine m_ldcw X qw_733 dJ6_bitCount_0f7a4_4 ?_
  refine lv_iand hx hb dJ6_bitCount_0f7a4_7 ?_
  refine lv_topi (fun z75281 ez75281 => ?_)
  have rz75281 := rg_all z75281
  refine lv_isub hx hb dJ6_bitCount_0f7a4_8 ?_
  refine lv_topi (fun z75282 ez75282 => ?_)
  have rz75282 := rg_all z75282
  refine lv_istore_n (lv' := [(0, .int z75282)]) hx hb dJ6_bitCount_0f7a4_9 rfl hl (by decide) rfl (fun ls hl => ?_)
  refine lv_iload_n hx hb dJ6_bitCount_0f7a4_10 rfl (lv_at hl 0 rfl) ?_
  refine m_ldcw X qw_734 dJ6_bitCount_0f7a4_11 ?_
  refine lv_iand hx hb dJ6_bitCount_0f7a4_14 ?_
  refine lv_topi (fun z75283 ez75283 => ?_)
  have rz75283 := rg_all z75283
  refine lv_iload_n hx hb dJ6_bitCount_0f7a4_15 rfl (lv_at hl 0 rfl) ?_
  refine lv_iconst (v := 2) hx hb dJ6_bitCount_0f7a4_16 (by decide) ?_
  refine lv_iushr hx hb dJ6_bitCount_0f7a4_17 rfl ?_
  refine lv_topi (fun z75284 ez75284 => ?_)
  have rz75284 := rg_all z75284
  refine m_ldcw X qw_734 dJ6_bitCount_0f7a4_18 ?_
  refine lv_iand hx hb dJ6_bitCount_0f7a4_21 ?_
  refine lv_topi (fun z75285 ez75285 => ?_)
  have rz75285 := rg_all z75285
  refine lv_iadd hx hb dJ6_bitCount_0f7a4_22 ?_
  refine lv_topi (fun z75286 ez75286 => ?_)
  have rz75286 := rg_all z75286
  refine lv_istore_n (lv' := [(0, .int z75286)]) hx hb dJ6_bitCount_0f7a4_23 rfl hl (by decide) rfl (fun ls hl => ?_)
  refine lv_iload_n hx hb dJ6_bitCount_0f7a4_24 rfl (lv_at hl 0 rfl) ?_
  refine lv_iload_n hx hb dJ6_bitCount_0f7a4_25 rfl (lv_at hl 0 rfl) ?_
  refine lv_iconst (v := 4) hx hb dJ6_bitCount_0f7a4_26 (by decide) ?_
  refine lv_iushr hx hb dJ6_bitCount_0f7a4_27 rfl ?_
  refine lv_topi (fun z75287 ez75287 => ?_)
  have rz75287 := rg_all z75287
  refine lv_iadd hx hb dJ6_bitCount_0f7a4_28 ?_
  refine lv_topi (fun z75288 ez75288 => ?_)
  have rz75288 := rg_all z75288
  refine m_ldcw X qw_735 dJ6_bitCount_0f7a4_29 ?_
  refine lv_iand hx hb dJ6_bitCount_0f7a4_32 ?_
  refine lv_topi (fun z75289 ez75289 => ?_)
  have rz75289 := rg_all z75289
  refine lv_istore_n (lv' := [(0, .int z75289)]) hx hb dJ6_bitCount_0f7a4_33 rfl hl (by decide) rfl (fun ls hl => ?_)
  refine lv_iload_n hx hb dJ6_bitCount_0f7a4_34 rfl (lv_at hl 0 rfl) ?_
  refine lv_iload_n hx hb dJ6_bitCount_0f7a4_35 rfl (lv_at hl 0 rfl) ?_
  refine lv_bipush (v := 8) hx hb dJ6_bitCount_0f7a4_36 (by decide) ?_
  refine lv_iushr hx hb dJ6_bitCount_0f7a4_38 rfl ?_
  refine lv_topi (fun z75290 ez75290 => ?_)
  have rz75290 := rg_all z75290
  refine lv_iadd hx hb dJ6_bitCount_0f7a4_39 ?_
  refine lv_topi (fun z75291 ez75291 => ?_)
  have rz75291 := rg_all z75291
  refine lv_istore_n (lv' := [(0, .int z75291)]) hx hb dJ6_bitCount_0f7a4_40 rfl hl (by decide) rfl (fun ls hl => ?_)
  refine lv_iload_n hx hb dJ6_bitCount_0f7a4_41 rfl (lv_at hl 0 rfl) ?_
  refine lv_iload_n hx hb dJ6_bitCount_0f7a4_42 rfl (lv_at hl 0 rfl) ?_
  refine lv_bipush (v := 16) hx hb dJ6_bitCount_0f7a4_43 (by decide) ?_
  refine lv_iushr hx hb dJ6_bitCount_0f7a4_45 rfl ?_
  refine lv_topi (fun z75292 ez75292 => ?_)
  have rz75292 := rg_all z75292
  refine lv_iadd hx hb dJ6_bitCount_0f7a4_46 ?_
  refine lv_topi (fun z75293 ez75293 => ?_)
  have rz75293 := rg_all z75293
  refine lv_istore_n (lv' := [(0, .int z75293)]) hx hb dJ6_bitCount_0f7a4_47 rfl hl (by decide) rfl (fun ls hl => ?_)
  refine lv_iload_n hx hb dJ6_bitCount_0f7a4_48 rfl (lv_at hl 0 rfl) ?_
  refine lv_bipush (v := 63) hx hb dJ6_bitCount_0f7a4_49 (by decide) ?_
  refine lv_iand hx hb dJ6_bitCount_0f7a4_51 ?_
  refine lv_topi (fun z75294 ez75294 => ?_)
  have rz75294 : 0 ≤ z75294.toInt ∧ z75294.toInt ≤ 63 := ar_and ez75294 6 (by decide) (by decide)
  exact t_iret hQ X hT (⟨rfl, (by omega)⟩) (Nat.le_of_ble_eq_true rfl) (Nat.le_of_ble_eq_true rfl) dJ6_bitCount_0f7a4_52
set_option maxHeartbeats 4000000 in
set_option maxRecDepth 100000 in
theorem kt174_X11_shared (l : Launch) (G : KG) (tag : Nat → Nat) (L : List Nat) (Fo : Nat → va_E) (ho : okT G ttC tag L Fo) (p0 : Nat) (m0 : p0 ∈ L) (g0 : tag p0 = 26) : TMi l yX11_shared cX11_shared 4 (some .int) { frames := 2, cells := 0, slots := 0, locals := 50 } G ttC tag L Fo [.ref p0] (fun r F1 => ((-2147483648) ≤ r.toInt ∧ r.toInt ≤ 2147483647) ∧ ((∀ b j : Nat, (tag b ≠ 26 ∨ j ≠ 13) → fld F1 b j = fld Fo b j) ∧ EF tag F1 Fo)) := by
  refine t_bodyi (y := yX11_shared) (cd := cX11_shared) (mL := 4) (rt := (some .int)) (rm := { frames := 2, cells := 0, slots := 0, locals := 50 }) (av := [.ref p0]) (by decide) (Nat.le_of_ble_eq_true rfl) ho ?_
  intro p e s m args below meth c ls A Q hQ X hT hl
  have hx := X.1.1
  have hb := X.1.2.1
  have hl : lv_has ls 4 [(0, .ref p0)] := hl
  obtain ⟨F, hFo⟩ : ∃ F : Nat → va_E, F = Fo := ⟨_, rfl⟩
  rw [← hFo] at hT
  have hfr : (∀ b j : Nat, (tag b ≠ 26 ∨ j ≠ 13) → fld F b j = fld Fo b j) ∧ EF tag F Fo := by
    rw [hFo]
    exact ⟨by intros; rfl, fun _ _ _ => rfl⟩
  have K17 : ∀ (n : Nat) (z76520 : Int32) (z76521 : Int32) (z76522 : Int32) (F : Nat → va_E) (H : Heap) (locs : List Loc) (ls : Array Slot), (12 - z76521.toInt < (n : Int)) → (0 ≤ z76521.toInt ∧ z76521.toInt ≤ 12) → (1 ≤ z76522.toInt ∧ z76522.toInt ≤ 1) → TH G ttC A s tag L F H locs → ((∀ b j : Nat, (tag b ≠ 26 ∨ j ≠ 13) → fld F b j = fld Fo b j) ∧ EF tag F Fo) → fld F p0 2 = .int z76522 → lv_has ls 4 [(0, .ref p0), (1, .int z76520), (2, .int z76521)] → W p l e { frames := 2, cells := 0, slots := 0, locals := 50 } s m args below meth c H locs 0 0 Q (F0 m 17 ls []) := by
    intro n
    induction n with
    | zero =>
      intro z76520 z76521 z76522 F H locs ls hn rz76521 rz76522 hT hfr qz76522 hl
      have rz76520 := rg_all z76520
      exfalso
      omega
    | succ n ih17 =>
      intro z76520 z76521 z76522 F H locs ls hn rz76521 rz76522 hT hfr qz76522 hl
      have rz76520 := rg_all z76520
      have K30 : ∀ (n : Nat) (z76523 : Int32) (z76525 : Int32) (z76526 : Int32) (F : Nat → va_E) (H : Heap) (locs : List Loc) (ls : Array Slot), (12 - z76525.toInt < (n : Int)) → (0 ≤ z76525.toInt ∧ z76525.toInt ≤ 12) → (1 ≤ z76526.toInt ∧ z76526.toInt ≤ 1) → (0 ≤ z76521.toInt ∧ z76521.toInt ≤ 11) → TH G ttC A s tag L F H locs → ((∀ b j : Nat, (tag b ≠ 26 ∨ j ≠ 13) → fld F b j = fld Fo b j) ∧ EF tag F Fo) → fld F p0 2 = .int z76526 → lv_has ls 4 [(0, .ref p0), (1, .int z76523), (2, .int z76521), (3, .int z76525)] → W p l e { frames := 2, cells := 0, slots := 0, locals := 50 } s m args below meth c H locs 0 0 Q (F0 m 30 ls []) := by
        intro n
        induction n with
        | zero =>
          intro z76523 z76525 z76526 F H locs ls hn rz76525 rz76526 r9s76524 hT hfr qz76526 hl
          have rz76523 := rg_all z76523
          exfalso
          omega
        | succ n ih30 =>
          intro z76523 z76525 z76526 F H locs ls hn rz76525 rz76526 r9s76524 hT hfr qz76526 hl
          have rz76523 := rg_all z76523
          have K64 : ∀ (z76527 : Int32) (z76529 : Int32) (F : Nat → va_E) (H : Heap) (locs : List Loc) (ls : Array Slot), (1 ≤ z76529.toInt ∧ z76529.toInt ≤ 1) → (0 ≤ z76525.toInt ∧ z76525.toInt ≤ 11) → TH G ttC A s tag L F H locs → ((∀ b j : Nat, (tag b ≠ 26 ∨ j ≠ 13) → fld F b j = fld Fo b j) ∧ EF tag F Fo) → fld F p0 2 = .int z76529 → lv_has ls 4 [(0, .ref p0), (1, .int z76527), (2, .int z76521), (3, .int z76525)] → W p l e { frames := 2, cells := 0, slots := 0, locals := 50 } s m args below meth c H locs 0 0 Q (F0 m 64 ls []) := by
            intro z76527 z76529 F H locs ls rz76529 r9s76528 hT hfr qz76529 hl
            have rz76527 := rg_all z76527
            obtain ⟨z76530, ez76530⟩ : ∃ y : Int32, y = z76525 + 1 := ⟨_, rfl⟩
            have hz76530 : z76530.toInt = z76525.toInt + 1 := ar_add ez76530 rfl (by decide : (1 : Int32).toInt = 1) (by omega) (by omega)
            refine lv_iinc (v := z76530) (lv' := [(3, .int z76530), (0, .ref p0), (1, .int z76527), (2, .int z76521)]) hx hb dX11_shared_64 hl (k := 3) rfl (by rw [ez76530]; rfl) (by decide) rfl (fun ls hl => ?_)
            refine lv_goto (tgt := 30) hx hb dX11_shared_67 (by decide) ?_
            exact ih30 z76527 z76530 z76529 _ _ _ _ (by omega) (by omega) (by omega) (by omega) hT hfr qz76529 (lv_sub hl [1, 2, 3, 0] rfl)
          refine lv_iload_n hx hb dX11_shared_30 rfl (lv_at hl 3 rfl) ?_
          refine lv_aload_n hx hb dX11_shared_31 rfl (lv_at hl 0 rfl) ?_
          refine t_get (C := RX11) (T := TX11) (N := 16) X hT m0 g0 rfl rfl 3 (by decide) qw_18 inlX11 rfl dX11_shared_32 (fun v76531 hv76531 ov76531 => ?_)
          obtain ⟨b76532, rfl, mb76532, gb76532⟩ := okV_r ov76531
          have gb76532 : tag b76532 = 18 := tg_of gb76532
          refine t_get (C := RX1) (T := TX1) (N := 20) X hT mb76532 gb76532 rfl rfl 0 (by decide) qw_728 inlX1 rfl dX11_shared_35 (fun v76533 hv76533 ov76533 => ?_)
          obtain ⟨z76534, rfl, rz76534⟩ := okV_i ov76533
          refine lv_icmp_ge (tgt := 70) hx hb dX11_shared_38 (by decide) (fun c76535 => ?_) (fun c76535 => ?_)
          · have w76536 := cv_le (rfl : z76534.toInt = z76534.toInt) (rfl : z76525.toInt = z76525.toInt) c76535
            obtain ⟨z76537, ez76537⟩ : ∃ y : Int32, y = z76521 + 1 := ⟨_, rfl⟩
            have hz76537 : z76537.toInt = z76521.toInt + 1 := ar_add ez76537 rfl (by decide : (1 : Int32).toInt = 1) (by omega) (by omega)
            refine lv_iinc (v := z76537) (lv' := [(2, .int z76537), (0, .ref p0), (1, .int z76523), (3, .int z76525)]) hx hb dX11_shared_70 hl (k := 2) rfl (by rw [ez76537]; rfl) (by decide) rfl (fun ls hl => ?_)
            refine lv_goto (tgt := 17) hx hb dX11_shared_73 (by decide) ?_
            exact ih17 z76523 z76537 z76526 _ _ _ _ (by omega) (by omega) (by omega) hT hfr qz76526 (lv_sub hl [1, 2, 0] rfl)
          · have w76538 := cv_nle (rfl : z76534.toInt = z76534.toInt) (rfl : z76525.toInt = z76525.toInt) c76535
            refine lv_aload_n hx hb dX11_shared_41 rfl (lv_at hl 0 rfl) ?_
            refine t_get (C := RX11) (T := TX11) (N := 16) X hT m0 g0 rfl rfl 3 (by decide) qw_18 inlX11 rfl dX11_shared_42 (fun v76539 hv76539 ov76539 => ?_)
            obtain rfl : v76539 = .ref b76532 := hv76539.symm.trans hv76531
            refine lv_aload_n hx hb dX11_shared_45 rfl (lv_at hl 0 rfl) ?_
            refine t_get (C := RX11) (T := TX11) (N := 16) X hT m0 g0 rfl rfl 5 (by decide) qw_23 inlX11 rfl dX11_shared_46 (fun v76540 hv76540 ov76540 => ?_)
            obtain ⟨b76541, rfl, mb76541, gb76541⟩ := okV_r ov76540
            have gb76541 : tag b76541 = 19 := tg_of gb76541
            refine lv_iload_n hx hb dX11_shared_49 rfl (lv_at hl 3 rfl) ?_
            refine lv_iload_n hx hb dX11_shared_50 rfl (lv_at hl 2 rfl) ?_
            refine t_cSi (n := 4) (As := [.ref b76532, .ref b76541, .int z76525, .int z76521]) (rest := []) X hT (kt28_X6_ownersOf l G tag L F hT.2.2.2 b76532 b76541 z76525 z76521 mb76532 gb76532 mb76541 gb76541) qw_712 qw_713 qw_380 qw_714 ⟨by decide +kernel, by decide +kernel, by decide +kernel⟩ ⟨Nat.le_of_ble_eq_true rfl, Nat.le_of_ble_eq_true rfl⟩ hl rfl rfl (Nat.le_of_ble_eq_true rfl) dX11_shared_51 ⟨Nat.le_of_ble_eq_true rfl, Nat.le_of_ble_eq_true rfl⟩ (fun z76542 F9 H locs hT hz76542 => ?_)
            obtain ⟨fz76542, hz76542⟩ := hz76542
            rw [fz76542] at hT
            refine t_cSi (n := 1) (As := [.int z76542]) (rest := []) X hT (kt173_J6_bitCount_0f7a4 l G tag L F hT.2.2.2 z76542 ) qw_729 qw_730 qw_731 qw_732 ⟨by decide +kernel, by decide +kernel, by decide +kernel⟩ ⟨Nat.le_of_ble_eq_true rfl, Nat.le_of_ble_eq_true rfl⟩ hl rfl rfl (Nat.le_of_ble_eq_true rfl) dX11_shared_54 ⟨Nat.le_of_ble_eq_true rfl, Nat.le_of_ble_eq_true rfl⟩ (fun z76543 F9 H locs hT hz76543 => ?_)
            obtain ⟨fz76543, hz76543⟩ := hz76543
            rw [fz76543] at hT
            refine lv_iconst (v := 1) hx hb dX11_shared_57 (by decide) ?_
            refine lv_icmp_le (tgt := 64) hx hb dX11_shared_58 (by decide) (fun c76544 => ?_) (fun c76544 => ?_)
            · have w76545 := cv_le (rfl : z76543.toInt = z76543.toInt) (by decide : (1 : Int32).toInt = 1) c76544
              exact K64 z76523 z76526 _ _ _ _ (by omega) (by omega) hT hfr qz76526 (lv_sub hl [0, 1, 2, 3] rfl)
            · have w76546 := cv_nle (rfl : z76543.toInt = z76543.toInt) (by decide : (1 : Int32).toInt = 1) c76544
              obtain ⟨z76547, ez76547⟩ : ∃ y : Int32, y = z76523 + 1 := ⟨_, rfl⟩
              have rz76547 := rg_all z76547
              refine lv_iinc (v := z76547) (lv' := [(1, .int z76547), (0, .ref p0), (2, .int z76521), (3, .int z76525)]) hx hb dX11_shared_61 hl (k := 1) rfl (by rw [ez76547]; rfl) (by decide) rfl (fun ls hl => ?_)
              exact K64 z76547 z76526 _ _ _ _ (by omega) (by omega) hT hfr qz76526 (lv_sub hl [1, 0, 2, 3] rfl)
      refine lv_iload_n hx hb dX11_shared_17 rfl (lv_at hl 2 rfl) ?_
      refine lv_aload_n hx hb dX11_shared_18 rfl (lv_at hl 0 rfl) ?_
      refine t_get (C := RX11) (T := TX11) (N := 16) X hT m0 g0 rfl rfl 3 (by decide) qw_18 inlX11 rfl dX11_shared_19 (fun v76548 hv76548 ov76548 => ?_)
      obtain ⟨b76549, rfl, mb76549, gb76549⟩ := okV_r ov76548
      have gb76549 : tag b76549 = 18 := tg_of gb76549
      refine t_get (C := RX1) (T := TX1) (N := 20) X hT mb76549 gb76549 rfl rfl 1 (by decide) qw_727 inlX1 rfl dX11_shared_22 (fun v76550 hv76550 ov76550 => ?_)
      obtain ⟨z76551, rfl, rz76551⟩ := okV_i ov76550
      refine lv_icmp_ge (tgt := 76) hx hb dX11_shared_25 (by decide) (fun c76552 => ?_) (fun c76552 => ?_)
      · have w76553 := cv_le (rfl : z76551.toInt = z76551.toInt) (rfl : z76521.toInt = z76521.toInt) c76552
        refine lv_aload_n hx hb dX11_shared_76 rfl (lv_at hl 0 rfl) ?_
        refine lv_iload_n hx hb dX11_shared_77 rfl (lv_at hl 1 rfl) ?_
        refine t_cVi (n := 1) (C := RX11) (T := TX11) (N := 16) (As := [.int z76520]) (rest := []) X hT (kt56_X11_answer l G tag L F hT.2.2.2 p0 z76520 m0 g0) m0 g0 rfl rfl qw_463 qw_464 qw_465 qw_2 qw_466 ⟨rfl, by decide +kernel, by decide +kernel, by decide +kernel⟩ ⟨Nat.le_of_ble_eq_true rfl, Nat.le_of_ble_eq_true rfl⟩ hl rfl rfl (Nat.le_of_ble_eq_true rfl) dX11_shared_78 ⟨Nat.le_of_ble_eq_true rfl, Nat.le_of_ble_eq_true rfl⟩ (fun z76554 F H locs hT hz76554 => ?_)
        obtain ⟨hz76554, yz76554⟩ := hz76554
        have qz76522 := (yz76554.1 _ 2 (Or.inr (by decide))).trans qz76522
        have hv76548 := (yz76554.1 _ 3 (Or.inr (by decide))).trans hv76548
        have hv76550 := (yz76554.1 _ 1 (Or.inr (by decide))).trans hv76550
        have hfr : (∀ b j : Nat, (tag b ≠ 26 ∨ j ≠ 13) → fld F b j = fld Fo b j) ∧ EF tag F Fo := ⟨fun b j n26_13 => (yz76554.1 b j n26_13).trans (hfr.1 b j n26_13), fun b j hb => (yz76554.2 b j hb).trans (hfr.2 b j hb)⟩
        exact t_iret hQ X hT (⟨rg_all _, hfr⟩) (Nat.le_of_ble_eq_true rfl) (Nat.le_of_ble_eq_true rfl) dX11_shared_81
      · have w76555 := cv_nle (rfl : z76551.toInt = z76551.toInt) (rfl : z76521.toInt = z76521.toInt) c76552
        refine lv_iconst (v := 0) hx hb dX11_shared_28 (by decide) ?_
        refine lv_istore_n (lv' := [(3, .int 0), (0, .ref p0), (1, .int z76520), (2, .int z76521)]) hx hb dX11_shared_29 rfl hl (by decide) rfl (fun ls hl => ?_)
        have kk76556 : (0 : Int32).toInt = 0 := by decide
        exact K30 13 z76520 0 z76522 _ _ _ _ (by omega) (by decide) (by omega) (by omega) hT hfr qz76522 (lv_sub hl [1, 2, 3, 0] rfl)
  refine lv_aload_n hx hb dX11_shared_0 rfl (lv_at hl 0 rfl) ?_
  refine t_get (C := RX11) (T := TX11) (N := 16) X hT m0 g0 rfl rfl 2 (by decide) qw_150 inlX11 rfl dX11_shared_1 (fun v76557 hv76557 ov76557 => ?_)
  obtain ⟨z76558, rfl, rz76558⟩ := okV_i ov76557
  refine lv_if_ne (tgt := 13) hx hb dX11_shared_4 (by decide) (fun c76559 => ?_) (fun c76559 => ?_)
  · have w76560 := cv_ne (rfl : z76558.toInt = z76558.toInt) (by decide : (0 : Int32).toInt = 0) c76559
    refine lv_iconst (v := 0) hx hb dX11_shared_13 (by decide) ?_
    refine lv_istore_n (lv' := [(1, .int 0), (0, .ref p0)]) hx hb dX11_shared_14 rfl hl (by decide) rfl (fun ls hl => ?_)
    refine lv_iconst (v := 0) hx hb dX11_shared_15 (by decide) ?_
    refine lv_istore_n (lv' := [(2, .int 0), (1, .int 0), (0, .ref p0)]) hx hb dX11_shared_16 rfl hl (by decide) rfl (fun ls hl => ?_)
    have kk76561 : (0 : Int32).toInt = 0 := by decide
    have kk76562 : (0 : Int32).toInt = 0 := by decide
    exact K17 13 0 0 z76558 _ _ _ _ (by omega) (by decide) (by omega) hT hfr hv76557 (lv_sub hl [2, 1, 0] rfl)
  · have w76563 := cv_eq (rfl : z76558.toInt = z76558.toInt) (by decide : (0 : Int32).toInt = 0) c76559
    refine lv_aload_n hx hb dX11_shared_7 rfl (lv_at hl 0 rfl) ?_
    refine lv_iconst (v := 1) hx hb dX11_shared_8 (by decide) ?_
    refine t_cVi (n := 1) (C := RX11) (T := TX11) (N := 16) (As := [.int 1]) (rest := []) X hT (kt63_X11_refuse l G tag L F hT.2.2.2 p0 1 m0 g0) m0 g0 rfl rfl qw_152 qw_153 qw_154 qw_2 qw_155 ⟨rfl, by decide +kernel, by decide +kernel, by decide +kernel⟩ ⟨Nat.le_of_ble_eq_true rfl, Nat.le_of_ble_eq_true rfl⟩ hl rfl rfl (Nat.le_of_ble_eq_true rfl) dX11_shared_9 ⟨Nat.le_of_ble_eq_true rfl, Nat.le_of_ble_eq_true rfl⟩ (fun z76564 F H locs hT hz76564 => ?_)
    obtain ⟨hz76564, yz76564⟩ := hz76564
    have hv76557 := (yz76564.1 _ 2 (Or.inr (by decide))).trans hv76557
    have hfr : (∀ b j : Nat, (tag b ≠ 26 ∨ j ≠ 13) → fld F b j = fld Fo b j) ∧ EF tag F Fo := ⟨fun b j n26_13 => (yz76564.1 b j n26_13).trans (hfr.1 b j n26_13), fun b j hb => (yz76564.2 b j hb).trans (hfr.2 b j hb)⟩
    exact t_iret hQ X hT (⟨rg_all _, hfr⟩) (Nat.le_of_ble_eq_true rfl) (Nat.le_of_ble_eq_true rfl) dX11_shared_12
set_option maxHeartbeats 4000000 in
set_option maxRecDepth 100000 in
theorem kt175_X11_sizeNow (l : Launch) (G : KG) (tag : Nat → Nat) (L : List Nat) (F : Nat → va_E) (ho : okT G ttC tag L F) (p0 : Nat) (p1 : Int32) (m0 : p0 ∈ L) (g0 : tag p0 = 26) : TMi l yX11_sizeNow cX11_sizeNow 2 (some .int) { frames := 0, cells := 0, slots := 0, locals := 0 } G ttC tag L F [.ref p0, .int p1] (fun r F1 => F1 = F ∧ ((-2147483648) ≤ r.toInt ∧ r.toInt ≤ 2147483647)) := by
  refine t_bodyi (y := yX11_sizeNow) (cd := cX11_sizeNow) (mL := 2) (rt := (some .int)) (rm := { frames := 0, cells := 0, slots := 0, locals := 0 }) (av := [.ref p0, .int p1]) (by decide) (Nat.le_of_ble_eq_true rfl) ho ?_
  intro p e s m args below meth c ls A Q hQ X hT hl
  have hx := X.1.1
  have hb := X.1.2.1
  have hl : lv_has ls 2 [(0, .ref p0), (1, .int p1)] := hl
  have rp1 := rg_all p1
  refine lv_iload_n hx hb dX11_sizeNow_0 rfl (lv_at hl 1 rfl) ?_
  by_cases c76853 : p1 = 8
  · have w76854 := cv_eq (rfl : p1.toInt = p1.toInt) (by decide : (8 : Int32).toInt = 8) c76853
    refine lv_tableIn (off := 27) (tgt := 28) hx hb dX11_sizeNow_1 (by rw [c76853]; decide) (by rw [c76853]; decide) (by rw [c76853]; decide) (by decide) ?_
    refine lv_aload_n hx hb dX11_sizeNow_28 rfl (lv_at hl 0 rfl) ?_
    refine t_get (C := RX11) (T := TX11) (N := 16) X hT m0 g0 rfl rfl 5 (by decide) qw_23 inlX11 rfl dX11_sizeNow_29 (fun v76855 hv76855 ov76855 => ?_)
    obtain ⟨b76856, rfl, mb76856, gb76856⟩ := okV_r ov76855
    have gb76856 : tag b76856 = 19 := tg_of gb76856
    refine t_get (C := RX7) (T := TX7) (N := 7) X hT mb76856 gb76856 rfl rfl 0 (by decide) qw_1225 inlX7 rfl dX11_sizeNow_32 (fun v76857 hv76857 ov76857 => ?_)
    obtain ⟨z76858, rfl, rz76858⟩ := okV_i ov76857
    exact t_iret hQ X hT (⟨rfl, rg_all _⟩) (Nat.le_of_ble_eq_true rfl) (Nat.le_of_ble_eq_true rfl) dX11_sizeNow_35
  have w76859 := cv_ne (rfl : p1.toInt = p1.toInt) (by decide : (8 : Int32).toInt = 8) c76853
  by_cases c76860 : p1 = 9
  · have w76861 := cv_eq (rfl : p1.toInt = p1.toInt) (by decide : (9 : Int32).toInt = 9) c76860
    refine lv_tableIn (off := 35) (tgt := 36) hx hb dX11_sizeNow_1 (by rw [c76860]; decide) (by rw [c76860]; decide) (by rw [c76860]; decide) (by decide) ?_
    refine lv_aload_n hx hb dX11_sizeNow_36 rfl (lv_at hl 0 rfl) ?_
    refine t_get (C := RX11) (T := TX11) (N := 16) X hT m0 g0 rfl rfl 5 (by decide) qw_23 inlX11 rfl dX11_sizeNow_37 (fun v76862 hv76862 ov76862 => ?_)
    obtain ⟨b76863, rfl, mb76863, gb76863⟩ := okV_r ov76862
    have gb76863 : tag b76863 = 19 := tg_of gb76863
    refine t_get (C := RX7) (T := TX7) (N := 7) X hT mb76863 gb76863 rfl rfl 1 (by decide) qw_1282 inlX7 rfl dX11_sizeNow_40 (fun v76864 hv76864 ov76864 => ?_)
    obtain ⟨z76865, rfl, rz76865⟩ := okV_i ov76864
    exact t_iret hQ X hT (⟨rfl, rg_all _⟩) (Nat.le_of_ble_eq_true rfl) (Nat.le_of_ble_eq_true rfl) dX11_sizeNow_43
  have w76866 := cv_ne (rfl : p1.toInt = p1.toInt) (by decide : (9 : Int32).toInt = 9) c76860
  by_cases c76867 : p1 = 10
  · have w76868 := cv_eq (rfl : p1.toInt = p1.toInt) (by decide : (10 : Int32).toInt = 10) c76867
    refine lv_tableIn (off := 43) (tgt := 44) hx hb dX11_sizeNow_1 (by rw [c76867]; decide) (by rw [c76867]; decide) (by rw [c76867]; decide) (by decide) ?_
    refine lv_aload_n hx hb dX11_sizeNow_44 rfl (lv_at hl 0 rfl) ?_
    refine t_get (C := RX11) (T := TX11) (N := 16) X hT m0 g0 rfl rfl 12 (by decide) qw_45 inlX11 rfl dX11_sizeNow_45 (fun v76869 hv76869 ov76869 => ?_)
    obtain ⟨b76870, rfl, mb76870, gb76870⟩ := okV_r ov76869
    have gb76870 : tag b76870 = 23 := tg_of gb76870
    refine t_get (C := RX2) (T := TX2) (N := 5) X hT mb76870 gb76870 rfl rfl 3 (by decide) qw_1590 inlX2 rfl dX11_sizeNow_48 (fun v76871 hv76871 ov76871 => ?_)
    obtain ⟨z76872, rfl, rz76872⟩ := okV_i ov76871
    exact t_iret hQ X hT (⟨rfl, rg_all _⟩) (Nat.le_of_ble_eq_true rfl) (Nat.le_of_ble_eq_true rfl) dX11_sizeNow_51
  have w76873 := cv_ne (rfl : p1.toInt = p1.toInt) (by decide : (10 : Int32).toInt = 10) c76867
  refine lv_tableOut (tgt := 52) hx hb dX11_sizeNow_1 (by omega) (by decide) ?_
  refine lv_aload_n hx hb dX11_sizeNow_52 rfl (lv_at hl 0 rfl) ?_
  refine t_get (C := RX11) (T := TX11) (N := 16) X hT m0 g0 rfl rfl 12 (by decide) qw_45 inlX11 rfl dX11_sizeNow_53 (fun v76874 hv76874 ov76874 => ?_)
  obtain ⟨b76875, rfl, mb76875, gb76875⟩ := okV_r ov76874
  have gb76875 : tag b76875 = 23 := tg_of gb76875
  refine t_get (C := RX2) (T := TX2) (N := 5) X hT mb76875 gb76875 rfl rfl 4 (by decide) qw_1591 inlX2 rfl dX11_sizeNow_56 (fun v76876 hv76876 ov76876 => ?_)
  obtain ⟨z76877, rfl, rz76877⟩ := okV_i ov76876
  exact t_iret hQ X hT (⟨rfl, rg_all _⟩) (Nat.le_of_ble_eq_true rfl) (Nat.le_of_ble_eq_true rfl) dX11_sizeNow_59
set_option maxHeartbeats 4000000 in
set_option maxRecDepth 100000 in
theorem kt176_X11_sizeTold (l : Launch) (G : KG) (tag : Nat → Nat) (L : List Nat) (F : Nat → va_E) (ho : okT G ttC tag L F) (p0 : Nat) (p1 : Int32) (m0 : p0 ∈ L) (g0 : tag p0 = 26) : TMi l yX11_sizeTold cX11_sizeTold 2 (some .int) { frames := 0, cells := 0, slots := 0, locals := 0 } G ttC tag L F [.ref p0, .int p1] (fun r F1 => F1 = F ∧ ((-2147483648) ≤ r.toInt ∧ r.toInt ≤ 2147483647)) := by
  refine t_bodyi (y := yX11_sizeTold) (cd := cX11_sizeTold) (mL := 2) (rt := (some .int)) (rm := { frames := 0, cells := 0, slots := 0, locals := 0 }) (av := [.ref p0, .int p1]) (by decide) (Nat.le_of_ble_eq_true rfl) ho ?_
  intro p e s m args below meth c ls A Q hQ X hT hl
  have hx := X.1.1
  have hb := X.1.2.1
  have hl : lv_has ls 2 [(0, .ref p0), (1, .int p1)] := hl
  have rp1 := rg_all p1
  refine lv_iload_n hx hb dX11_sizeTold_0 rfl (lv_at hl 1 rfl) ?_
  by_cases c77529 : p1 = 0
  · have w77530 := cv_eq (rfl : p1.toInt = p1.toInt) (by decide : (0 : Int32).toInt = 0) c77529
    refine lv_tableIn (off := 43) (tgt := 44) hx hb dX11_sizeTold_1 (by rw [c77529]; decide) (by rw [c77529]; decide) (by rw [c77529]; decide) (by decide) ?_
    refine lv_aload_n hx hb dX11_sizeTold_44 rfl (lv_at hl 0 rfl) ?_
    refine t_get (C := RX11) (T := TX11) (N := 16) X hT m0 g0 rfl rfl 3 (by decide) qw_18 inlX11 rfl dX11_sizeTold_45 (fun v77531 hv77531 ov77531 => ?_)
    obtain ⟨b77532, rfl, mb77532, gb77532⟩ := okV_r ov77531
    have gb77532 : tag b77532 = 18 := tg_of gb77532
    refine t_get (C := RX1) (T := TX1) (N := 20) X hT mb77532 gb77532 rfl rfl 0 (by decide) qw_728 inlX1 rfl dX11_sizeTold_48 (fun v77533 hv77533 ov77533 => ?_)
    obtain ⟨z77534, rfl, rz77534⟩ := okV_i ov77533
    exact t_iret hQ X hT (⟨rfl, rg_all _⟩) (Nat.le_of_ble_eq_true rfl) (Nat.le_of_ble_eq_true rfl) dX11_sizeTold_51
  have w77535 := cv_ne (rfl : p1.toInt = p1.toInt) (by decide : (0 : Int32).toInt = 0) c77529
  by_cases c77536 : p1 = 1
  · have w77537 := cv_eq (rfl : p1.toInt = p1.toInt) (by decide : (1 : Int32).toInt = 1) c77536
    refine lv_tableIn (off := 51) (tgt := 52) hx hb dX11_sizeTold_1 (by rw [c77536]; decide) (by rw [c77536]; decide) (by rw [c77536]; decide) (by decide) ?_
    refine lv_aload_n hx hb dX11_sizeTold_52 rfl (lv_at hl 0 rfl) ?_
    refine t_get (C := RX11) (T := TX11) (N := 16) X hT m0 g0 rfl rfl 3 (by decide) qw_18 inlX11 rfl dX11_sizeTold_53 (fun v77538 hv77538 ov77538 => ?_)
    obtain ⟨b77539, rfl, mb77539, gb77539⟩ := okV_r ov77538
    have gb77539 : tag b77539 = 18 := tg_of gb77539
    refine t_get (C := RX1) (T := TX1) (N := 20) X hT mb77539 gb77539 rfl rfl 1 (by decide) qw_727 inlX1 rfl dX11_sizeTold_56 (fun v77540 hv77540 ov77540 => ?_)
    obtain ⟨z77541, rfl, rz77541⟩ := okV_i ov77540
    exact t_iret hQ X hT (⟨rfl, rg_all _⟩) (Nat.le_of_ble_eq_true rfl) (Nat.le_of_ble_eq_true rfl) dX11_sizeTold_59
  have w77542 := cv_ne (rfl : p1.toInt = p1.toInt) (by decide : (1 : Int32).toInt = 1) c77536
  by_cases c77543 : p1 = 2
  · have w77544 := cv_eq (rfl : p1.toInt = p1.toInt) (by decide : (2 : Int32).toInt = 2) c77543
    refine lv_tableIn (off := 59) (tgt := 60) hx hb dX11_sizeTold_1 (by rw [c77543]; decide) (by rw [c77543]; decide) (by rw [c77543]; decide) (by decide) ?_
    refine lv_aload_n hx hb dX11_sizeTold_60 rfl (lv_at hl 0 rfl) ?_
    refine t_get (C := RX11) (T := TX11) (N := 16) X hT m0 g0 rfl rfl 3 (by decide) qw_18 inlX11 rfl dX11_sizeTold_61 (fun v77545 hv77545 ov77545 => ?_)
    obtain ⟨b77546, rfl, mb77546, gb77546⟩ := okV_r ov77545
    have gb77546 : tag b77546 = 18 := tg_of gb77546
    refine t_get (C := RX1) (T := TX1) (N := 20) X hT mb77546 gb77546 rfl rfl 2 (by decide) qw_1584 inlX1 rfl dX11_sizeTold_64 (fun v77547 hv77547 ov77547 => ?_)
    obtain ⟨z77548, rfl, rz77548⟩ := okV_i ov77547
    refine lv_if_eq (tgt := 74) hx hb dX11_sizeTold_67 (by decide) (fun c77549 => ?_) (fun c77549 => ?_)
    · have w77550 := cv_eq (rfl : z77548.toInt = z77548.toInt) (by decide : (0 : Int32).toInt = 0) c77549
      refine lv_iconst (v := 0) hx hb dX11_sizeTold_74 (by decide) ?_
      exact t_iret hQ X hT (⟨rfl, rg_all _⟩) (Nat.le_of_ble_eq_true rfl) (Nat.le_of_ble_eq_true rfl) dX11_sizeTold_75
    · have w77551 := cv_ne (rfl : z77548.toInt = z77548.toInt) (by decide : (0 : Int32).toInt = 0) c77549
      refine lv_iconst (v := 1) hx hb dX11_sizeTold_70 (by decide) ?_
      refine lv_goto (tgt := 75) hx hb dX11_sizeTold_71 (by decide) ?_
      exact t_iret hQ X hT (⟨rfl, rg_all _⟩) (Nat.le_of_ble_eq_true rfl) (Nat.le_of_ble_eq_true rfl) dX11_sizeTold_75
  have w77552 := cv_ne (rfl : p1.toInt = p1.toInt) (by decide : (2 : Int32).toInt = 2) c77543
  by_cases c77553 : p1 = 3
  · have w77554 := cv_eq (rfl : p1.toInt = p1.toInt) (by decide : (3 : Int32).toInt = 3) c77553
    refine lv_tableIn (off := 75) (tgt := 76) hx hb dX11_sizeTold_1 (by rw [c77553]; decide) (by rw [c77553]; decide) (by rw [c77553]; decide) (by decide) ?_
    refine lv_aload_n hx hb dX11_sizeTold_76 rfl (lv_at hl 0 rfl) ?_
    refine t_get (C := RX11) (T := TX11) (N := 16) X hT m0 g0 rfl rfl 3 (by decide) qw_18 inlX11 rfl dX11_sizeTold_77 (fun v77555 hv77555 ov77555 => ?_)
    obtain ⟨b77556, rfl, mb77556, gb77556⟩ := okV_r ov77555
    have gb77556 : tag b77556 = 18 := tg_of gb77556
    refine t_get (C := RX1) (T := TX1) (N := 20) X hT mb77556 gb77556 rfl rfl 3 (by decide) qw_1585 inlX1 rfl dX11_sizeTold_80 (fun v77557 hv77557 ov77557 => ?_)
    obtain ⟨z77558, rfl, rz77558⟩ := okV_i ov77557
    refine lv_if_eq (tgt := 90) hx hb dX11_sizeTold_83 (by decide) (fun c77559 => ?_) (fun c77559 => ?_)
    · have w77560 := cv_eq (rfl : z77558.toInt = z77558.toInt) (by decide : (0 : Int32).toInt = 0) c77559
      refine lv_iconst (v := 0) hx hb dX11_sizeTold_90 (by decide) ?_
      exact t_iret hQ X hT (⟨rfl, rg_all _⟩) (Nat.le_of_ble_eq_true rfl) (Nat.le_of_ble_eq_true rfl) dX11_sizeTold_91
    · have w77561 := cv_ne (rfl : z77558.toInt = z77558.toInt) (by decide : (0 : Int32).toInt = 0) c77559
      refine lv_iconst (v := 1) hx hb dX11_sizeTold_86 (by decide) ?_
      refine lv_goto (tgt := 91) hx hb dX11_sizeTold_87 (by decide) ?_
      exact t_iret hQ X hT (⟨rfl, rg_all _⟩) (Nat.le_of_ble_eq_true rfl) (Nat.le_of_ble_eq_true rfl) dX11_sizeTold_91
  have w77562 := cv_ne (rfl : p1.toInt = p1.toInt) (by decide : (3 : Int32).toInt = 3) c77553
  by_cases c77563 : p1 = 4
  · have w77564 := cv_eq (rfl : p1.toInt = p1.toInt) (by decide : (4 : Int32).toInt = 4) c77563
    refine lv_tableIn (off := 91) (tgt := 92) hx hb dX11_sizeTold_1 (by rw [c77563]; decide) (by rw [c77563]; decide) (by rw [c77563]; decide) (by decide) ?_
    refine lv_aload_n hx hb dX11_sizeTold_92 rfl (lv_at hl 0 rfl) ?_
    refine t_get (C := RX11) (T := TX11) (N := 16) X hT m0 g0 rfl rfl 3 (by decide) qw_18 inlX11 rfl dX11_sizeTold_93 (fun v77565 hv77565 ov77565 => ?_)
    obtain ⟨b77566, rfl, mb77566, gb77566⟩ := okV_r ov77565
    have gb77566 : tag b77566 = 18 := tg_of gb77566
    refine t_get (C := RX1) (T := TX1) (N := 20) X hT mb77566 gb77566 rfl rfl 8 (by decide) qw_958 inlX1 rfl dX11_sizeTold_96 (fun v77567 hv77567 ov77567 => ?_)
    obtain ⟨z77568, rfl, rz77568⟩ := okV_i ov77567
    exact t_iret hQ X hT (⟨rfl, rg_all _⟩) (Nat.le_of_ble_eq_true rfl) (Nat.le_of_ble_eq_true rfl) dX11_sizeTold_99
  have w77569 := cv_ne (rfl : p1.toInt = p1.toInt) (by decide : (4 : Int32).toInt = 4) c77563
  by_cases c77570 : p1 = 5
  · have w77571 := cv_eq (rfl : p1.toInt = p1.toInt) (by decide : (5 : Int32).toInt = 5) c77570
    refine lv_tableIn (off := 99) (tgt := 100) hx hb dX11_sizeTold_1 (by rw [c77570]; decide) (by rw [c77570]; decide) (by rw [c77570]; decide) (by decide) ?_
    refine lv_aload_n hx hb dX11_sizeTold_100 rfl (lv_at hl 0 rfl) ?_
    refine t_get (C := RX11) (T := TX11) (N := 16) X hT m0 g0 rfl rfl 3 (by decide) qw_18 inlX11 rfl dX11_sizeTold_101 (fun v77572 hv77572 ov77572 => ?_)
    obtain ⟨b77573, rfl, mb77573, gb77573⟩ := okV_r ov77572
    have gb77573 : tag b77573 = 18 := tg_of gb77573
    refine t_get (C := RX1) (T := TX1) (N := 20) X hT mb77573 gb77573 rfl rfl 10 (by decide) qw_151 inlX1 rfl dX11_sizeTold_104 (fun v77574 hv77574 ov77574 => ?_)
    obtain ⟨z77575, rfl, rz77575⟩ := okV_i ov77574
    exact t_iret hQ X hT (⟨rfl, rg_all _⟩) (Nat.le_of_ble_eq_true rfl) (Nat.le_of_ble_eq_true rfl) dX11_sizeTold_107
  have w77576 := cv_ne (rfl : p1.toInt = p1.toInt) (by decide : (5 : Int32).toInt = 5) c77570
  by_cases c77577 : p1 = 6
  · have w77578 := cv_eq (rfl : p1.toInt = p1.toInt) (by decide : (6 : Int32).toInt = 6) c77577
    refine lv_tableIn (off := 107) (tgt := 108) hx hb dX11_sizeTold_1 (by rw [c77577]; decide) (by rw [c77577]; decide) (by rw [c77577]; decide) (by decide) ?_
    refine lv_aload_n hx hb dX11_sizeTold_108 rfl (lv_at hl 0 rfl) ?_
    refine t_get (C := RX11) (T := TX11) (N := 16) X hT m0 g0 rfl rfl 3 (by decide) qw_18 inlX11 rfl dX11_sizeTold_109 (fun v77579 hv77579 ov77579 => ?_)
    obtain ⟨b77580, rfl, mb77580, gb77580⟩ := okV_r ov77579
    have gb77580 : tag b77580 = 18 := tg_of gb77580
    refine t_get (C := RX1) (T := TX1) (N := 20) X hT mb77580 gb77580 rfl rfl 14 (by decide) qw_891 inlX1 rfl dX11_sizeTold_112 (fun v77581 hv77581 ov77581 => ?_)
    obtain ⟨z77582, rfl, rz77582⟩ := okV_i ov77581
    exact t_iret hQ X hT (⟨rfl, rg_all _⟩) (Nat.le_of_ble_eq_true rfl) (Nat.le_of_ble_eq_true rfl) dX11_sizeTold_115
  have w77583 := cv_ne (rfl : p1.toInt = p1.toInt) (by decide : (6 : Int32).toInt = 6) c77577
  refine lv_tableOut (tgt := 116) hx hb dX11_sizeTold_1 (by omega) (by decide) ?_
  refine lv_aload_n hx hb dX11_sizeTold_116 rfl (lv_at hl 0 rfl) ?_
  refine t_get (C := RX11) (T := TX11) (N := 16) X hT m0 g0 rfl rfl 3 (by decide) qw_18 inlX11 rfl dX11_sizeTold_117 (fun v77584 hv77584 ov77584 => ?_)
  obtain ⟨b77585, rfl, mb77585, gb77585⟩ := okV_r ov77584
  have gb77585 : tag b77585 = 18 := tg_of gb77585
  refine t_get (C := RX1) (T := TX1) (N := 20) X hT mb77585 gb77585 rfl rfl 16 (by decide) qw_1383 inlX1 rfl dX11_sizeTold_120 (fun v77586 hv77586 ov77586 => ?_)
  obtain ⟨z77587, rfl, rz77587⟩ := okV_i ov77586
  exact t_iret hQ X hT (⟨rfl, rg_all _⟩) (Nat.le_of_ble_eq_true rfl) (Nat.le_of_ble_eq_true rfl) dX11_sizeTold_123
set_option maxHeartbeats 4000000 in
set_option maxRecDepth 100000 in
theorem kt177_X11_size (l : Launch) (G : KG) (tag : Nat → Nat) (L : List Nat) (F : Nat → va_E) (ho : okT G ttC tag L F) (p0 : Nat) (p1 : Int32) (m0 : p0 ∈ L) (g0 : tag p0 = 26) : TMi l yX11_size cX11_size 2 (some .int) { frames := 1, cells := 0, slots := 0, locals := 21 } G ttC tag L F [.ref p0, .int p1] (fun r F1 => F1 = F ∧ ((-2147483648) ≤ r.toInt ∧ r.toInt ≤ 2147483647)) := by
  refine t_bodyi (y := yX11_size) (cd := cX11_size) (mL := 2) (rt := (some .int)) (rm := { frames := 1, cells := 0, slots := 0, locals := 21 }) (av := [.ref p0, .int p1]) (by decide) (Nat.le_of_ble_eq_true rfl) ho ?_
  intro p e s m args below meth c ls A Q hQ X hT hl
  have hx := X.1.1
  have hb := X.1.2.1
  have hl : lv_has ls 2 [(0, .ref p0), (1, .int p1)] := hl
  have rp1 := rg_all p1
  refine lv_iload_n hx hb dX11_size_0 rfl (lv_at hl 1 rfl) ?_
  refine lv_bipush (v := 12) hx hb dX11_size_1 (by decide) ?_
  refine lv_icmp_ne (tgt := 11) hx hb dX11_size_3 (by decide) (fun c77804 => ?_) (fun c77804 => ?_)
  · have w77805 := cv_ne (rfl : p1.toInt = p1.toInt) (by decide : (12 : Int32).toInt = 12) c77804
    refine lv_iload_n hx hb dX11_size_11 rfl (lv_at hl 1 rfl) ?_
    refine lv_if_lt (tgt := 21) hx hb dX11_size_12 (by decide) (fun c77806 => ?_) (fun c77806 => ?_)
    · have w77807 := cv_lt (rfl : p1.toInt = p1.toInt) (by decide : (0 : Int32).toInt = 0) c77806
      refine lv_iconst (v := (-1)) hx hb dX11_size_21 (by decide) ?_
      exact t_iret hQ X hT (⟨rfl, rg_all _⟩) (Nat.le_of_ble_eq_true rfl) (Nat.le_of_ble_eq_true rfl) dX11_size_22
    · have w77808 := cv_nlt (rfl : p1.toInt = p1.toInt) (by decide : (0 : Int32).toInt = 0) c77806
      refine lv_iload_n hx hb dX11_size_15 rfl (lv_at hl 1 rfl) ?_
      refine lv_bipush (v := 12) hx hb dX11_size_16 (by decide) ?_
      refine lv_icmp_le (tgt := 23) hx hb dX11_size_18 (by decide) (fun c77809 => ?_) (fun c77809 => ?_)
      · have w77810 := cv_le (rfl : p1.toInt = p1.toInt) (by decide : (12 : Int32).toInt = 12) c77809
        refine lv_aload_n hx hb dX11_size_23 rfl (lv_at hl 0 rfl) ?_
        refine t_get (C := RX11) (T := TX11) (N := 16) X hT m0 g0 rfl rfl 2 (by decide) qw_150 inlX11 rfl dX11_size_24 (fun v77811 hv77811 ov77811 => ?_)
        obtain ⟨z77812, rfl, rz77812⟩ := okV_i ov77811
        refine lv_if_ne (tgt := 32) hx hb dX11_size_27 (by decide) (fun c77813 => ?_) (fun c77813 => ?_)
        · have w77814 := cv_ne (rfl : z77812.toInt = z77812.toInt) (by decide : (0 : Int32).toInt = 0) c77813
          refine lv_iload_n hx hb dX11_size_32 rfl (lv_at hl 1 rfl) ?_
          refine lv_bipush (v := 8) hx hb dX11_size_33 (by decide) ?_
          refine lv_icmp_ge (tgt := 46) hx hb dX11_size_35 (by decide) (fun c77815 => ?_) (fun c77815 => ?_)
          · have w77816 := cv_le (by decide : (8 : Int32).toInt = 8) (rfl : p1.toInt = p1.toInt) c77815
            refine lv_aload_n hx hb dX11_size_46 rfl (lv_at hl 0 rfl) ?_
            refine lv_iload_n hx hb dX11_size_47 rfl (lv_at hl 1 rfl) ?_
            refine t_cVi (n := 1) (C := RX11) (T := TX11) (N := 16) (As := [.int p1]) (rest := []) X hT (kt175_X11_sizeNow l G tag L F hT.2.2.2 p0 p1 m0 g0) m0 g0 rfl rfl qw_1586 qw_1587 qw_1588 qw_2 qw_1589 ⟨rfl, by decide +kernel, by decide +kernel, by decide +kernel⟩ ⟨Nat.le_of_ble_eq_true rfl, Nat.le_of_ble_eq_true rfl⟩ hl rfl rfl (Nat.le_of_ble_eq_true rfl) dX11_size_48 ⟨Nat.le_of_ble_eq_true rfl, Nat.le_of_ble_eq_true rfl⟩ (fun z77817 F9 H locs hT hz77817 => ?_)
            obtain ⟨fz77817, hz77817⟩ := hz77817
            rw [fz77817] at hT
            exact t_iret hQ X hT (⟨rfl, rg_all _⟩) (Nat.le_of_ble_eq_true rfl) (Nat.le_of_ble_eq_true rfl) dX11_size_51
          · have w77818 := cv_nle (by decide : (8 : Int32).toInt = 8) (rfl : p1.toInt = p1.toInt) c77815
            refine lv_aload_n hx hb dX11_size_38 rfl (lv_at hl 0 rfl) ?_
            refine lv_iload_n hx hb dX11_size_39 rfl (lv_at hl 1 rfl) ?_
            refine t_cVi (n := 1) (C := RX11) (T := TX11) (N := 16) (As := [.int p1]) (rest := []) X hT (kt176_X11_sizeTold l G tag L F hT.2.2.2 p0 p1 m0 g0) m0 g0 rfl rfl qw_1580 qw_1581 qw_1582 qw_2 qw_1583 ⟨rfl, by decide +kernel, by decide +kernel, by decide +kernel⟩ ⟨Nat.le_of_ble_eq_true rfl, Nat.le_of_ble_eq_true rfl⟩ hl rfl rfl (Nat.le_of_ble_eq_true rfl) dX11_size_40 ⟨Nat.le_of_ble_eq_true rfl, Nat.le_of_ble_eq_true rfl⟩ (fun z77819 F9 H locs hT hz77819 => ?_)
            obtain ⟨fz77819, hz77819⟩ := hz77819
            rw [fz77819] at hT
            refine lv_goto (tgt := 51) hx hb dX11_size_43 (by decide) ?_
            exact t_iret hQ X hT (⟨rfl, rg_all _⟩) (Nat.le_of_ble_eq_true rfl) (Nat.le_of_ble_eq_true rfl) dX11_size_51
        · have w77820 := cv_eq (rfl : z77812.toInt = z77812.toInt) (by decide : (0 : Int32).toInt = 0) c77813
          refine lv_iconst (v := 0) hx hb dX11_size_30 (by decide) ?_
          exact t_iret hQ X hT (⟨rfl, rg_all _⟩) (Nat.le_of_ble_eq_true rfl) (Nat.le_of_ble_eq_true rfl) dX11_size_31
      · have w77821 := cv_nle (rfl : p1.toInt = p1.toInt) (by decide : (12 : Int32).toInt = 12) c77809
        refine lv_iconst (v := (-1)) hx hb dX11_size_21 (by decide) ?_
        exact t_iret hQ X hT (⟨rfl, rg_all _⟩) (Nat.le_of_ble_eq_true rfl) (Nat.le_of_ble_eq_true rfl) dX11_size_22
  · have w77822 := cv_eq (rfl : p1.toInt = p1.toInt) (by decide : (12 : Int32).toInt = 12) c77804
    refine lv_aload_n hx hb dX11_size_6 rfl (lv_at hl 0 rfl) ?_
    refine t_get (C := RX11) (T := TX11) (N := 16) X hT m0 g0 rfl rfl 1 (by decide) qw_131 inlX11 rfl dX11_size_7 (fun v77823 hv77823 ov77823 => ?_)
    obtain ⟨z77824, rfl, rz77824⟩ := okV_i ov77823
    exact t_iret hQ X hT (⟨rfl, rg_all _⟩) (Nat.le_of_ble_eq_true rfl) (Nat.le_of_ble_eq_true rfl) dX11_size_10
set_option maxHeartbeats 4000000 in
set_option maxRecDepth 100000 in
theorem kt178_X11_skin (l : Launch) (G : KG) (tag : Nat → Nat) (L : List Nat) (Fo : Nat → va_E) (ho : okT G ttC tag L Fo) (p0 : Nat) (p1 : Int32) (p2 : Int32) (p3 : Int32) (m0 : p0 ∈ L) (g0 : tag p0 = 26) : TMi l yX11_skin cX11_skin 4 (some .int) { frames := 3, cells := 0, slots := 0, locals := 65 } G ttC tag L Fo [.ref p0, .int p1, .int p2, .int p3] (fun r F1 => ((-2147483648) ≤ r.toInt ∧ r.toInt ≤ 2147483647) ∧ ((∀ b j : Nat, (tag b ≠ 26 ∨ j ≠ 13) → fld F1 b j = fld Fo b j) ∧ EF tag F1 Fo)) := by
  refine t_bodyi (y := yX11_skin) (cd := cX11_skin) (mL := 4) (rt := (some .int)) (rm := { frames := 3, cells := 0, slots := 0, locals := 65 }) (av := [.ref p0, .int p1, .int p2, .int p3]) (by decide) (Nat.le_of_ble_eq_true rfl) ho ?_
  intro p e s m args below meth c ls A Q hQ X hT hl
  have hx := X.1.1
  have hb := X.1.2.1
  have hl : lv_has ls 4 [(0, .ref p0), (1, .int p1), (2, .int p2), (3, .int p3)] := hl
  have rp1 := rg_all p1
  have rp2 := rg_all p2
  have rp3 := rg_all p3
  obtain ⟨F, hFo⟩ : ∃ F : Nat → va_E, F = Fo := ⟨_, rfl⟩
  rw [← hFo] at hT
  have hfr : (∀ b j : Nat, (tag b ≠ 26 ∨ j ≠ 13) → fld F b j = fld Fo b j) ∧ EF tag F Fo := by
    rw [hFo]
    exact ⟨by intros; rfl, fun _ _ _ => rfl⟩
  have K19 : ∀  (F : Nat → va_E) (H : Heap) (locs : List Loc) (ls : Array Slot), TH G ttC A s tag L F H locs → ((∀ b j : Nat, (tag b ≠ 26 ∨ j ≠ 13) → fld F b j = fld Fo b j) ∧ EF tag F Fo) → lv_has ls 4 [(0, .ref p0), (1, .int p1), (2, .int p2), (3, .int p3)] → W p l e { frames := 3, cells := 0, slots := 0, locals := 65 } s m args below meth c H locs 0 0 Q (F0 m 19 ls []) := by
    intro F H locs ls hT hfr hl
    refine lv_aload_n hx hb dX11_skin_19 rfl (lv_at hl 0 rfl) ?_
    refine lv_iconst (v := 1) hx hb dX11_skin_20 (by decide) ?_
    refine t_cVi (n := 1) (C := RX11) (T := TX11) (N := 16) (As := [.int 1]) (rest := []) X hT (kt63_X11_refuse l G tag L F hT.2.2.2 p0 1 m0 g0) m0 g0 rfl rfl qw_152 qw_153 qw_154 qw_2 qw_155 ⟨rfl, by decide +kernel, by decide +kernel, by decide +kernel⟩ ⟨Nat.le_of_ble_eq_true rfl, Nat.le_of_ble_eq_true rfl⟩ hl rfl rfl (Nat.le_of_ble_eq_true rfl) dX11_skin_21 ⟨Nat.le_of_ble_eq_true rfl, Nat.le_of_ble_eq_true rfl⟩ (fun z78023 F H locs hT hz78023 => ?_)
    obtain ⟨hz78023, yz78023⟩ := hz78023
    have hfr : (∀ b j : Nat, (tag b ≠ 26 ∨ j ≠ 13) → fld F b j = fld Fo b j) ∧ EF tag F Fo := ⟨fun b j n26_13 => (yz78023.1 b j n26_13).trans (hfr.1 b j n26_13), fun b j hb => (yz78023.2 b j hb).trans (hfr.2 b j hb)⟩
    exact t_iret hQ X hT (⟨rg_all _, hfr⟩) (Nat.le_of_ble_eq_true rfl) (Nat.le_of_ble_eq_true rfl) dX11_skin_24
  refine lv_aload_n hx hb dX11_skin_0 rfl (lv_at hl 0 rfl) ?_
  refine lv_iload_n hx hb dX11_skin_1 rfl (lv_at hl 1 rfl) ?_
  refine lv_iload_n hx hb dX11_skin_2 rfl (lv_at hl 2 rfl) ?_
  refine t_cVi (n := 2) (C := RX11) (T := TX11) (N := 16) (As := [.int p1, .int p2]) (rest := []) X hT (kt70_X11_isSkin l G tag L F hT.2.2.2 p0 p1 p2 m0 g0) m0 g0 rfl rfl qw_823 qw_824 qw_825 qw_2 qw_826 ⟨rfl, by decide +kernel, by decide +kernel, by decide +kernel⟩ ⟨Nat.le_of_ble_eq_true rfl, Nat.le_of_ble_eq_true rfl⟩ hl rfl rfl (Nat.le_of_ble_eq_true rfl) dX11_skin_3 ⟨Nat.le_of_ble_eq_true rfl, Nat.le_of_ble_eq_true rfl⟩ (fun z78024 F9 H locs hT hz78024 => ?_)
  obtain ⟨fz78024, hz78024⟩ := hz78024
  rw [fz78024] at hT
  obtain ⟨hz78024, iz78024⟩ := hz78024
  refine lv_if_eq (tgt := 19) hx hb dX11_skin_6 (by decide) (fun c78025 => ?_) (fun c78025 => ?_)
  · have w78026 := cv_eq (rfl : z78024.toInt = z78024.toInt) (by decide : (0 : Int32).toInt = 0) c78025
    exact K19  _ _ _ _  hT hfr  (lv_sub hl [0, 1, 2, 3] rfl)
  · have w78027 := cv_ne (rfl : z78024.toInt = z78024.toInt) (by decide : (0 : Int32).toInt = 0) c78025
    have w78028 := (fun h => (iz78024 h).1) (by omega)
    have w78029 := (fun h => (iz78024 h).2) (by omega)
    refine lv_iload_n hx hb dX11_skin_9 rfl (lv_at hl 3 rfl) ?_
    refine lv_if_lt (tgt := 19) hx hb dX11_skin_10 (by decide) (fun c78030 => ?_) (fun c78030 => ?_)
    · have w78031 := cv_lt (rfl : p3.toInt = p3.toInt) (by decide : (0 : Int32).toInt = 0) c78030
      exact K19  _ _ _ _  hT hfr  (lv_sub hl [0, 1, 2, 3] rfl)
    · have w78032 := cv_nlt (rfl : p3.toInt = p3.toInt) (by decide : (0 : Int32).toInt = 0) c78030
      refine lv_iload_n hx hb dX11_skin_13 rfl (lv_at hl 3 rfl) ?_
      refine lv_bipush (v := 8) hx hb dX11_skin_14 (by decide) ?_
      refine lv_icmp_lt (tgt := 25) hx hb dX11_skin_16 (by decide) (fun c78033 => ?_) (fun c78033 => ?_)
      · have w78034 := cv_lt (rfl : p3.toInt = p3.toInt) (by decide : (8 : Int32).toInt = 8) c78033
        refine lv_aload_n hx hb dX11_skin_25 rfl (lv_at hl 0 rfl) ?_
        refine lv_aload_n hx hb dX11_skin_26 rfl (lv_at hl 0 rfl) ?_
        refine t_get (C := RX11) (T := TX11) (N := 16) X hT m0 g0 rfl rfl 5 (by decide) qw_23 inlX11 rfl dX11_skin_27 (fun v78035 hv78035 ov78035 => ?_)
        obtain ⟨b78036, rfl, mb78036, gb78036⟩ := okV_r ov78035
        have gb78036 : tag b78036 = 19 := tg_of gb78036
        refine lv_iload_n hx hb dX11_skin_30 rfl (lv_at hl 1 rfl) ?_
        refine lv_iload_n hx hb dX11_skin_31 rfl (lv_at hl 2 rfl) ?_
        refine lv_iload_n hx hb dX11_skin_32 rfl (lv_at hl 3 rfl) ?_
        refine t_cVi (n := 3) (C := RX7) (T := TX7) (N := 7) (As := [.int p1, .int p2, .int p3]) (rest := [.ref p0]) X hT (kt15_X7_partOf l G tag L F hT.2.2.2 b78036 p1 p2 p3 mb78036 gb78036) mb78036 gb78036 rfl rfl qw_831 qw_778 qw_779 qw_22 qw_780 ⟨rfl, by decide +kernel, by decide +kernel, by decide +kernel⟩ ⟨Nat.le_of_ble_eq_true rfl, Nat.le_of_ble_eq_true rfl⟩ hl rfl rfl (Nat.le_of_ble_eq_true rfl) dX11_skin_33 ⟨Nat.le_of_ble_eq_true rfl, Nat.le_of_ble_eq_true rfl⟩ (fun z78037 F9 H locs hT hz78037 => ?_)
        obtain ⟨fz78037, hz78037⟩ := hz78037
        rw [fz78037] at hT
        refine t_cVi (n := 1) (C := RX11) (T := TX11) (N := 16) (As := [.int z78037]) (rest := []) X hT (kt56_X11_answer l G tag L F hT.2.2.2 p0 z78037 m0 g0) m0 g0 rfl rfl qw_463 qw_464 qw_465 qw_2 qw_466 ⟨rfl, by decide +kernel, by decide +kernel, by decide +kernel⟩ ⟨Nat.le_of_ble_eq_true rfl, Nat.le_of_ble_eq_true rfl⟩ hl rfl rfl (Nat.le_of_ble_eq_true rfl) dX11_skin_36 ⟨Nat.le_of_ble_eq_true rfl, Nat.le_of_ble_eq_true rfl⟩ (fun z78038 F H locs hT hz78038 => ?_)
        obtain ⟨hz78038, yz78038⟩ := hz78038
        have hv78035 := (yz78038.1 _ 5 (Or.inr (by decide))).trans hv78035
        have hfr : (∀ b j : Nat, (tag b ≠ 26 ∨ j ≠ 13) → fld F b j = fld Fo b j) ∧ EF tag F Fo := ⟨fun b j n26_13 => (yz78038.1 b j n26_13).trans (hfr.1 b j n26_13), fun b j hb => (yz78038.2 b j hb).trans (hfr.2 b j hb)⟩
        exact t_iret hQ X hT (⟨rg_all _, hfr⟩) (Nat.le_of_ble_eq_true rfl) (Nat.le_of_ble_eq_true rfl) dX11_skin_39
      · have w78039 := cv_nlt (rfl : p3.toInt = p3.toInt) (by decide : (8 : Int32).toInt = 8) c78033
        exact K19  _ _ _ _  hT hfr  (lv_sub hl [0, 1, 2, 3] rfl)
