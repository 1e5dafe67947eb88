set_option maxHeartbeats 4000000 in
set_option maxRecDepth 100000 in
theorem kt119_X11_round (l : Launch) (G : KG) (tag : Nat → Nat) (L : List Nat) (Fo : Nat → va_E) (ho : okT G ttC tag L Fo) (p0 : Nat) (p1 : Int32) (p2 : Int32) (m0 : p0 ∈ L) (g0 : tag p0 = 26) : TMi l yX11_round cX11_round 3 (some .int) { frames := 3, cells := 0, slots := 0, locals := 68 } G ttC tag L Fo [.ref p0, .int p1, .int p2] (fun r F1 => ((-2147483648) ≤ r.toInt ∧ r.toInt ≤ 2147483647) ∧ ((∀ b j : Nat, (tag b ≠ 26 ∨ j ≠ 13) → fld F1 b j = fld Fo b j) ∧ EF tag F1 Fo)) := by
  refine t_bodyi (y := yX11_round) (cd := cX11_round) (mL := 3) (rt := (some .int)) (rm := { frames := 3, cells := 0, slots := 0, locals := 68 }) (av := [.ref p0, .int p1, .int p2]) (by decide) (Nat.le_of_ble_eq_true rfl) ho ?_
  intro p e s m args below meth c ls A Q hQ X hT hl
  have hx := X.1.1
  have hb := X.1.2.1
  have hl : lv_has ls 3 [(0, .ref p0), (1, .int p1), (2, .int p2)] := hl
  have rp1 := rg_all p1
  have rp2 := rg_all p2
  obtain ⟨F, hFo⟩ : ∃ F : Nat → va_E, F = Fo := ⟨_, rfl⟩
  rw [← hFo] at hT
  have hfr : (∀ b j : Nat, (tag b ≠ 26 ∨ j ≠ 13) → fld F b j = fld Fo b j) ∧ EF tag F Fo := by
    rw [hFo]
    exact ⟨by intros; rfl, fun _ _ _ => rfl⟩
  have K14 : ∀  (F : Nat → va_E) (H : Heap) (locs : List Loc) (ls : Array Slot), TH G ttC A s tag L F H locs → ((∀ b j : Nat, (tag b ≠ 26 ∨ j ≠ 13) → fld F b j = fld Fo b j) ∧ EF tag F Fo) → lv_has ls 3 [(0, .ref p0), (1, .int p1), (2, .int p2)] → W p l e { frames := 3, cells := 0, slots := 0, locals := 68 } s m args below meth c H locs 0 0 Q (F0 m 14 ls []) := by
    intro F H locs ls hT hfr hl
    refine lv_aload_n hx hb dX11_round_14 rfl (lv_at hl 0 rfl) ?_
    refine lv_iconst (v := 1) hx hb dX11_round_15 (by decide) ?_
    refine t_cVi (n := 1) (C := RX11) (T := TX11) (N := 16) (As := [.int 1]) (rest := []) X hT (kt63_X11_refuse l G tag L F hT.2.2.2 p0 1 m0 g0) m0 g0 rfl rfl qw_152 qw_153 qw_154 qw_2 qw_155 ⟨rfl, by decide +kernel, by decide +kernel, by decide +kernel⟩ ⟨Nat.le_of_ble_eq_true rfl, Nat.le_of_ble_eq_true rfl⟩ hl rfl rfl (Nat.le_of_ble_eq_true rfl) dX11_round_16 ⟨Nat.le_of_ble_eq_true rfl, Nat.le_of_ble_eq_true rfl⟩ (fun z45755 F H locs hT hz45755 => ?_)
    obtain ⟨hz45755, yz45755⟩ := hz45755
    have hfr : (∀ b j : Nat, (tag b ≠ 26 ∨ j ≠ 13) → fld F b j = fld Fo b j) ∧ EF tag F Fo := ⟨fun b j n26_13 => (yz45755.1 b j n26_13).trans (hfr.1 b j n26_13), fun b j hb => (yz45755.2 b j hb).trans (hfr.2 b j hb)⟩
    exact t_iret hQ X hT (⟨rg_all _, hfr⟩) (Nat.le_of_ble_eq_true rfl) (Nat.le_of_ble_eq_true rfl) dX11_round_19
  refine lv_aload_n hx hb dX11_round_0 rfl (lv_at hl 0 rfl) ?_
  refine lv_iload_n hx hb dX11_round_1 rfl (lv_at hl 1 rfl) ?_
  refine lv_iload_n hx hb dX11_round_2 rfl (lv_at hl 2 rfl) ?_
  refine t_cVi (n := 2) (C := RX11) (T := TX11) (N := 16) (As := [.int p1, .int p2]) (rest := []) X hT (kt70_X11_isSkin l G tag L F hT.2.2.2 p0 p1 p2 m0 g0) m0 g0 rfl rfl qw_823 qw_824 qw_825 qw_2 qw_826 ⟨rfl, by decide +kernel, by decide +kernel, by decide +kernel⟩ ⟨Nat.le_of_ble_eq_true rfl, Nat.le_of_ble_eq_true rfl⟩ hl rfl rfl (Nat.le_of_ble_eq_true rfl) dX11_round_3 ⟨Nat.le_of_ble_eq_true rfl, Nat.le_of_ble_eq_true rfl⟩ (fun z45756 F9 H locs hT hz45756 => ?_)
  obtain ⟨fz45756, hz45756⟩ := hz45756
  rw [fz45756] at hT
  obtain ⟨hz45756, iz45756⟩ := hz45756
  refine lv_if_eq (tgt := 14) hx hb dX11_round_6 (by decide) (fun c45757 => ?_) (fun c45757 => ?_)
  · have w45758 := cv_eq (rfl : z45756.toInt = z45756.toInt) (by decide : (0 : Int32).toInt = 0) c45757
    exact K14  _ _ _ _  hT hfr  (lv_sub hl [0, 1, 2] rfl)
  · have w45759 := cv_ne (rfl : z45756.toInt = z45756.toInt) (by decide : (0 : Int32).toInt = 0) c45757
    have w45760 := (fun h => (iz45756 h).1) (by omega)
    have w45761 := (fun h => (iz45756 h).2) (by omega)
    refine lv_iload_n hx hb dX11_round_9 rfl (lv_at hl 2 rfl) ?_
    refine lv_iconst (v := 2) hx hb dX11_round_10 (by decide) ?_
    refine lv_icmp_ge (tgt := 20) hx hb dX11_round_11 (by decide) (fun c45762 => ?_) (fun c45762 => ?_)
    · have w45763 := cv_le (by decide : (2 : Int32).toInt = 2) (rfl : p2.toInt = p2.toInt) c45762
      refine lv_aload_n hx hb dX11_round_20 rfl (lv_at hl 0 rfl) ?_
      refine lv_aload_n hx hb dX11_round_21 rfl (lv_at hl 0 rfl) ?_
      refine t_get (C := RX11) (T := TX11) (N := 16) X hT m0 g0 rfl rfl 5 (by decide) qw_23 inlX11 rfl dX11_round_22 (fun v45764 hv45764 ov45764 => ?_)
      obtain ⟨b45765, rfl, mb45765, gb45765⟩ := okV_r ov45764
      have gb45765 : tag b45765 = 19 := tg_of gb45765
      refine lv_iload_n hx hb dX11_round_25 rfl (lv_at hl 1 rfl) ?_
      refine lv_iload_n hx hb dX11_round_26 rfl (lv_at hl 2 rfl) ?_
      refine t_cVi (n := 2) (C := RX7) (T := TX7) (N := 7) (As := [.int p1, .int p2]) (rest := [.ref p0]) X hT (kt25_X7_roundIn l G tag L F hT.2.2.2 b45765 p1 p2 mb45765 gb45765) mb45765 gb45765 rfl rfl qw_1083 qw_989 qw_990 qw_22 qw_991 ⟨rfl, by decide +kernel, by decide +kernel, by decide +kernel⟩ ⟨Nat.le_of_ble_eq_true rfl, Nat.le_of_ble_eq_true rfl⟩ hl rfl rfl (Nat.le_of_ble_eq_true rfl) dX11_round_27 ⟨Nat.le_of_ble_eq_true rfl, Nat.le_of_ble_eq_true rfl⟩ (fun z45766 F9 H locs hT hz45766 => ?_)
      obtain ⟨fz45766, hz45766⟩ := hz45766
      rw [fz45766] at hT
      refine t_cVi (n := 1) (C := RX11) (T := TX11) (N := 16) (As := [.int z45766]) (rest := []) X hT (kt56_X11_answer l G tag L F hT.2.2.2 p0 z45766 m0 g0) m0 g0 rfl rfl qw_463 qw_464 qw_465 qw_2 qw_466 ⟨rfl, by decide +kernel, by decide +kernel, by decide +kernel⟩ ⟨Nat.le_of_ble_eq_true rfl, Nat.le_of_ble_eq_true rfl⟩ hl rfl rfl (Nat.le_of_ble_eq_true rfl) dX11_round_30 ⟨Nat.le_of_ble_eq_true rfl, Nat.le_of_ble_eq_true rfl⟩ (fun z45767 F H locs hT hz45767 => ?_)
      obtain ⟨hz45767, yz45767⟩ := hz45767
      have hv45764 := (yz45767.1 _ 5 (Or.inr (by decide))).trans hv45764
      have hfr : (∀ b j : Nat, (tag b ≠ 26 ∨ j ≠ 13) → fld F b j = fld Fo b j) ∧ EF tag F Fo := ⟨fun b j n26_13 => (yz45767.1 b j n26_13).trans (hfr.1 b j n26_13), fun b j hb => (yz45767.2 b j hb).trans (hfr.2 b j hb)⟩
      exact t_iret hQ X hT (⟨rg_all _, hfr⟩) (Nat.le_of_ble_eq_true rfl) (Nat.le_of_ble_eq_true rfl) dX11_round_33
    · have w45768 := cv_nle (by decide : (2 : Int32).toInt = 2) (rfl : p2.toInt = p2.toInt) c45762
      exact K14  _ _ _ _  hT hfr  (lv_sub hl [0, 1, 2] rfl)
set_option maxHeartbeats 4000000 in
set_option maxRecDepth 100000 in
theorem kt120_X11_seed (l : Launch) (G : KG) (tag : Nat → Nat) (L : List Nat) (Fo : Nat → va_E) (ho : okT G ttC tag L Fo) (p0 : Nat) (p1 : Int32) (m0 : p0 ∈ L) (g0 : tag p0 = 26) : TMi l yX11_seed cX11_seed 2 (some .boolean) { frames := 1, cells := 0, slots := 0, locals := 21 } G ttC tag L Fo [.ref p0, .int p1] (fun r F1 => (0 ≤ r.toInt ∧ r.toInt ≤ 1) ∧ ((∀ b j : Nat, (tag b ≠ 19 ∨ j ≠ 1) → (tag b ≠ 26 ∨ j ≠ 13) → fld F1 b j = fld Fo b j) ∧ EF tag F1 Fo)) := by
  refine t_bodyi (y := yX11_seed) (cd := cX11_seed) (mL := 2) (rt := (some .boolean)) (rm := { frames := 1, cells := 0, slots := 0, locals := 21 }) (av := [.ref p0, .int p1]) (by decide) (Nat.le_of_ble_eq_true rfl) ho ?_
  intro p e s m args below meth c ls A Q hQ X hT hl
  have hx := X.1.1
  have hb := X.1.2.1
  have hl : lv_has ls 2 [(0, .ref p0), (1, .int p1)] := hl
  have rp1 := rg_all p1
  obtain ⟨F, hFo⟩ : ∃ F : Nat → va_E, F = Fo := ⟨_, rfl⟩
  rw [← hFo] at hT
  have hfr : (∀ b j : Nat, (tag b ≠ 19 ∨ j ≠ 1) → (tag b ≠ 26 ∨ j ≠ 13) → fld F b j = fld Fo b j) ∧ EF tag F Fo := by
    rw [hFo]
    exact ⟨by intros; rfl, fun _ _ _ => rfl⟩
  have K24 : ∀ (z45967 : Int32) (F : Nat → va_E) (H : Heap) (locs : List Loc) (ls : Array Slot), (1 ≤ z45967.toInt ∧ z45967.toInt ≤ 1) → TH G ttC A s tag L F H locs → ((∀ b j : Nat, (tag b ≠ 19 ∨ j ≠ 1) → (tag b ≠ 26 ∨ j ≠ 13) → fld F b j = fld Fo b j) ∧ EF tag F Fo) → fld F p0 2 = .int z45967 → lv_has ls 2 [(0, .ref p0), (1, .int p1)] → W p l e { frames := 1, cells := 0, slots := 0, locals := 21 } s m args below meth c H locs 0 0 Q (F0 m 24 ls []) := by
    intro z45967 F H locs ls rz45967 hT hfr qz45967 hl
    refine lv_aload_n hx hb dX11_seed_24 rfl (lv_at hl 0 rfl) ?_
    refine lv_iconst (v := 2) hx hb dX11_seed_25 (by decide) ?_
    refine t_cVi (n := 1) (C := RX11) (T := TX11) (N := 16) (As := [.int 2]) (rest := []) X hT (kt58_X11_no l G tag L F hT.2.2.2 p0 2 m0 g0) m0 g0 rfl rfl qw_1454 qw_1455 qw_1456 qw_2 qw_1457 ⟨rfl, by decide +kernel, by decide +kernel, by decide +kernel⟩ ⟨Nat.le_of_ble_eq_true rfl, Nat.le_of_ble_eq_true rfl⟩ hl rfl rfl (Nat.le_of_ble_eq_true rfl) dX11_seed_26 ⟨Nat.le_of_ble_eq_true rfl, Nat.le_of_ble_eq_true rfl⟩ (fun z45968 F H locs hT hz45968 => ?_)
    obtain ⟨hz45968, yz45968⟩ := hz45968
    have qz45967 := (yz45968.1 _ 2 (Or.inr (by decide))).trans qz45967
    have hfr : (∀ b j : Nat, (tag b ≠ 19 ∨ j ≠ 1) → (tag b ≠ 26 ∨ j ≠ 13) → fld F b j = fld Fo b j) ∧ EF tag F Fo := ⟨fun b j n19_1 n26_13 => (yz45968.1 b j n26_13).trans (hfr.1 b j n19_1 n26_13), fun b j hb => (yz45968.2 b j hb).trans (hfr.2 b j hb)⟩
    exact t_zret hQ X hT (nar_z (by omega)) (⟨(by omega), hfr⟩) (Nat.le_of_ble_eq_true rfl) (Nat.le_of_ble_eq_true rfl) dX11_seed_29
  refine lv_aload_n hx hb dX11_seed_0 rfl (lv_at hl 0 rfl) ?_
  refine t_get (C := RX11) (T := TX11) (N := 16) X hT m0 g0 rfl rfl 2 (by decide) qw_150 inlX11 rfl dX11_seed_1 (fun v45969 hv45969 ov45969 => ?_)
  obtain ⟨z45970, rfl, rz45970⟩ := okV_i ov45969
  refine lv_if_ne (tgt := 13) hx hb dX11_seed_4 (by decide) (fun c45971 => ?_) (fun c45971 => ?_)
  · have w45972 := cv_ne (rfl : z45970.toInt = z45970.toInt) (by decide : (0 : Int32).toInt = 0) c45971
    refine lv_iload_n hx hb dX11_seed_13 rfl (lv_at hl 1 rfl) ?_
    refine lv_if_lt (tgt := 24) hx hb dX11_seed_14 (by decide) (fun c45973 => ?_) (fun c45973 => ?_)
    · have w45974 := cv_lt (rfl : p1.toInt = p1.toInt) (by decide : (0 : Int32).toInt = 0) c45973
      exact K24 z45970 _ _ _ _ (by omega) hT hfr hv45969 (lv_sub hl [0, 1] rfl)
    · have w45975 := cv_nlt (rfl : p1.toInt = p1.toInt) (by decide : (0 : Int32).toInt = 0) c45973
      refine lv_iload_n hx hb dX11_seed_17 rfl (lv_at hl 1 rfl) ?_
      refine m_ldcw X qw_1281 dX11_seed_18 ?_
      refine lv_icmp_lt (tgt := 30) hx hb dX11_seed_21 (by decide) (fun c45976 => ?_) (fun c45976 => ?_)
      · have w45977 := cv_lt (rfl : p1.toInt = p1.toInt) (by decide : (65537 : Int32).toInt = 65537) c45976
        refine lv_aload_n hx hb dX11_seed_30 rfl (lv_at hl 0 rfl) ?_
        refine t_get (C := RX11) (T := TX11) (N := 16) X hT m0 g0 rfl rfl 5 (by decide) qw_23 inlX11 rfl dX11_seed_31 (fun v45978 hv45978 ov45978 => ?_)
        obtain ⟨b45979, rfl, mb45979, gb45979⟩ := okV_r ov45978
        have gb45979 : tag b45979 = 19 := tg_of gb45979
        refine lv_iload_n hx hb dX11_seed_34 rfl (lv_at hl 1 rfl) ?_
        refine t_put (C := RX7) (T := TX7) (N := 7) (v := .int p1) X hT mb45979 gb45979 rfl tyX7 tyX7_ok nmX7 rfl 1 (by decide) qw_1282 inlX7 rfl (by first | rfl | decide) (by first | rfl | decide) rfl (⟨_, rfl, (show (-2147483648) ≤ (p1 : Int32).toInt from (by omega)), (show (p1 : Int32).toInt ≤ 2147483647 from (by omega))⟩) dX11_seed_35 (fun F H locs hT v45980 h1v45980 h2v45980 => ?_)
        have hv45969 := (h1v45980 _ _ (Or.inr (by decide))).trans hv45969
        have hv45978 := (h1v45980 _ _ (Or.inr (by decide))).trans hv45978
        have hfr : (∀ b j : Nat, (tag b ≠ 19 ∨ j ≠ 1) → (tag b ≠ 26 ∨ j ≠ 13) → fld F b j = fld Fo b j) ∧ EF tag F Fo := ⟨fun b j n19_1 n26_13 => (h1v45980 b j (fr_ne gb45979 n19_1)).trans (hfr.1 b j n19_1 n26_13), fun b j hb => (h2v45980 b j).trans (hfr.2 b j hb)⟩
        refine lv_aload_n hx hb dX11_seed_38 rfl (lv_at hl 0 rfl) ?_
        refine t_cVi (n := 0) (C := RX11) (T := TX11) (N := 16) (As := []) (rest := []) X hT (kt59_X11_yes l G tag L F hT.2.2.2 p0 m0 g0) m0 g0 rfl rfl qw_1460 qw_1461 qw_1462 qw_2 qw_1463 ⟨rfl, by decide +kernel, by decide +kernel, by decide +kernel⟩ ⟨Nat.le_of_ble_eq_true rfl, Nat.le_of_ble_eq_true rfl⟩ hl rfl rfl (Nat.le_of_ble_eq_true rfl) dX11_seed_39 ⟨Nat.le_of_ble_eq_true rfl, Nat.le_of_ble_eq_true rfl⟩ (fun z45981 F H locs hT hz45981 => ?_)
        obtain ⟨hz45981, yz45981⟩ := hz45981
        have hv45969 := (yz45981.1 _ 2 (Or.inr (by decide))).trans hv45969
        have hv45978 := (yz45981.1 _ 5 (Or.inr (by decide))).trans hv45978
        have v45980 := (yz45981.1 _ 1 (Or.inr (by decide))).trans v45980
        have hfr : (∀ b j : Nat, (tag b ≠ 19 ∨ j ≠ 1) → (tag b ≠ 26 ∨ j ≠ 13) → fld F b j = fld Fo b j) ∧ EF tag F Fo := ⟨fun b j n19_1 n26_13 => (yz45981.1 b j n26_13).trans (hfr.1 b j n19_1 n26_13), fun b j hb => (yz45981.2 b j hb).trans (hfr.2 b j hb)⟩
        exact t_zret hQ X hT (nar_z (by omega)) (⟨(by omega), hfr⟩) (Nat.le_of_ble_eq_true rfl) (Nat.le_of_ble_eq_true rfl) dX11_seed_42
      · have w45982 := cv_nlt (rfl : p1.toInt = p1.toInt) (by decide : (65537 : Int32).toInt = 65537) c45976
        exact K24 z45970 _ _ _ _ (by omega) hT hfr hv45969 (lv_sub hl [0, 1] rfl)
  · have w45983 := cv_eq (rfl : z45970.toInt = z45970.toInt) (by decide : (0 : Int32).toInt = 0) c45971
    refine lv_aload_n hx hb dX11_seed_7 rfl (lv_at hl 0 rfl) ?_
    refine lv_iconst (v := 1) hx hb dX11_seed_8 (by decide) ?_
    refine t_cVi (n := 1) (C := RX11) (T := TX11) (N := 16) (As := [.int 1]) (rest := []) X hT (kt58_X11_no l G tag L F hT.2.2.2 p0 1 m0 g0) m0 g0 rfl rfl qw_1454 qw_1455 qw_1456 qw_2 qw_1457 ⟨rfl, by decide +kernel, by decide +kernel, by decide +kernel⟩ ⟨Nat.le_of_ble_eq_true rfl, Nat.le_of_ble_eq_true rfl⟩ hl rfl rfl (Nat.le_of_ble_eq_true rfl) dX11_seed_9 ⟨Nat.le_of_ble_eq_true rfl, Nat.le_of_ble_eq_true rfl⟩ (fun z45984 F H locs hT hz45984 => ?_)
    obtain ⟨hz45984, yz45984⟩ := hz45984
    have hv45969 := (yz45984.1 _ 2 (Or.inr (by decide))).trans hv45969
    have hfr : (∀ b j : Nat, (tag b ≠ 19 ∨ j ≠ 1) → (tag b ≠ 26 ∨ j ≠ 13) → fld F b j = fld Fo b j) ∧ EF tag F Fo := ⟨fun b j n19_1 n26_13 => (yz45984.1 b j n26_13).trans (hfr.1 b j n19_1 n26_13), fun b j hb => (yz45984.2 b j hb).trans (hfr.2 b j hb)⟩
    exact t_zret hQ X hT (nar_z (by omega)) (⟨(by omega), hfr⟩) (Nat.le_of_ble_eq_true rfl) (Nat.le_of_ble_eq_true rfl) dX11_seed_12
set_option maxHeartbeats 4000000 in
set_option maxRecDepth 100000 in
theorem kt121_J6_bitCount_0f7a4 (l : Launch) (G : KG) (tag : Nat → Nat) (L : List Nat) (F : Nat → va_E) (ho : okT G ttC tag L F) (p0 : Int32)  : TMi l yJ6_bitCount_0f7a4 cJ6_bitCount_0f7a4 1 (some .int) { frames := 0, cells := 0, slots := 0, locals := 0 } G ttC tag L F [.int p0] (fun r F1 => F1 = F ∧ (0 ≤ r.toInt ∧ r.toInt ≤ 63)) := by
  refine t_bodyi (y := yJ6_bitCount_0f7a4) (cd := cJ6_bitCount_0f7a4) (mL := 1) (rt := (some .int)) (rm := { frames := 0, cells := 0, slots := 0, locals := 0 }) (av := [.int p0]) (by decide) (Nat.le_of_ble_eq_true rfl) ho ?_
  intro p e s m args below meth c ls A Q hQ X hT hl
  have hx := X.1.1
  have hb := X.1.2.1
  have hl : lv_has ls 1 [(0, .int p0)] := hl
  have rp0 := rg_all p0
  refine lv_iload_n hx hb dJ6_bitCount_0f7a4_0 rfl (lv_at hl 0 rfl) ?_
  refine lv_iload_n hx hb dJ6_bitCount_0f7a4_1 rfl (lv_at hl 0 rfl) ?_
  refine lv_iconst (v := 1) hx hb dJ6_bitCount_0f7a4_2 (by decide) ?_
  refine lv_iushr hx hb dJ6_bitCount_0f7a4_3 rfl ?_
  refine lv_topi (fun z46187 ez46187 => ?_)
  have rz46187 := rg_all z46187
  refine m_ldcw X qw_733 dJ6_bitCount_0f7a4_4 ?_
  refine lv_iand hx hb dJ6_bitCount_0f7a4_7 ?_
  refine lv_topi (fun z46188 ez46188 => ?_)
  have rz46188 := rg_all z46188
  refine lv_isub hx hb dJ6_bitCount_0f7a4_8 ?_
  refine lv_topi (fun z46189 ez46189 => ?_)
  have rz46189 := rg_all z46189
  refine lv_istore_n (lv' := [(0, .int z46189)]) hx hb dJ6_bitCount_0f7a4_9 rfl hl (by decide) rfl (fun ls hl => ?_)
  refine lv_iload_n hx hb dJ6_bitCount_0f7a4_10 rfl (lv_at hl 0 rfl) ?_
  refine m_ldcw X qw_734 dJ6_bitCount_0f7a4_11 ?_
  refine lv_iand hx hb dJ6_bitCount_0f7a4_14 ?_
  refine lv_topi (fun z46190 ez46190 => ?_)
  have rz46190 := rg_all z46190
  refine lv_iload_n hx hb dJ6_bitCount_0f7a4_15 rfl (lv_at hl 0 rfl) ?_
  refine lv_iconst (v := 2) hx hb dJ6_bitCount_0f7a4_16 (by decide) ?_
  refine lv_iushr hx hb dJ6_bitCount_0f7a4_17 rfl ?_
  refine lv_topi (fun z46191 ez46191 => ?_)
  have rz46191 := rg_all z46191
  refine m_ldcw X qw_734 dJ6_bitCount_0f7a4_18 ?_
  refine lv_iand hx hb dJ6_bitCount_0f7a4_21 ?_
  refine lv_topi (fun z46192 ez46192 => ?_)
  have rz46192 := rg_all z46192
  refine lv_iadd hx hb dJ6_bitCount_0f7a4_22 ?_
  refine lv_topi (fun z46193 ez46193 => ?_)
  have rz46193 := rg_all z46193
  refine lv_istore_n (lv' := [(0, .int z46193)]) hx hb dJ6_bitCount_0f7a4_23 rfl hl (by decide) rfl (fun ls hl => ?_)
  refine lv_iload_n hx hb dJ6_bitCount_0f7a4_24 rfl (lv_at hl 0 rfl) ?_
  refine lv_iload_n hx hb dJ6_bitCount_0f7a4_25 rfl (lv_at hl 0 rfl) ?_
  refine lv_iconst (v := 4) hx hb dJ6_bitCount_0f7a4_26 (by decide) ?_
  refine lv_iushr hx hb dJ6_bitCount_0f7a4_27 rfl ?_
  refine lv_topi (fun z46194 ez46194 => ?_)
  have rz46194 := rg_all z46194
  refine lv_iadd hx hb dJ6_bitCount_0f7a4_28 ?_
  refine lv_topi (fun z46195 ez46195 => ?_)
  have rz46195 := rg_all z46195
  refine m_ldcw X qw_735 dJ6_bitCount_0f7a4_29 ?_
  refine lv_iand hx hb dJ6_bitCount_0f7a4_32 ?_
  refine lv_topi (fun z46196 ez46196 => ?_)
  have rz46196 := rg_all z46196
  refine lv_istore_n (lv' := [(0, .int z46196)]) hx hb dJ6_bitCount_0f7a4_33 rfl hl (by decide) rfl (fun ls hl => ?_)
  refine lv_iload_n hx hb dJ6_bitCount_0f7a4_34 rfl (lv_at hl 0 rfl) ?_
  refine lv_iload_n hx hb dJ6_bitCount_0f7a4_35 rfl (lv_at hl 0 rfl) ?_
  refine lv_bipush (v := 8) hx hb dJ6_bitCount_0f7a4_36 (by decide) ?_
  refine lv_iushr hx hb dJ6_bitCount_0f7a4_38 rfl ?_
  refine lv_topi (fun z46197 ez46197 => ?_)
  have rz46197 := rg_all z46197
  refine lv_iadd hx hb dJ6_bitCount_0f7a4_39 ?_
  refine lv_topi (fun z46198 ez46198 => ?_)
  have rz46198 := rg_all z46198
  refine lv_istore_n (lv' := [(0, .int z46198)]) hx hb dJ6_bitCount_0f7a4_40 rfl hl (by decide) rfl (fun ls hl => ?_)
  refine lv_iload_n hx hb dJ6_bitCount_0f7a4_41 rfl (lv_at hl 0 rfl) ?_
  refine lv_iload_n hx hb dJ6_bitCount_0f7a4_42 rfl (lv_at hl 0 rfl) ?_
  refine lv_bipush (v := 16) hx hb dJ6_bitCount_0f7a4_43 (by decide) ?_
  refine lv_iushr hx hb dJ6_bitCount_0f7a4_45 rfl ?_
  refine lv_topi (fun z46199 ez46199 => ?_)
  have rz46199 := rg_all z46199
  refine lv_iadd hx hb dJ6_bitCount_0f7a4_46 ?_
  refine lv_topi (fun z46200 ez46200 => ?_)
  have rz46200 := rg_all z46200
  refine lv_istore_n (lv' := [(0, .int z46200)]) hx hb dJ6_bitCount_0f7a4_47 rfl hl (by decide) rfl (fun ls hl => ?_)
  refine lv_iload_n hx hb dJ6_bitCount_0f7a4_48 rfl (lv_at hl 0 rfl) ?_
  refine lv_bipush (v := 63) hx hb dJ6_bitCount_0f7a4_49 (by decide) ?_
  refine lv_iand hx hb dJ6_bitCount_0f7a4_51 ?_
  refine lv_topi (fun z46201 ez46201 => ?_)
  have rz46201 : 0 ≤ z46201.toInt ∧ z46201.toInt ≤ 63 := ar_and ez46201 6 (by decide) (by decide)
  exact t_iret hQ X hT (⟨rfl, (by omega)⟩) (Nat.le_of_ble_eq_true rfl) (Nat.le_of_ble_eq_true rfl) dJ6_bitCount_0f7a4_52
set_option maxHeartbeats 4000000 in
set_option maxRecDepth 100000 in
theorem kt122_X11_shared (l : Launch) (G : KG) (tag : Nat → Nat) (L : List Nat) (Fo : Nat → va_E) (ho : okT G ttC tag L Fo) (p0 : Nat) (m0 : p0 ∈ L) (g0 : tag p0 = 26) : TMi l yX11_shared cX11_shared 4 (some .int) { frames := 2, cells := 0, slots := 0, locals := 50 } G ttC tag L Fo [.ref p0] (fun r F1 => ((-2147483648) ≤ r.toInt ∧ r.toInt ≤ 2147483647) ∧ ((∀ b j : Nat, (tag b ≠ 26 ∨ j ≠ 13) → fld F1 b j = fld Fo b j) ∧ EF tag F1 Fo)) := by
  refine t_bodyi (y := yX11_shared) (cd := cX11_shared) (mL := 4) (rt := (some .int)) (rm := { frames := 2, cells := 0, slots := 0, locals := 50 }) (av := [.ref p0]) (by decide) (Nat.le_of_ble_eq_true rfl) ho ?_
  intro p e s m args below meth c ls A Q hQ X hT hl
  have hx := X.1.1
  have hb := X.1.2.1
  have hl : lv_has ls 4 [(0, .ref p0)] := hl
  obtain ⟨F, hFo⟩ : ∃ F : Nat → va_E, F = Fo := ⟨_, rfl⟩
  rw [← hFo] at hT
  have hfr : (∀ b j : Nat, (tag b ≠ 26 ∨ j ≠ 13) → fld F b j = fld Fo b j) ∧ EF tag F Fo := by
    rw [hFo]
    exact ⟨by intros; rfl, fun _ _ _ => rfl⟩
  have K17 : ∀ (n : Nat) (z47427 : Int32) (z47428 : Int32) (z47429 : Int32) (F : Nat → va_E) (H : Heap) (locs : List Loc) (ls : Array Slot), (12 - z47428.toInt < (n : Int)) → (0 ≤ z47428.toInt ∧ z47428.toInt ≤ 12) → (1 ≤ z47429.toInt ∧ z47429.toInt ≤ 1) → TH G ttC A s tag L F H locs → ((∀ b j : Nat, (tag b ≠ 26 ∨ j ≠ 13) → fld F b j = fld Fo b j) ∧ EF tag F Fo) → fld F p0 2 = .int z47429 → lv_has ls 4 [(0, .ref p0), (1, .int z47427), (2, .int z47428)] → W p l e { frames := 2, cells := 0, slots := 0, locals := 50 } s m args below meth c H locs 0 0 Q (F0 m 17 ls []) := by
    intro n
    induction n with
    | zero =>
      intro z47427 z47428 z47429 F H locs ls hn rz47428 rz47429 hT hfr qz47429 hl
      have rz47427 := rg_all z47427
      exfalso
      omega
    | succ n ih17 =>
      intro z47427 z47428 z47429 F H locs ls hn rz47428 rz47429 hT hfr qz47429 hl
      have rz47427 := rg_all z47427
      have K30 : ∀ (n : Nat) (z47430 : Int32) (z47432 : Int32) (z47433 : Int32) (F : Nat → va_E) (H : Heap) (locs : List Loc) (ls : Array Slot), (12 - z47432.toInt < (n : Int)) → (0 ≤ z47432.toInt ∧ z47432.toInt ≤ 12) → (1 ≤ z47433.toInt ∧ z47433.toInt ≤ 1) → (0 ≤ z47428.toInt ∧ z47428.toInt ≤ 11) → TH G ttC A s tag L F H locs → ((∀ b j : Nat, (tag b ≠ 26 ∨ j ≠ 13) → fld F b j = fld Fo b j) ∧ EF tag F Fo) → fld F p0 2 = .int z47433 → lv_has ls 4 [(0, .ref p0), (1, .int z47430), (2, .int z47428), (3, .int z47432)] → W p l e { frames := 2, cells := 0, slots := 0, locals := 50 } s m args below meth c H locs 0 0 Q (F0 m 30 ls []) := by
        intro n
        induction n with
        | zero =>
          intro z47430 z47432 z47433 F H locs ls hn rz47432 rz47433 r9s47431 hT hfr qz47433 hl
          have rz47430 := rg_all z47430
          exfalso
          omega
        | succ n ih30 =>
          intro z47430 z47432 z47433 F H locs ls hn rz47432 rz47433 r9s47431 hT hfr qz47433 hl
          have rz47430 := rg_all z47430
          have K64 : ∀ (z47434 : Int32) (z47436 : Int32) (F : Nat → va_E) (H : Heap) (locs : List Loc) (ls : Array Slot), (1 ≤ z47436.toInt ∧ z47436.toInt ≤ 1) → (0 ≤ z47432.toInt ∧ z47432.toInt ≤ 11) → TH G ttC A s tag L F H locs → ((∀ b j : Nat, (tag b ≠ 26 ∨ j ≠ 13) → fld F b j = fld Fo b j) ∧ EF tag F Fo) → fld F p0 2 = .int z47436 → lv_has ls 4 [(0, .ref p0), (1, .int z47434), (2, .int z47428), (3, .int z47432)] → W p l e { frames := 2, cells := 0, slots := 0, locals := 50 } s m args below meth c H locs 0 0 Q (F0 m 64 ls []) := by
            intro z47434 z47436 F H locs ls rz47436 r9s47435 hT hfr qz47436 hl
            have rz47434 := rg_all z47434
            obtain ⟨z47437, ez47437⟩ : ∃ y : Int32, y = z47432 + 1 := ⟨_, rfl⟩
            have hz47437 : z47437.toInt = z47432.toInt + 1 := ar_add ez47437 rfl (by decide : (1 : Int32).toInt = 1) (by omega) (by omega)
            refine lv_iinc (v := z47437) (lv' := [(3, .int z47437), (0, .ref p0), (1, .int z47434), (2, .int z47428)]) hx hb dX11_shared_64 hl (k := 3) rfl (by rw [ez47437]; rfl) (by decide) rfl (fun ls hl => ?_)
            refine lv_goto (tgt := 30) hx hb dX11_shared_67 (by decide) ?_
            exact ih30 z47434 z47437 z47436 _ _ _ _ (by omega) (by omega) (by omega) (by omega) hT hfr qz47436 (lv_sub hl [1, 2, 3, 0] rfl)
          refine lv_iload_n hx hb dX11_shared_30 rfl (lv_at hl 3 rfl) ?_
          refine lv_aload_n hx hb dX11_shared_31 rfl (lv_at hl 0 rfl) ?_
          refine t_get (C := RX11) (T := TX11) (N := 16) X hT m0 g0 rfl rfl 3 (by decide) qw_18 inlX11 rfl dX11_shared_32 (fun v47438 hv47438 ov47438 => ?_)
          obtain ⟨b47439, rfl, mb47439, gb47439⟩ := okV_r ov47438
          have gb47439 : tag b47439 = 18 := tg_of gb47439
          refine t_get (C := RX1) (T := TX1) (N := 20) X hT mb47439 gb47439 rfl rfl 0 (by decide) qw_728 inlX1 rfl dX11_shared_35 (fun v47440 hv47440 ov47440 => ?_)
          obtain ⟨z47441, rfl, rz47441⟩ := okV_i ov47440
          refine lv_icmp_ge (tgt := 70) hx hb dX11_shared_38 (by decide) (fun c47442 => ?_) (fun c47442 => ?_)
          · have w47443 := cv_le (rfl : z47441.toInt = z47441.toInt) (rfl : z47432.toInt = z47432.toInt) c47442
            obtain ⟨z47444, ez47444⟩ : ∃ y : Int32, y = z47428 + 1 := ⟨_, rfl⟩
            have hz47444 : z47444.toInt = z47428.toInt + 1 := ar_add ez47444 rfl (by decide : (1 : Int32).toInt = 1) (by omega) (by omega)
            refine lv_iinc (v := z47444) (lv' := [(2, .int z47444), (0, .ref p0), (1, .int z47430), (3, .int z47432)]) hx hb dX11_shared_70 hl (k := 2) rfl (by rw [ez47444]; rfl) (by decide) rfl (fun ls hl => ?_)
            refine lv_goto (tgt := 17) hx hb dX11_shared_73 (by decide) ?_
            exact ih17 z47430 z47444 z47433 _ _ _ _ (by omega) (by omega) (by omega) hT hfr qz47433 (lv_sub hl [1, 2, 0] rfl)
          · have w47445 := cv_nle (rfl : z47441.toInt = z47441.toInt) (rfl : z47432.toInt = z47432.toInt) c47442
            refine lv_aload_n hx hb dX11_shared_41 rfl (lv_at hl 0 rfl) ?_
            refine t_get (C := RX11) (T := TX11) (N := 16) X hT m0 g0 rfl rfl 3 (by decide) qw_18 inlX11 rfl dX11_shared_42 (fun v47446 hv47446 ov47446 => ?_)
            obtain rfl : v47446 = .ref b47439 := hv47446.symm.trans hv47438
            refine lv_aload_n hx hb dX11_shared_45 rfl (lv_at hl 0 rfl) ?_
            refine t_get (C := RX11) (T := TX11) (N := 16) X hT m0 g0 rfl rfl 5 (by decide) qw_23 inlX11 rfl dX11_shared_46 (fun v47447 hv47447 ov47447 => ?_)
            obtain ⟨b47448, rfl, mb47448, gb47448⟩ := okV_r ov47447
            have gb47448 : tag b47448 = 19 := tg_of gb47448
            refine lv_iload_n hx hb dX11_shared_49 rfl (lv_at hl 3 rfl) ?_
            refine lv_iload_n hx hb dX11_shared_50 rfl (lv_at hl 2 rfl) ?_
            refine t_cSi (n := 4) (As := [.ref b47439, .ref b47448, .int z47432, .int z47428]) (rest := []) X hT (kt28_X6_ownersOf l G tag L F hT.2.2.2 b47439 b47448 z47432 z47428 mb47439 gb47439 mb47448 gb47448) qw_712 qw_713 qw_380 qw_714 ⟨by decide +kernel, by decide +kernel, by decide +kernel⟩ ⟨Nat.le_of_ble_eq_true rfl, Nat.le_of_ble_eq_true rfl⟩ hl rfl rfl (Nat.le_of_ble_eq_true rfl) dX11_shared_51 ⟨Nat.le_of_ble_eq_true rfl, Nat.le_of_ble_eq_true rfl⟩ (fun z47449 F9 H locs hT hz47449 => ?_)
            obtain ⟨fz47449, hz47449⟩ := hz47449
            rw [fz47449] at hT
            refine t_cSi (n := 1) (As := [.int z47449]) (rest := []) X hT (kt121_J6_bitCount_0f7a4 l G tag L F hT.2.2.2 z47449 ) qw_729 qw_730 qw_731 qw_732 ⟨by decide +kernel, by decide +kernel, by decide +kernel⟩ ⟨Nat.le_of_ble_eq_true rfl, Nat.le_of_ble_eq_true rfl⟩ hl rfl rfl (Nat.le_of_ble_eq_true rfl) dX11_shared_54 ⟨Nat.le_of_ble_eq_true rfl, Nat.le_of_ble_eq_true rfl⟩ (fun z47450 F9 H locs hT hz47450 => ?_)
            obtain ⟨fz47450, hz47450⟩ := hz47450
            rw [fz47450] at hT
            refine lv_iconst (v := 1) hx hb dX11_shared_57 (by decide) ?_
            refine lv_icmp_le (tgt := 64) hx hb dX11_shared_58 (by decide) (fun c47451 => ?_) (fun c47451 => ?_)
            · have w47452 := cv_le (rfl : z47450.toInt = z47450.toInt) (by decide : (1 : Int32).toInt = 1) c47451
              exact K64 z47430 z47433 _ _ _ _ (by omega) (by omega) hT hfr qz47433 (lv_sub hl [0, 1, 2, 3] rfl)
            · have w47453 := cv_nle (rfl : z47450.toInt = z47450.toInt) (by decide : (1 : Int32).toInt = 1) c47451
              obtain ⟨z47454, ez47454⟩ : ∃ y : Int32, y = z47430 + 1 := ⟨_, rfl⟩
              have rz47454 := rg_all z47454
              refine lv_iinc (v := z47454) (lv' := [(1, .int z47454), (0, .ref p0), (2, .int z47428), (3, .int z47432)]) hx hb dX11_shared_61 hl (k := 1) rfl (by rw [ez47454]; rfl) (by decide) rfl (fun ls hl => ?_)
              exact K64 z47454 z47433 _ _ _ _ (by omega) (by omega) hT hfr qz47433 (lv_sub hl [1, 0, 2, 3] rfl)
      refine lv_iload_n hx hb dX11_shared_17 rfl (lv_at hl 2 rfl) ?_
      refine lv_aload_n hx hb dX11_shared_18 rfl (lv_at hl 0 rfl) ?_
      refine t_get (C := RX11) (T := TX11) (N := 16) X hT m0 g0 rfl rfl 3 (by decide) qw_18 inlX11 rfl dX11_shared_19 (fun v47455 hv47455 ov47455 => ?_)
      obtain ⟨b47456, rfl, mb47456, gb47456⟩ := okV_r ov47455
      have gb47456 : tag b47456 = 18 := tg_of gb47456
      refine t_get (C := RX1) (T := TX1) (N := 20) X hT mb47456 gb47456 rfl rfl 1 (by decide) qw_727 inlX1 rfl dX11_shared_22 (fun v47457 hv47457 ov47457 => ?_)
      obtain ⟨z47458, rfl, rz47458⟩ := okV_i ov47457
      refine lv_icmp_ge (tgt := 76) hx hb dX11_shared_25 (by decide) (fun c47459 => ?_) (fun c47459 => ?_)
      · have w47460 := cv_le (rfl : z47458.toInt = z47458.toInt) (rfl : z47428.toInt = z47428.toInt) c47459
        refine lv_aload_n hx hb dX11_shared_76 rfl (lv_at hl 0 rfl) ?_
        refine lv_iload_n hx hb dX11_shared_77 rfl (lv_at hl 1 rfl) ?_
        refine t_cVi (n := 1) (C := RX11) (T := TX11) (N := 16) (As := [.int z47427]) (rest := []) X hT (kt56_X11_answer l G tag L F hT.2.2.2 p0 z47427 m0 g0) m0 g0 rfl rfl qw_463 qw_464 qw_465 qw_2 qw_466 ⟨rfl, by decide +kernel, by decide +kernel, by decide +kernel⟩ ⟨Nat.le_of_ble_eq_true rfl, Nat.le_of_ble_eq_true rfl⟩ hl rfl rfl (Nat.le_of_ble_eq_true rfl) dX11_shared_78 ⟨Nat.le_of_ble_eq_true rfl, Nat.le_of_ble_eq_true rfl⟩ (fun z47461 F H locs hT hz47461 => ?_)
        obtain ⟨hz47461, yz47461⟩ := hz47461
        have qz47429 := (yz47461.1 _ 2 (Or.inr (by decide))).trans qz47429
        have hv47455 := (yz47461.1 _ 3 (Or.inr (by decide))).trans hv47455
        have hv47457 := (yz47461.1 _ 1 (Or.inr (by decide))).trans hv47457
        have hfr : (∀ b j : Nat, (tag b ≠ 26 ∨ j ≠ 13) → fld F b j = fld Fo b j) ∧ EF tag F Fo := ⟨fun b j n26_13 => (yz47461.1 b j n26_13).trans (hfr.1 b j n26_13), fun b j hb => (yz47461.2 b j hb).trans (hfr.2 b j hb)⟩
        exact t_iret hQ X hT (⟨rg_all _, hfr⟩) (Nat.le_of_ble_eq_true rfl) (Nat.le_of_ble_eq_true rfl) dX11_shared_81
      · have w47462 := cv_nle (rfl : z47458.toInt = z47458.toInt) (rfl : z47428.toInt = z47428.toInt) c47459
        refine lv_iconst (v := 0) hx hb dX11_shared_28 (by decide) ?_
        refine lv_istore_n (lv' := [(3, .int 0), (0, .ref p0), (1, .int z47427), (2, .int z47428)]) hx hb dX11_shared_29 rfl hl (by decide) rfl (fun ls hl => ?_)
        have kk47463 : (0 : Int32).toInt = 0 := by decide
        exact K30 13 z47427 0 z47429 _ _ _ _ (by omega) (by decide) (by omega) (by omega) hT hfr qz47429 (lv_sub hl [1, 2, 3, 0] rfl)
  refine lv_aload_n hx hb dX11_shared_0 rfl (lv_at hl 0 rfl) ?_
  refine t_get (C := RX11) (T := TX11) (N := 16) X hT m0 g0 rfl rfl 2 (by decide) qw_150 inlX11 rfl dX11_shared_1 (fun v47464 hv47464 ov47464 => ?_)
  obtain ⟨z47465, rfl, rz47465⟩ := okV_i ov47464
  refine lv_if_ne (tgt := 13) hx hb dX11_shared_4 (by decide) (fun c47466 => ?_) (fun c47466 => ?_)
  · have w47467 := cv_ne (rfl : z47465.toInt = z47465.toInt) (by decide : (0 : Int32).toInt = 0) c47466
    refine lv_iconst (v := 0) hx hb dX11_shared_13 (by decide) ?_
    refine lv_istore_n (lv' := [(1, .int 0), (0, .ref p0)]) hx hb dX11_shared_14 rfl hl (by decide) rfl (fun ls hl => ?_)
    refine lv_iconst (v := 0) hx hb dX11_shared_15 (by decide) ?_
    refine lv_istore_n (lv' := [(2, .int 0), (1, .int 0), (0, .ref p0)]) hx hb dX11_shared_16 rfl hl (by decide) rfl (fun ls hl => ?_)
    have kk47468 : (0 : Int32).toInt = 0 := by decide
    have kk47469 : (0 : Int32).toInt = 0 := by decide
    exact K17 13 0 0 z47465 _ _ _ _ (by omega) (by decide) (by omega) hT hfr hv47464 (lv_sub hl [2, 1, 0] rfl)
  · have w47470 := cv_eq (rfl : z47465.toInt = z47465.toInt) (by decide : (0 : Int32).toInt = 0) c47466
    refine lv_aload_n hx hb dX11_shared_7 rfl (lv_at hl 0 rfl) ?_
    refine lv_iconst (v := 1) hx hb dX11_shared_8 (by decide) ?_
    refine t_cVi (n := 1) (C := RX11) (T := TX11) (N := 16) (As := [.int 1]) (rest := []) X hT (kt63_X11_refuse l G tag L F hT.2.2.2 p0 1 m0 g0) m0 g0 rfl rfl qw_152 qw_153 qw_154 qw_2 qw_155 ⟨rfl, by decide +kernel, by decide +kernel, by decide +kernel⟩ ⟨Nat.le_of_ble_eq_true rfl, Nat.le_of_ble_eq_true rfl⟩ hl rfl rfl (Nat.le_of_ble_eq_true rfl) dX11_shared_9 ⟨Nat.le_of_ble_eq_true rfl, Nat.le_of_ble_eq_true rfl⟩ (fun z47471 F H locs hT hz47471 => ?_)
    obtain ⟨hz47471, yz47471⟩ := hz47471
    have hv47464 := (yz47471.1 _ 2 (Or.inr (by decide))).trans hv47464
    have hfr : (∀ b j : Nat, (tag b ≠ 26 ∨ j ≠ 13) → fld F b j = fld Fo b j) ∧ EF tag F Fo := ⟨fun b j n26_13 => (yz47471.1 b j n26_13).trans (hfr.1 b j n26_13), fun b j hb => (yz47471.2 b j hb).trans (hfr.2 b j hb)⟩
    exact t_iret hQ X hT (⟨rg_all _, hfr⟩) (Nat.le_of_ble_eq_true rfl) (Nat.le_of_ble_eq_true rfl) dX11_shared_12
set_option maxHeartbeats 4000000 in
set_option maxRecDepth 100000 in
theorem kt123_X11_sizeNow (l : Launch) (G : KG) (tag : Nat → Nat) (L : List Nat) (F : Nat → va_E) (ho : okT G ttC tag L F) (p0 : Nat) (p1 : Int32) (m0 : p0 ∈ L) (g0 : tag p0 = 26) : TMi l yX11_sizeNow cX11_sizeNow 2 (some .int) { frames := 0, cells := 0, slots := 0, locals := 0 } G ttC tag L F [.ref p0, .int p1] (fun r F1 => F1 = F ∧ ((-2147483648) ≤ r.toInt ∧ r.toInt ≤ 2147483647)) := by
  refine t_bodyi (y := yX11_sizeNow) (cd := cX11_sizeNow) (mL := 2) (rt := (some .int)) (rm := { frames := 0, cells := 0, slots := 0, locals := 0 }) (av := [.ref p0, .int p1]) (by decide) (Nat.le_of_ble_eq_true rfl) ho ?_
  intro p e s m args below meth c ls A Q hQ X hT hl
  have hx := X.1.1
  have hb := X.1.2.1
  have hl : lv_has ls 2 [(0, .ref p0), (1, .int p1)] := hl
  have rp1 := rg_all p1
  refine lv_iload_n hx hb dX11_sizeNow_0 rfl (lv_at hl 1 rfl) ?_
  by_cases c47760 : p1 = 8
  · have w47761 := cv_eq (rfl : p1.toInt = p1.toInt) (by decide : (8 : Int32).toInt = 8) c47760
    refine lv_tableIn (off := 27) (tgt := 28) hx hb dX11_sizeNow_1 (by rw [c47760]; decide) (by rw [c47760]; decide) (by rw [c47760]; decide) (by decide) ?_
    refine lv_aload_n hx hb dX11_sizeNow_28 rfl (lv_at hl 0 rfl) ?_
    refine t_get (C := RX11) (T := TX11) (N := 16) X hT m0 g0 rfl rfl 5 (by decide) qw_23 inlX11 rfl dX11_sizeNow_29 (fun v47762 hv47762 ov47762 => ?_)
    obtain ⟨b47763, rfl, mb47763, gb47763⟩ := okV_r ov47762
    have gb47763 : tag b47763 = 19 := tg_of gb47763
    refine t_get (C := RX7) (T := TX7) (N := 7) X hT mb47763 gb47763 rfl rfl 0 (by decide) qw_1225 inlX7 rfl dX11_sizeNow_32 (fun v47764 hv47764 ov47764 => ?_)
    obtain ⟨z47765, rfl, rz47765⟩ := okV_i ov47764
    exact t_iret hQ X hT (⟨rfl, rg_all _⟩) (Nat.le_of_ble_eq_true rfl) (Nat.le_of_ble_eq_true rfl) dX11_sizeNow_35
  have w47766 := cv_ne (rfl : p1.toInt = p1.toInt) (by decide : (8 : Int32).toInt = 8) c47760
  by_cases c47767 : p1 = 9
  · have w47768 := cv_eq (rfl : p1.toInt = p1.toInt) (by decide : (9 : Int32).toInt = 9) c47767
    refine lv_tableIn (off := 35) (tgt := 36) hx hb dX11_sizeNow_1 (by rw [c47767]; decide) (by rw [c47767]; decide) (by rw [c47767]; decide) (by decide) ?_
    refine lv_aload_n hx hb dX11_sizeNow_36 rfl (lv_at hl 0 rfl) ?_
    refine t_get (C := RX11) (T := TX11) (N := 16) X hT m0 g0 rfl rfl 5 (by decide) qw_23 inlX11 rfl dX11_sizeNow_37 (fun v47769 hv47769 ov47769 => ?_)
    obtain ⟨b47770, rfl, mb47770, gb47770⟩ := okV_r ov47769
    have gb47770 : tag b47770 = 19 := tg_of gb47770
    refine t_get (C := RX7) (T := TX7) (N := 7) X hT mb47770 gb47770 rfl rfl 1 (by decide) qw_1282 inlX7 rfl dX11_sizeNow_40 (fun v47771 hv47771 ov47771 => ?_)
    obtain ⟨z47772, rfl, rz47772⟩ := okV_i ov47771
    exact t_iret hQ X hT (⟨rfl, rg_all _⟩) (Nat.le_of_ble_eq_true rfl) (Nat.le_of_ble_eq_true rfl) dX11_sizeNow_43
  have w47773 := cv_ne (rfl : p1.toInt = p1.toInt) (by decide : (9 : Int32).toInt = 9) c47767
  by_cases c47774 : p1 = 10
  · have w47775 := cv_eq (rfl : p1.toInt = p1.toInt) (by decide : (10 : Int32).toInt = 10) c47774
    refine lv_tableIn (off := 43) (tgt := 44) hx hb dX11_sizeNow_1 (by rw [c47774]; decide) (by rw [c47774]; decide) (by rw [c47774]; decide) (by decide) ?_
    refine lv_aload_n hx hb dX11_sizeNow_44 rfl (lv_at hl 0 rfl) ?_
    refine t_get (C := RX11) (T := TX11) (N := 16) X hT m0 g0 rfl rfl 12 (by decide) qw_45 inlX11 rfl dX11_sizeNow_45 (fun v47776 hv47776 ov47776 => ?_)
    obtain ⟨b47777, rfl, mb47777, gb47777⟩ := okV_r ov47776
    have gb47777 : tag b47777 = 23 := tg_of gb47777
    refine t_get (C := RX2) (T := TX2) (N := 5) X hT mb47777 gb47777 rfl rfl 3 (by decide) qw_1590 inlX2 rfl dX11_sizeNow_48 (fun v47778 hv47778 ov47778 => ?_)
    obtain ⟨z47779, rfl, rz47779⟩ := okV_i ov47778
    exact t_iret hQ X hT (⟨rfl, rg_all _⟩) (Nat.le_of_ble_eq_true rfl) (Nat.le_of_ble_eq_true rfl) dX11_sizeNow_51
  have w47780 := cv_ne (rfl : p1.toInt = p1.toInt) (by decide : (10 : Int32).toInt = 10) c47774
  refine lv_tableOut (tgt := 52) hx hb dX11_sizeNow_1 (by omega) (by decide) ?_
  refine lv_aload_n hx hb dX11_sizeNow_52 rfl (lv_at hl 0 rfl) ?_
  refine t_get (C := RX11) (T := TX11) (N := 16) X hT m0 g0 rfl rfl 12 (by decide) qw_45 inlX11 rfl dX11_sizeNow_53 (fun v47781 hv47781 ov47781 => ?_)
  obtain ⟨b47782, rfl, mb47782, gb47782⟩ := okV_r ov47781
  have gb47782 : tag b47782 = 23 := tg_of gb47782
  refine t_get (C := RX2) (T := TX2) (N := 5) X hT mb47782 gb47782 rfl rfl 4 (by decide) qw_1591 inlX2 rfl dX11_sizeNow_56 (fun v47783 hv47783 ov47783 => ?_)
  obtain ⟨z47784, rfl, rz47784⟩ := okV_i ov47783
  exact t_iret hQ X hT (⟨rfl, rg_all _⟩) (Nat.le_of_ble_eq_true rfl) (Nat.le_of_ble_eq_true rfl) dX11_sizeNow_59
set_option maxHeartbeats 4000000 in
set_option maxRecDepth 100000 in
theorem kt124_X11_sizeTold (l : Launch) (G : KG) (tag : Nat → Nat) (L : List Nat) (F : Nat → va_E) (ho : okT G ttC tag L F) (p0 : Nat) (p1 : Int32) (m0 : p0 ∈ L) (g0 : tag p0 = 26) : TMi l yX11_sizeTold cX11_sizeTold 2 (some .int) { frames := 0, cells := 0, slots := 0, locals := 0 } G ttC tag L F [.ref p0, .int p1] (fun r F1 => F1 = F ∧ ((-2147483648) ≤ r.toInt ∧ r.toInt ≤ 2147483647)) := by
  refine t_bodyi (y := yX11_sizeTold) (cd := cX11_sizeTold) (mL := 2) (rt := (some .int)) (rm := { frames := 0, cells := 0, slots := 0, locals := 0 }) (av := [.ref p0, .int p1]) (by decide) (Nat.le_of_ble_eq_true rfl) ho ?_
  intro p e s m args below meth c ls A Q hQ X hT hl
  have hx := X.1.1
  have hb := X.1.2.1
  have hl : lv_has ls 2 [(0, .ref p0), (1, .int p1)] := hl
  have rp1 := rg_all p1
  refine lv_iload_n hx hb dX11_sizeTold_0 rfl (lv_at hl 1 rfl) ?_
  by_cases c48436 : p1 = 0
  · have w48437 := cv_eq (rfl : p1.toInt = p1.toInt) (by decide : (0 : Int32).toInt = 0) c48436
    refine lv_tableIn (off := 43) (tgt := 44) hx hb dX11_sizeTold_1 (by rw [c48436]; decide) (by rw [c48436]; decide) (by rw [c48436]; decide) (by decide) ?_
    refine lv_aload_n hx hb dX11_sizeTold_44 rfl (lv_at hl 0 rfl) ?_
    refine t_get (C := RX11) (T := TX11) (N := 16) X hT m0 g0 rfl rfl 3 (by decide) qw_18 inlX11 rfl dX11_sizeTold_45 (fun v48438 hv48438 ov48438 => ?_)
    obtain ⟨b48439, rfl, mb48439, gb48439⟩ := okV_r ov48438
    have gb48439 : tag b48439 = 18 := tg_of gb48439
    refine t_get (C := RX1) (T := TX1) (N := 20) X hT mb48439 gb48439 rfl rfl 0 (by decide) qw_728 inlX1 rfl dX11_sizeTold_48 (fun v48440 hv48440 ov48440 => ?_)
    obtain ⟨z48441, rfl, rz48441⟩ := okV_i ov48440
    exact t_iret hQ X hT (⟨rfl, rg_all _⟩) (Nat.le_of_ble_eq_true rfl) (Nat.le_of_ble_eq_true rfl) dX11_sizeTold_51
  have w48442 := cv_ne (rfl : p1.toInt = p1.toInt) (by decide : (0 : Int32).toInt = 0) c48436
  by_cases c48443 : p1 = 1
  · have w48444 := cv_eq (rfl : p1.toInt = p1.toInt) (by decide : (1 : Int32).toInt = 1) c48443
    refine lv_tableIn (off := 51) (tgt := 52) hx hb dX11_sizeTold_1 (by rw [c48443]; decide) (by rw [c48443]; decide) (by rw [c48443]; decide) (by decide) ?_
    refine lv_aload_n hx hb dX11_sizeTold_52 rfl (lv_at hl 0 rfl) ?_
    refine t_get (C := RX11) (T := TX11) (N := 16) X hT m0 g0 rfl rfl 3 (by decide) qw_18 inlX11 rfl dX11_sizeTold_53 (fun v48445 hv48445 ov48445 => ?_)
    obtain ⟨b48446, rfl, mb48446, gb48446⟩ := okV_r ov48445
    have gb48446 : tag b48446 = 18 := tg_of gb48446
    refine t_get (C := RX1) (T := TX1) (N := 20) X hT mb48446 gb48446 rfl rfl 1 (by decide) qw_727 inlX1 rfl dX11_sizeTold_56 (fun v48447 hv48447 ov48447 => ?_)
    obtain ⟨z48448, rfl, rz48448⟩ := okV_i ov48447
    exact t_iret hQ X hT (⟨rfl, rg_all _⟩) (Nat.le_of_ble_eq_true rfl) (Nat.le_of_ble_eq_true rfl) dX11_sizeTold_59
  have w48449 := cv_ne (rfl : p1.toInt = p1.toInt) (by decide : (1 : Int32).toInt = 1) c48443
  by_cases c48450 : p1 = 2
  · have w48451 := cv_eq (rfl : p1.toInt = p1.toInt) (by decide : (2 : Int32).toInt = 2) c48450
    refine lv_tableIn (off := 59) (tgt := 60) hx hb dX11_sizeTold_1 (by rw [c48450]; decide) (by rw [c48450]; decide) (by rw [c48450]; decide) (by decide) ?_
    refine lv_aload_n hx hb dX11_sizeTold_60 rfl (lv_at hl 0 rfl) ?_
    refine t_get (C := RX11) (T := TX11) (N := 16) X hT m0 g0 rfl rfl 3 (by decide) qw_18 inlX11 rfl dX11_sizeTold_61 (fun v48452 hv48452 ov48452 => ?_)
    obtain ⟨b48453, rfl, mb48453, gb48453⟩ := okV_r ov48452
    have gb48453 : tag b48453 = 18 := tg_of gb48453
    refine t_get (C := RX1) (T := TX1) (N := 20) X hT mb48453 gb48453 rfl rfl 2 (by decide) qw_1584 inlX1 rfl dX11_sizeTold_64 (fun v48454 hv48454 ov48454 => ?_)
    obtain ⟨z48455, rfl, rz48455⟩ := okV_i ov48454
    refine lv_if_eq (tgt := 74) hx hb dX11_sizeTold_67 (by decide) (fun c48456 => ?_) (fun c48456 => ?_)
    · have w48457 := cv_eq (rfl : z48455.toInt = z48455.toInt) (by decide : (0 : Int32).toInt = 0) c48456
      refine lv_iconst (v := 0) hx hb dX11_sizeTold_74 (by decide) ?_
      exact t_iret hQ X hT (⟨rfl, rg_all _⟩) (Nat.le_of_ble_eq_true rfl) (Nat.le_of_ble_eq_true rfl) dX11_sizeTold_75
    · have w48458 := cv_ne (rfl : z48455.toInt = z48455.toInt) (by decide : (0 : Int32).toInt = 0) c48456
      refine lv_iconst (v := 1) hx hb dX11_sizeTold_70 (by decide) ?_
      refine lv_goto (tgt := 75) hx hb dX11_sizeTold_71 (by decide) ?_
      exact t_iret hQ X hT (⟨rfl, rg_all _⟩) (Nat.le_of_ble_eq_true rfl) (Nat.le_of_ble_eq_true rfl) dX11_sizeTold_75
  have w48459 := cv_ne (rfl : p1.toInt = p1.toInt) (by decide : (2 : Int32).toInt = 2) c48450
  by_cases c48460 : p1 = 3
  · have w48461 := cv_eq (rfl : p1.toInt = p1.toInt) (by decide : (3 : Int32).toInt = 3) c48460
    refine lv_tableIn (off := 75) (tgt := 76) hx hb dX11_sizeTold_1 (by rw [c48460]; decide) (by rw [c48460]; decide) (by rw [c48460]; decide) (by decide) ?_
    refine lv_aload_n hx hb dX11_sizeTold_76 rfl (lv_at hl 0 rfl) ?_
    refine t_get (C := RX11) (T := TX11) (N := 16) X hT m0 g0 rfl rfl 3 (by decide) qw_18 inlX11 rfl dX11_sizeTold_77 (fun v48462 hv48462 ov48462 => ?_)
    obtain ⟨b48463, rfl, mb48463, gb48463⟩ := okV_r ov48462
    have gb48463 : tag b48463 = 18 := tg_of gb48463
    refine t_get (C := RX1) (T := TX1) (N := 20) X hT mb48463 gb48463 rfl rfl 3 (by decide) qw_1585 inlX1 rfl dX11_sizeTold_80 (fun v48464 hv48464 ov48464 => ?_)
    obtain ⟨z48465, rfl, rz48465⟩ := okV_i ov48464
    refine lv_if_eq (tgt := 90) hx hb dX11_sizeTold_83 (by decide) (fun c48466 => ?_) (fun c48466 => ?_)
    · have w48467 := cv_eq (rfl : z48465.toInt = z48465.toInt) (by decide : (0 : Int32).toInt = 0) c48466
      refine lv_iconst (v := 0) hx hb dX11_sizeTold_90 (by decide) ?_
      exact t_iret hQ X hT (⟨rfl, rg_all _⟩) (Nat.le_of_ble_eq_true rfl) (Nat.le_of_ble_eq_true rfl) dX11_sizeTold_91
    · have w48468 := cv_ne (rfl : z48465.toInt = z48465.toInt) (by decide : (0 : Int32).toInt = 0) c48466
      refine lv_iconst (v := 1) hx hb dX11_sizeTold_86 (by decide) ?_
      refine lv_goto (tgt := 91) hx hb dX11_sizeTold_87 (by decide) ?_
      exact t_iret hQ X hT (⟨rfl, rg_all _⟩) (Nat.le_of_ble_eq_true rfl) (Nat.le_of_ble_eq_true rfl) dX11_sizeTold_91
  have w48469 := cv_ne (rfl : p1.toInt = p1.toInt) (by decide : (3 : Int32).toInt = 3) c48460
  by_cases c48470 : p1 = 4
  · have w48471 := cv_eq (rfl : p1.toInt = p1.toInt) (by decide : (4 : Int32).toInt = 4) c48470
    refine lv_tableIn (off := 91) (tgt := 92) hx hb dX11_sizeTold_1 (by rw [c48470]; decide) (by rw [c48470]; decide) (by rw [c48470]; decide) (by decide) ?_
    refine lv_aload_n hx hb dX11_sizeTold_92 rfl (lv_at hl 0 rfl) ?_
    refine t_get (C := RX11) (T := TX11) (N := 16) X hT m0 g0 rfl rfl 3 (by decide) qw_18 inlX11 rfl dX11_sizeTold_93 (fun v48472 hv48472 ov48472 => ?_)
    obtain ⟨b48473, rfl, mb48473, gb48473⟩ := okV_r ov48472
    have gb48473 : tag b48473 = 18 := tg_of gb48473
    refine t_get (C := RX1) (T := TX1) (N := 20) X hT mb48473 gb48473 rfl rfl 8 (by decide) qw_958 inlX1 rfl dX11_sizeTold_96 (fun v48474 hv48474 ov48474 => ?_)
    obtain ⟨z48475, rfl, rz48475⟩ := okV_i ov48474
    exact t_iret hQ X hT (⟨rfl, rg_all _⟩) (Nat.le_of_ble_eq_true rfl) (Nat.le_of_ble_eq_true rfl) dX11_sizeTold_99
  have w48476 := cv_ne (rfl : p1.toInt = p1.toInt) (by decide : (4 : Int32).toInt = 4) c48470
  by_cases c48477 : p1 = 5
  · have w48478 := cv_eq (rfl : p1.toInt = p1.toInt) (by decide : (5 : Int32).toInt = 5) c48477
    refine lv_tableIn (off := 99) (tgt := 100) hx hb dX11_sizeTold_1 (by rw [c48477]; decide) (by rw [c48477]; decide) (by rw [c48477]; decide) (by decide) ?_
    refine lv_aload_n hx hb dX11_sizeTold_100 rfl (lv_at hl 0 rfl) ?_
    refine t_get (C := RX11) (T := TX11) (N := 16) X hT m0 g0 rfl rfl 3 (by decide) qw_18 inlX11 rfl dX11_sizeTold_101 (fun v48479 hv48479 ov48479 => ?_)
    obtain ⟨b48480, rfl, mb48480, gb48480⟩ := okV_r ov48479
    have gb48480 : tag b48480 = 18 := tg_of gb48480
    refine t_get (C := RX1) (T := TX1) (N := 20) X hT mb48480 gb48480 rfl rfl 10 (by decide) qw_151 inlX1 rfl dX11_sizeTold_104 (fun v48481 hv48481 ov48481 => ?_)
    obtain ⟨z48482, rfl, rz48482⟩ := okV_i ov48481
    exact t_iret hQ X hT (⟨rfl, rg_all _⟩) (Nat.le_of_ble_eq_true rfl) (Nat.le_of_ble_eq_true rfl) dX11_sizeTold_107
  have w48483 := cv_ne (rfl : p1.toInt = p1.toInt) (by decide : (5 : Int32).toInt = 5) c48477
  by_cases c48484 : p1 = 6
  · have w48485 := cv_eq (rfl : p1.toInt = p1.toInt) (by decide : (6 : Int32).toInt = 6) c48484
    refine lv_tableIn (off := 107) (tgt := 108) hx hb dX11_sizeTold_1 (by rw [c48484]; decide) (by rw [c48484]; decide) (by rw [c48484]; decide) (by decide) ?_
    refine lv_aload_n hx hb dX11_sizeTold_108 rfl (lv_at hl 0 rfl) ?_
    refine t_get (C := RX11) (T := TX11) (N := 16) X hT m0 g0 rfl rfl 3 (by decide) qw_18 inlX11 rfl dX11_sizeTold_109 (fun v48486 hv48486 ov48486 => ?_)
    obtain ⟨b48487, rfl, mb48487, gb48487⟩ := okV_r ov48486
    have gb48487 : tag b48487 = 18 := tg_of gb48487
    refine t_get (C := RX1) (T := TX1) (N := 20) X hT mb48487 gb48487 rfl rfl 14 (by decide) qw_891 inlX1 rfl dX11_sizeTold_112 (fun v48488 hv48488 ov48488 => ?_)
    obtain ⟨z48489, rfl, rz48489⟩ := okV_i ov48488
    exact t_iret hQ X hT (⟨rfl, rg_all _⟩) (Nat.le_of_ble_eq_true rfl) (Nat.le_of_ble_eq_true rfl) dX11_sizeTold_115
  have w48490 := cv_ne (rfl : p1.toInt = p1.toInt) (by decide : (6 : Int32).toInt = 6) c48484
  refine lv_tableOut (tgt := 116) hx hb dX11_sizeTold_1 (by omega) (by decide) ?_
  refine lv_aload_n hx hb dX11_sizeTold_116 rfl (lv_at hl 0 rfl) ?_
  refine t_get (C := RX11) (T := TX11) (N := 16) X hT m0 g0 rfl rfl 3 (by decide) qw_18 inlX11 rfl dX11_sizeTold_117 (fun v48491 hv48491 ov48491 => ?_)
  obtain ⟨b48492, rfl, mb48492, gb48492⟩ := okV_r ov48491
  have gb48492 : tag b48492 = 18 := tg_of gb48492
  refine t_get (C := RX1) (T := TX1) (N := 20) X hT mb48492 gb48492 rfl rfl 16 (by decide) qw_1383 inlX1 rfl dX11_sizeTold_120 (fun v48493 hv48493 ov48493 => ?_)
  obtain ⟨z48494, rfl, rz48494⟩ := okV_i ov48493
  exact t_iret hQ X hT (⟨rfl, rg_all _⟩) (Nat.le_of_ble_eq_true rfl) (Nat.le_of_ble_eq_true rfl) dX11_sizeTold_123
set_option maxHeartbeats 4000000 in
set_option maxRecDepth 100000 in
theorem kt125_X11_size (l : Launch) (G : KG) (tag : Nat → Nat) (L : List Nat) (F : Nat → va_E) (ho : okT G ttC tag L F) (p0 : Nat) (p1 : Int32) (m0 : p0 ∈ L) (g0 : tag p0 = 26) : TMi l yX11_size cX11_size 2 (some .int) { frames := 1, cells := 0, slots := 0, locals := 21 } G ttC tag L F [.ref p0, .int p1] (fun r F1 => F1 = F ∧ ((-2147483648) ≤ r.toInt ∧ r.toInt ≤ 2147483647)) := by
  refine t_bodyi (y := yX11_size) (cd := cX11_size) (mL := 2) (rt := (some .int)) (rm := { frames := 1, cells := 0, slots := 0, locals := 21 }) (av := [.ref p0, .int p1]) (by decide) (Nat.le_of_ble_eq_true rfl) ho ?_
  intro p e s m args below meth c ls A Q hQ X hT hl
  have hx := X.1.1
  have hb := X.1.2.1
  have hl : lv_has ls 2 [(0, .ref p0), (1, .int p1)] := hl
  have rp1 := rg_all p1
  refine lv_iload_n hx hb dX11_size_0 rfl (lv_at hl 1 rfl) ?_
  refine lv_bipush (v := 12) hx hb dX11_size_1 (by decide) ?_
  refine lv_icmp_ne (tgt := 11) hx hb dX11_size_3 (by decide) (fun c48711 => ?_) (fun c48711 => ?_)
  · have w48712 := cv_ne (rfl : p1.toInt = p1.toInt) (by decide : (12 : Int32).toInt = 12) c48711
    refine lv_iload_n hx hb dX11_size_11 rfl (lv_at hl 1 rfl) ?_
    refine lv_if_lt (tgt := 21) hx hb dX11_size_12 (by decide) (fun c48713 => ?_) (fun c48713 => ?_)
    · have w48714 := cv_lt (rfl : p1.toInt = p1.toInt) (by decide : (0 : Int32).toInt = 0) c48713
      refine lv_iconst (v := (-1)) hx hb dX11_size_21 (by decide) ?_
      exact t_iret hQ X hT (⟨rfl, rg_all _⟩) (Nat.le_of_ble_eq_true rfl) (Nat.le_of_ble_eq_true rfl) dX11_size_22
    · have w48715 := cv_nlt (rfl : p1.toInt = p1.toInt) (by decide : (0 : Int32).toInt = 0) c48713
      refine lv_iload_n hx hb dX11_size_15 rfl (lv_at hl 1 rfl) ?_
      refine lv_bipush (v := 12) hx hb dX11_size_16 (by decide) ?_
      refine lv_icmp_le (tgt := 23) hx hb dX11_size_18 (by decide) (fun c48716 => ?_) (fun c48716 => ?_)
      · have w48717 := cv_le (rfl : p1.toInt = p1.toInt) (by decide : (12 : Int32).toInt = 12) c48716
        refine lv_aload_n hx hb dX11_size_23 rfl (lv_at hl 0 rfl) ?_
        refine t_get (C := RX11) (T := TX11) (N := 16) X hT m0 g0 rfl rfl 2 (by decide) qw_150 inlX11 rfl dX11_size_24 (fun v48718 hv48718 ov48718 => ?_)
        obtain ⟨z48719, rfl, rz48719⟩ := okV_i ov48718
        refine lv_if_ne (tgt := 32) hx hb dX11_size_27 (by decide) (fun c48720 => ?_) (fun c48720 => ?_)
        · have w48721 := cv_ne (rfl : z48719.toInt = z48719.toInt) (by decide : (0 : Int32).toInt = 0) c48720
          refine lv_iload_n hx hb dX11_size_32 rfl (lv_at hl 1 rfl) ?_
          refine lv_bipush (v := 8) hx hb dX11_size_33 (by decide) ?_
          refine lv_icmp_ge (tgt := 46) hx hb dX11_size_35 (by decide) (fun c48722 => ?_) (fun c48722 => ?_)
          · have w48723 := cv_le (by decide : (8 : Int32).toInt = 8) (rfl : p1.toInt = p1.toInt) c48722
            refine lv_aload_n hx hb dX11_size_46 rfl (lv_at hl 0 rfl) ?_
            refine lv_iload_n hx hb dX11_size_47 rfl (lv_at hl 1 rfl) ?_
            refine t_cVi (n := 1) (C := RX11) (T := TX11) (N := 16) (As := [.int p1]) (rest := []) X hT (kt123_X11_sizeNow l G tag L F hT.2.2.2 p0 p1 m0 g0) m0 g0 rfl rfl qw_1586 qw_1587 qw_1588 qw_2 qw_1589 ⟨rfl, by decide +kernel, by decide +kernel, by decide +kernel⟩ ⟨Nat.le_of_ble_eq_true rfl, Nat.le_of_ble_eq_true rfl⟩ hl rfl rfl (Nat.le_of_ble_eq_true rfl) dX11_size_48 ⟨Nat.le_of_ble_eq_true rfl, Nat.le_of_ble_eq_true rfl⟩ (fun z48724 F9 H locs hT hz48724 => ?_)
            obtain ⟨fz48724, hz48724⟩ := hz48724
            rw [fz48724] at hT
            exact t_iret hQ X hT (⟨rfl, rg_all _⟩) (Nat.le_of_ble_eq_true rfl) (Nat.le_of_ble_eq_true rfl) dX11_size_51
          · have w48725 := cv_nle (by decide : (8 : Int32).toInt = 8) (rfl : p1.toInt = p1.toInt) c48722
            refine lv_aload_n hx hb dX11_size_38 rfl (lv_at hl 0 rfl) ?_
            refine lv_iload_n hx hb dX11_size_39 rfl (lv_at hl 1 rfl) ?_
            refine t_cVi (n := 1) (C := RX11) (T := TX11) (N := 16) (As := [.int p1]) (rest := []) X hT (kt124_X11_sizeTold l G tag L F hT.2.2.2 p0 p1 m0 g0) m0 g0 rfl rfl qw_1580 qw_1581 qw_1582 qw_2 qw_1583 ⟨rfl, by decide +kernel, by decide +kernel, by decide +kernel⟩ ⟨Nat.le_of_ble_eq_true rfl, Nat.le_of_ble_eq_true rfl⟩ hl rfl rfl (Nat.le_of_ble_eq_true rfl) dX11_size_40 ⟨Nat.le_of_ble_eq_true rfl, Nat.le_of_ble_eq_true rfl⟩ (fun z48726 F9 H locs hT hz48726 => ?_)
            obtain ⟨fz48726, hz48726⟩ := hz48726
            rw [fz48726] at hT
            refine lv_goto (tgt := 51) hx hb dX11_size_43 (by decide) ?_
            exact t_iret hQ X hT (⟨rfl, rg_all _⟩) (Nat.le_of_ble_eq_true rfl) (Nat.le_of_ble_eq_true rfl) dX11_size_51
        · have w48727 := cv_eq (rfl : z48719.toInt = z48719.toInt) (by decide : (0 : Int32).toInt = 0) c48720
          refine lv_iconst (v := 0) hx hb dX11_size_30 (by decide) ?_
          exact t_iret hQ X hT (⟨rfl, rg_all _⟩) (Nat.le_of_ble_eq_true rfl) (Nat.le_of_ble_eq_true rfl) dX11_size_31
      · have w48728 := cv_nle (rfl : p1.toInt = p1.toInt) (by decide : (12 : Int32).toInt = 12) c48716
        refine lv_iconst (v := (-1)) hx hb dX11_size_21 (by decide) ?_
        exact t_iret hQ X hT (⟨rfl, rg_all _⟩) (Nat.le_of_ble_eq_true rfl) (Nat.le_of_ble_eq_true rfl) dX11_size_22
  · have w48729 := cv_eq (rfl : p1.toInt = p1.toInt) (by decide : (12 : Int32).toInt = 12) c48711
    refine lv_aload_n hx hb dX11_size_6 rfl (lv_at hl 0 rfl) ?_
    refine t_get (C := RX11) (T := TX11) (N := 16) X hT m0 g0 rfl rfl 1 (by decide) qw_131 inlX11 rfl dX11_size_7 (fun v48730 hv48730 ov48730 => ?_)
    obtain ⟨z48731, rfl, rz48731⟩ := okV_i ov48730
    exact t_iret hQ X hT (⟨rfl, rg_all _⟩) (Nat.le_of_ble_eq_true rfl) (Nat.le_of_ble_eq_true rfl) dX11_size_10
set_option maxHeartbeats 4000000 in
set_option maxRecDepth 100000 in
theorem kt126_X11_skin (l : Launch) (G : KG) (tag : Nat → Nat) (L : List Nat) (Fo : Nat → va_E) (ho : okT G ttC tag L Fo) (p0 : Nat) (p1 : Int32) (p2 : Int32) (p3 : Int32) (m0 : p0 ∈ L) (g0 : tag p0 = 26) : TMi l yX11_skin cX11_skin 4 (some .int) { frames := 3, cells := 0, slots := 0, locals := 65 } G ttC tag L Fo [.ref p0, .int p1, .int p2, .int p3] (fun r F1 => ((-2147483648) ≤ r.toInt ∧ r.toInt ≤ 2147483647) ∧ ((∀ b j : Nat, (tag b ≠ 26 ∨ j ≠ 13) → fld F1 b j = fld Fo b j) ∧ EF tag F1 Fo)) := by
  refine t_bodyi (y := yX11_skin) (cd := cX11_skin) (mL := 4) (rt := (some .int)) (rm := { frames := 3, cells := 0, slots := 0, locals := 65 }) (av := [.ref p0, .int p1, .int p2, .int p3]) (by decide) (Nat.le_of_ble_eq_true rfl) ho ?_
  intro p e s m args below meth c ls A Q hQ X hT hl
  have hx := X.1.1
  have hb := X.1.2.1
  have hl : lv_has ls 4 [(0, .ref p0), (1, .int p1), (2, .int p2), (3, .int p3)] := hl
  have rp1 := rg_all p1
  have rp2 := rg_all p2
  have rp3 := rg_all p3
  obtain ⟨F, hFo⟩ : ∃ F : Nat → va_E, F = Fo := ⟨_, rfl⟩
  rw [← hFo] at hT
  have hfr : (∀ b j : Nat, (tag b ≠ 26 ∨ j ≠ 13) → fld F b j = fld Fo b j) ∧ EF tag F Fo := by
    rw [hFo]
    exact ⟨by intros; rfl, fun _ _ _ => rfl⟩
  have K19 : ∀  (F : Nat → va_E) (H : Heap) (locs : List Loc) (ls : Array Slot), TH G ttC A s tag L F H locs → ((∀ b j : Nat, (tag b ≠ 26 ∨ j ≠ 13) → fld F b j = fld Fo b j) ∧ EF tag F Fo) → lv_has ls 4 [(0, .ref p0), (1, .int p1), (2, .int p2), (3, .int p3)] → W p l e { frames := 3, cells := 0, slots := 0, locals := 65 } s m args below meth c H locs 0 0 Q (F0 m 19 ls []) := by
    intro F H locs ls hT hfr hl
    refine lv_aload_n hx hb dX11_skin_19 rfl (lv_at hl 0 rfl) ?_
    refine lv_iconst (v := 1) hx hb dX11_skin_20 (by decide) ?_
    refine t_cVi (n := 1) (C := RX11) (T := TX11) (N := 16) (As := [.int 1]) (rest := []) X hT (kt63_X11_refuse l G tag L F hT.2.2.2 p0 1 m0 g0) m0 g0 rfl rfl qw_152 qw_153 qw_154 qw_2 qw_155 ⟨rfl, by decide +kernel, by decide +kernel, by decide +kernel⟩ ⟨Nat.le_of_ble_eq_true rfl, Nat.le_of_ble_eq_true rfl⟩ hl rfl rfl (Nat.le_of_ble_eq_true rfl) dX11_skin_21 ⟨Nat.le_of_ble_eq_true rfl, Nat.le_of_ble_eq_true rfl⟩ (fun z48930 F H locs hT hz48930 => ?_)
    obtain ⟨hz48930, yz48930⟩ := hz48930
    have hfr : (∀ b j : Nat, (tag b ≠ 26 ∨ j ≠ 13) → fld F b j = fld Fo b j) ∧ EF tag F Fo := ⟨fun b j n26_13 => (yz48930.1 b j n26_13).trans (hfr.1 b j n26_13), fun b j hb => (yz48930.2 b j hb).trans (hfr.2 b j hb)⟩
    exact t_iret hQ X hT (⟨rg_all _, hfr⟩) (Nat.le_of_ble_eq_true rfl) (Nat.le_of_ble_eq_true rfl) dX11_skin_24
  refine lv_aload_n hx hb dX11_skin_0 rfl (lv_at hl 0 rfl) ?_
  refine lv_iload_n hx hb dX11_skin_1 rfl (lv_at hl 1 rfl) ?_
  refine lv_iload_n hx hb dX11_skin_2 rfl (lv_at hl 2 rfl) ?_
  refine t_cVi (n := 2) (C := RX11) (T := TX11) (N := 16) (As := [.int p1, .int p2]) (rest := []) X hT (kt70_X11_isSkin l G tag L F hT.2.2.2 p0 p1 p2 m0 g0) m0 g0 rfl rfl qw_823 qw_824 qw_825 qw_2 qw_826 ⟨rfl, by decide +kernel, by decide +kernel, by decide +kernel⟩ ⟨Nat.le_of_ble_eq_true rfl, Nat.le_of_ble_eq_true rfl⟩ hl rfl rfl (Nat.le_of_ble_eq_true rfl) dX11_skin_3 ⟨Nat.le_of_ble_eq_true rfl, Nat.le_of_ble_eq_true rfl⟩ (fun z48931 F9 H locs hT hz48931 => ?_)
  obtain ⟨fz48931, hz48931⟩ := hz48931
  rw [fz48931] at hT
  obtain ⟨hz48931, iz48931⟩ := hz48931
  refine lv_if_eq (tgt := 19) hx hb dX11_skin_6 (by decide) (fun c48932 => ?_) (fun c48932 => ?_)
  · have w48933 := cv_eq (rfl : z48931.toInt = z48931.toInt) (by decide : (0 : Int32).toInt = 0) c48932
    exact K19  _ _ _ _  hT hfr  (lv_sub hl [0, 1, 2, 3] rfl)
  · have w48934 := cv_ne (rfl : z48931.toInt = z48931.toInt) (by decide : (0 : Int32).toInt = 0) c48932
    have w48935 := (fun h => (iz48931 h).1) (by omega)
    have w48936 := (fun h => (iz48931 h).2) (by omega)
    refine lv_iload_n hx hb dX11_skin_9 rfl (lv_at hl 3 rfl) ?_
    refine lv_if_lt (tgt := 19) hx hb dX11_skin_10 (by decide) (fun c48937 => ?_) (fun c48937 => ?_)
    · have w48938 := cv_lt (rfl : p3.toInt = p3.toInt) (by decide : (0 : Int32).toInt = 0) c48937
      exact K19  _ _ _ _  hT hfr  (lv_sub hl [0, 1, 2, 3] rfl)
    · have w48939 := cv_nlt (rfl : p3.toInt = p3.toInt) (by decide : (0 : Int32).toInt = 0) c48937
      refine lv_iload_n hx hb dX11_skin_13 rfl (lv_at hl 3 rfl) ?_
      refine lv_bipush (v := 8) hx hb dX11_skin_14 (by decide) ?_
      refine lv_icmp_lt (tgt := 25) hx hb dX11_skin_16 (by decide) (fun c48940 => ?_) (fun c48940 => ?_)
      · have w48941 := cv_lt (rfl : p3.toInt = p3.toInt) (by decide : (8 : Int32).toInt = 8) c48940
        refine lv_aload_n hx hb dX11_skin_25 rfl (lv_at hl 0 rfl) ?_
        refine lv_aload_n hx hb dX11_skin_26 rfl (lv_at hl 0 rfl) ?_
        refine t_get (C := RX11) (T := TX11) (N := 16) X hT m0 g0 rfl rfl 5 (by decide) qw_23 inlX11 rfl dX11_skin_27 (fun v48942 hv48942 ov48942 => ?_)
        obtain ⟨b48943, rfl, mb48943, gb48943⟩ := okV_r ov48942
        have gb48943 : tag b48943 = 19 := tg_of gb48943
        refine lv_iload_n hx hb dX11_skin_30 rfl (lv_at hl 1 rfl) ?_
        refine lv_iload_n hx hb dX11_skin_31 rfl (lv_at hl 2 rfl) ?_
        refine lv_iload_n hx hb dX11_skin_32 rfl (lv_at hl 3 rfl) ?_
        refine t_cVi (n := 3) (C := RX7) (T := TX7) (N := 7) (As := [.int p1, .int p2, .int p3]) (rest := [.ref p0]) X hT (kt15_X7_partOf l G tag L F hT.2.2.2 b48943 p1 p2 p3 mb48943 gb48943) mb48943 gb48943 rfl rfl qw_831 qw_778 qw_779 qw_22 qw_780 ⟨rfl, by decide +kernel, by decide +kernel, by decide +kernel⟩ ⟨Nat.le_of_ble_eq_true rfl, Nat.le_of_ble_eq_true rfl⟩ hl rfl rfl (Nat.le_of_ble_eq_true rfl) dX11_skin_33 ⟨Nat.le_of_ble_eq_true rfl, Nat.le_of_ble_eq_true rfl⟩ (fun z48944 F9 H locs hT hz48944 => ?_)
        obtain ⟨fz48944, hz48944⟩ := hz48944
        rw [fz48944] at hT
        refine t_cVi (n := 1) (C := RX11) (T := TX11) (N := 16) (As := [.int z48944]) (rest := []) X hT (kt56_X11_answer l G tag L F hT.2.2.2 p0 z48944 m0 g0) m0 g0 rfl rfl qw_463 qw_464 qw_465 qw_2 qw_466 ⟨rfl, by decide +kernel, by decide +kernel, by decide +kernel⟩ ⟨Nat.le_of_ble_eq_true rfl, Nat.le_of_ble_eq_true rfl⟩ hl rfl rfl (Nat.le_of_ble_eq_true rfl) dX11_skin_36 ⟨Nat.le_of_ble_eq_true rfl, Nat.le_of_ble_eq_true rfl⟩ (fun z48945 F H locs hT hz48945 => ?_)
        obtain ⟨hz48945, yz48945⟩ := hz48945
        have hv48942 := (yz48945.1 _ 5 (Or.inr (by decide))).trans hv48942
        have hfr : (∀ b j : Nat, (tag b ≠ 26 ∨ j ≠ 13) → fld F b j = fld Fo b j) ∧ EF tag F Fo := ⟨fun b j n26_13 => (yz48945.1 b j n26_13).trans (hfr.1 b j n26_13), fun b j hb => (yz48945.2 b j hb).trans (hfr.2 b j hb)⟩
        exact t_iret hQ X hT (⟨rg_all _, hfr⟩) (Nat.le_of_ble_eq_true rfl) (Nat.le_of_ble_eq_true rfl) dX11_skin_39
      · have w48946 := cv_nlt (rfl : p3.toInt = p3.toInt) (by decide : (8 : Int32).toInt = 8) c48940
        exact K19  _ _ _ _  hT hfr  (lv_sub hl [0, 1, 2, 3] rfl)
