set_option maxHeartbeats 4000000 in
set_option maxRecDepth 100000 in
theorem kt180_X11_soonest (l : Launch) (G : KG) (tag : Nat → Nat) (L : List Nat) (Fo : Nat → va_E) (ho : okT G ttC tag L Fo) (p0 : Nat) (p1 : Int32) (m0 : p0 ∈ L) (g0 : tag p0 = 26) : TMi l yX11_soonest cX11_soonest 2 (some .int) { frames := 4, cells := 0, slots := 0, locals := 86 } G ttC tag L Fo [.ref p0, .int p1] (fun r F1 => ((-2147483648) ≤ r.toInt ∧ r.toInt ≤ 2147483647) ∧ (∀ b j : Nat, (tag b ≠ 22 ∨ j ≠ 2) → (tag b ≠ 26 ∨ j ≠ 13) → fld F1 b j = fld Fo b j)) := by
  refine t_bodyi (y := yX11_soonest) (cd := cX11_soonest) (mL := 2) (rt := (some .int)) (rm := { frames := 4, cells := 0, slots := 0, locals := 86 }) (av := [.ref p0, .int p1]) (by decide) (Nat.le_of_ble_eq_true rfl) ho ?_
  intro p e s m args below meth c ls A Q hQ X hT hl
  have hx := X.1.1
  have hb := X.1.2.1
  have hl : lv_has ls 2 [(0, .ref p0), (1, .int p1)] := hl
  have rp1 := rg_all p1
  obtain ⟨F, hFo⟩ : ∃ F : Nat → va_E, F = Fo := ⟨_, rfl⟩
  rw [← hFo] at hT
  have hfr : ∀ b j : Nat, (tag b ≠ 22 ∨ j ≠ 2) → (tag b ≠ 26 ∨ j ≠ 13) → fld F b j = fld Fo b j := by
    rw [hFo]
    intros
    rfl
  have K57 : ∀ (z65862 : Int32) (b65863 : Nat) (F : Nat → va_E) (H : Heap) (locs : List Loc) (ls : Array Slot), (b65863 ∈ L) → (tag b65863 = 26) → (0 ≤ p1.toInt ∧ p1.toInt ≤ 5) → TH G ttC A s tag L F H locs → (∀ b j : Nat, (tag b ≠ 22 ∨ j ≠ 2) → (tag b ≠ 26 ∨ j ≠ 13) → fld F b j = fld Fo b j) → lv_has ls 2 [(0, .ref p0), (1, .int p1)] → W p l e { frames := 4, cells := 0, slots := 0, locals := 86 } s m args below meth c H locs 0 0 Q (F0 m 57 ls [.int z65862, .ref b65863]) := by
    intro z65862 b65863 F H locs ls mb65863 gb65863 r9s65861 hT hfr hl
    have rz65862 := rg_all z65862
    refine t_cVi (n := 1) (C := RX11) (T := TX11) (N := 16) (As := [.int z65862]) (rest := []) X hT (kt96_X11_answer l G tag L F hT.2.2.2 b65863 z65862 mb65863 gb65863) mb65863 gb65863 rfl rfl qw_463 qw_464 qw_465 qw_2 qw_466 ⟨rfl, by decide +kernel, by decide +kernel, by decide +kernel⟩ ⟨Nat.le_of_ble_eq_true rfl, Nat.le_of_ble_eq_true rfl⟩ hl rfl rfl (Nat.le_of_ble_eq_true rfl) dX11_soonest_57 ⟨Nat.le_of_ble_eq_true rfl, Nat.le_of_ble_eq_true rfl⟩ (fun z65864 F H locs hT hz65864 => ?_)
    obtain ⟨hz65864, yz65864⟩ := hz65864
    have hfr : ∀ b j : Nat, (tag b ≠ 22 ∨ j ≠ 2) → (tag b ≠ 26 ∨ j ≠ 13) → fld F b j = fld Fo b j := fun b j n22_2 n26_13 => (yz65864 b j n26_13).trans (hfr b j n22_2 n26_13)
    exact t_iret hQ X hT (⟨rg_all _, hfr⟩) (Nat.le_of_ble_eq_true rfl) (Nat.le_of_ble_eq_true rfl) dX11_soonest_60
  refine lv_aload_n hx hb dX11_soonest_0 rfl (lv_at hl 0 rfl) ?_
  refine lv_iload_n hx hb dX11_soonest_1 rfl (lv_at hl 1 rfl) ?_
  refine t_cVi (n := 1) (C := RX11) (T := TX11) (N := 16) (As := [.int p1]) (rest := []) X hT (kt145_X11_isWall l G tag L F hT.2.2.2 p0 p1 m0 g0) m0 g0 rfl rfl qw_1379 qw_1380 qw_1381 qw_2 qw_1382 ⟨rfl, by decide +kernel, by decide +kernel, by decide +kernel⟩ ⟨Nat.le_of_ble_eq_true rfl, Nat.le_of_ble_eq_true rfl⟩ hl rfl rfl (Nat.le_of_ble_eq_true rfl) dX11_soonest_2 ⟨Nat.le_of_ble_eq_true rfl, Nat.le_of_ble_eq_true rfl⟩ (fun z65865 F9 H locs hT hz65865 => ?_)
  obtain ⟨fz65865, hz65865⟩ := hz65865
  rw [fz65865] at hT
  obtain ⟨hz65865, iz65865⟩ := hz65865
  refine lv_if_ne (tgt := 14) hx hb dX11_soonest_5 (by decide) (fun c65866 => ?_) (fun c65866 => ?_)
  · have w65867 := cv_ne (rfl : z65865.toInt = z65865.toInt) (by decide : (0 : Int32).toInt = 0) c65866
    have w65868 := (fun h => (iz65865 h)) (by omega)
    refine lv_aload_n hx hb dX11_soonest_14 rfl (lv_at hl 0 rfl) ?_
    refine t_get (C := RX11) (T := TX11) (N := 16) X hT m0 g0 rfl rfl 11 (by decide) qw_41 inlX11 rfl dX11_soonest_15 (fun v65869 hv65869 ov65869 => ?_)
    obtain ⟨b65870, rfl, mb65870, gb65870⟩ := okV_r ov65869
    have gb65870 : tag b65870 = 22 := tg_of gb65870
    refine lv_aload_n hx hb dX11_soonest_18 rfl (lv_at hl 0 rfl) ?_
    refine t_get (C := RX11) (T := TX11) (N := 16) X hT m0 g0 rfl rfl 3 (by decide) qw_18 inlX11 rfl dX11_soonest_19 (fun v65871 hv65871 ov65871 => ?_)
    obtain ⟨b65872, rfl, mb65872, gb65872⟩ := okV_r ov65871
    have gb65872 : tag b65872 = 18 := tg_of gb65872
    refine lv_aload_n hx hb dX11_soonest_22 rfl (lv_at hl 0 rfl) ?_
    refine t_get (C := RX11) (T := TX11) (N := 16) X hT m0 g0 rfl rfl 5 (by decide) qw_23 inlX11 rfl dX11_soonest_23 (fun v65873 hv65873 ov65873 => ?_)
    obtain ⟨b65874, rfl, mb65874, gb65874⟩ := okV_r ov65873
    have gb65874 : tag b65874 = 19 := tg_of gb65874
    refine t_get (C := RX7) (T := TX7) (N := 7) X hT mb65874 gb65874 rfl rfl 0 (by decide) qw_1225 inlX7 rfl dX11_soonest_26 (fun v65875 hv65875 ov65875 => ?_)
    obtain ⟨z65876, rfl, rz65876⟩ := okV_i ov65875
    refine t_cVv (n := 2) (C := RX9) (T := TX9) (N := 6) (As := [.ref b65872, .int z65876]) (rest := []) X hT (kt154_X9_lookAtAll l G tag L F hT.2.2.2 b65870 b65872 z65876 mb65870 gb65870 mb65872 gb65872) mb65870 gb65870 rfl rfl qw_1333 qw_1334 qw_1335 qw_40 qw_1336 ⟨rfl, by decide +kernel, by decide +kernel, by decide +kernel⟩ ⟨Nat.le_of_ble_eq_true rfl, Nat.le_of_ble_eq_true rfl⟩ hl rfl rfl (Nat.le_of_ble_eq_true rfl) dX11_soonest_29 ⟨Nat.le_of_ble_eq_true rfl, Nat.le_of_ble_eq_true rfl⟩ (fun F H locs hT hz65877 => ?_)
    have yz65877 := hz65877
    have hv65869 := (yz65877 _ 11 (Or.inr (by decide))).trans hv65869
    have hv65871 := (yz65877 _ 3 (Or.inr (by decide))).trans hv65871
    have hv65873 := (yz65877 _ 5 (Or.inr (by decide))).trans hv65873
    have hv65875 := (yz65877 _ 0 (Or.inr (by decide))).trans hv65875
    have hfr : ∀ b j : Nat, (tag b ≠ 22 ∨ j ≠ 2) → (tag b ≠ 26 ∨ j ≠ 13) → fld F b j = fld Fo b j := fun b j n22_2 n26_13 => (yz65877 b j n22_2).trans (hfr b j n22_2 n26_13)
    refine lv_aload_n hx hb dX11_soonest_32 rfl (lv_at hl 0 rfl) ?_
    refine lv_aload_n hx hb dX11_soonest_33 rfl (lv_at hl 0 rfl) ?_
    refine t_get (C := RX11) (T := TX11) (N := 16) X hT m0 g0 rfl rfl 11 (by decide) qw_41 inlX11 rfl dX11_soonest_34 (fun v65878 hv65878 ov65878 => ?_)
    obtain rfl : v65878 = .ref b65870 := hv65878.symm.trans hv65869
    refine t_get (C := RX9) (T := TX9) (N := 6) X hT mb65870 gb65870 rfl rfl 2 (by decide) qw_1332 inlX9 rfl dX11_soonest_37 (fun v65879 hv65879 ov65879 => ?_)
    obtain ⟨z65880, rfl, rz65880⟩ := okV_i ov65879
    refine lv_if_ne (tgt := 48) hx hb dX11_soonest_40 (by decide) (fun c65881 => ?_) (fun c65881 => ?_)
    · have w65882 := cv_ne (rfl : z65880.toInt = z65880.toInt) (by decide : (0 : Int32).toInt = 0) c65881
      refine lv_aload_n hx hb dX11_soonest_48 rfl (lv_at hl 0 rfl) ?_
      refine t_get (C := RX11) (T := TX11) (N := 16) X hT m0 g0 rfl rfl 11 (by decide) qw_41 inlX11 rfl dX11_soonest_49 (fun v65883 hv65883 ov65883 => ?_)
      obtain rfl : v65883 = .ref b65870 := hv65883.symm.trans hv65869
      refine t_get (C := RX9) (T := TX9) (N := 6) X hT mb65870 gb65870 rfl rfl 3 (by decide) qw_1400 inlX9 rfl dX11_soonest_52 (fun v65884 hv65884 ov65884 => ?_)
      obtain ⟨b65885, rfl, mb65885, gb65885⟩ := okV_r ov65884
      have gb65885 : tag b65885 = 7 := tg_of gb65885
      refine lv_iload_n hx hb dX11_soonest_55 rfl (lv_at hl 1 rfl) ?_
      refine t_ild X hT mb65885 gb65885 rfl (by omega) dX11_soonest_56 (fun z65886 vz65886 rz65886 => ?_)
      have rz65886 : (-2147483648) ≤ z65886.toInt ∧ z65886.toInt ≤ 2147483647 := rz65886
      exact K57 z65886 p0 _ _ _ _ m0 g0 (by omega) hT hfr  (lv_sub hl [0, 1] rfl)
    · have w65887 := cv_eq (rfl : z65880.toInt = z65880.toInt) (by decide : (0 : Int32).toInt = 0) c65881
      refine lv_bipush (v := (-2)) hx hb dX11_soonest_43 (by decide) ?_
      refine lv_goto (tgt := 57) hx hb dX11_soonest_45 (by decide) ?_
      exact K57 (-2) p0 _ _ _ _ m0 g0 (by omega) hT hfr  (lv_sub hl [0, 1] rfl)
  · have w65888 := cv_eq (rfl : z65865.toInt = z65865.toInt) (by decide : (0 : Int32).toInt = 0) c65866
    refine lv_aload_n hx hb dX11_soonest_8 rfl (lv_at hl 0 rfl) ?_
    refine lv_iconst (v := 1) hx hb dX11_soonest_9 (by decide) ?_
    refine t_cVi (n := 1) (C := RX11) (T := TX11) (N := 16) (As := [.int 1]) (rest := []) X hT (kt97_X11_refuse l G tag L F hT.2.2.2 p0 1 m0 g0) m0 g0 rfl rfl qw_152 qw_153 qw_154 qw_2 qw_155 ⟨rfl, by decide +kernel, by decide +kernel, by decide +kernel⟩ ⟨Nat.le_of_ble_eq_true rfl, Nat.le_of_ble_eq_true rfl⟩ hl rfl rfl (Nat.le_of_ble_eq_true rfl) dX11_soonest_10 ⟨Nat.le_of_ble_eq_true rfl, Nat.le_of_ble_eq_true rfl⟩ (fun z65889 F H locs hT hz65889 => ?_)
    obtain ⟨hz65889, yz65889⟩ := hz65889
    have hfr : ∀ b j : Nat, (tag b ≠ 22 ∨ j ≠ 2) → (tag b ≠ 26 ∨ j ≠ 13) → fld F b j = fld Fo b j := fun b j n22_2 n26_13 => (yz65889 b j n26_13).trans (hfr b j n22_2 n26_13)
    exact t_iret hQ X hT (⟨rg_all _, hfr⟩) (Nat.le_of_ble_eq_true rfl) (Nat.le_of_ble_eq_true rfl) dX11_soonest_13
set_option maxHeartbeats 4000000 in
set_option maxRecDepth 100000 in
theorem kt181_X11_stone (l : Launch) (G : KG) (tag : Nat → Nat) (L : List Nat) (Fo : Nat → va_E) (ho : okT G ttC tag L Fo) (p0 : Nat) (p1 : Int32) (p2 : Int32) (m0 : p0 ∈ L) (g0 : tag p0 = 26) : TMi l yX11_stone cX11_stone 3 (some .int) { frames := 1, cells := 0, slots := 0, locals := 23 } G ttC tag L Fo [.ref p0, .int p1, .int p2] (fun r F1 => ((-2147483648) ≤ r.toInt ∧ r.toInt ≤ 2147483647) ∧ (∀ b j : Nat, (tag b ≠ 26 ∨ j ≠ 13) → fld F1 b j = fld Fo b j)) := by
  refine t_bodyi (y := yX11_stone) (cd := cX11_stone) (mL := 3) (rt := (some .int)) (rm := { frames := 1, cells := 0, slots := 0, locals := 23 }) (av := [.ref p0, .int p1, .int p2]) (by decide) (Nat.le_of_ble_eq_true rfl) ho ?_
  intro p e s m args below meth c ls A Q hQ X hT hl
  have hx := X.1.1
  have hb := X.1.2.1
  have hl : lv_has ls 3 [(0, .ref p0), (1, .int p1), (2, .int p2)] := hl
  have rp1 := rg_all p1
  have rp2 := rg_all p2
  obtain ⟨F, hFo⟩ : ∃ F : Nat → va_E, F = Fo := ⟨_, rfl⟩
  rw [← hFo] at hT
  have hfr : ∀ b j : Nat, (tag b ≠ 26 ∨ j ≠ 13) → fld F b j = fld Fo b j := by
    rw [hFo]
    intros
    rfl
  have K17 : ∀  (F : Nat → va_E) (H : Heap) (locs : List Loc) (ls : Array Slot), TH G ttC A s tag L F H locs → (∀ b j : Nat, (tag b ≠ 26 ∨ j ≠ 13) → fld F b j = fld Fo b j) → lv_has ls 3 [(0, .ref p0), (1, .int p1), (2, .int p2)] → W p l e { frames := 1, cells := 0, slots := 0, locals := 23 } s m args below meth c H locs 0 0 Q (F0 m 17 ls []) := by
    intro F H locs ls hT hfr hl
    refine lv_aload_n hx hb dX11_stone_17 rfl (lv_at hl 0 rfl) ?_
    refine lv_iconst (v := 1) hx hb dX11_stone_18 (by decide) ?_
    refine t_cVi (n := 1) (C := RX11) (T := TX11) (N := 16) (As := [.int 1]) (rest := []) X hT (kt97_X11_refuse l G tag L F hT.2.2.2 p0 1 m0 g0) m0 g0 rfl rfl qw_152 qw_153 qw_154 qw_2 qw_155 ⟨rfl, by decide +kernel, by decide +kernel, by decide +kernel⟩ ⟨Nat.le_of_ble_eq_true rfl, Nat.le_of_ble_eq_true rfl⟩ hl rfl rfl (Nat.le_of_ble_eq_true rfl) dX11_stone_19 ⟨Nat.le_of_ble_eq_true rfl, Nat.le_of_ble_eq_true rfl⟩ (fun z66066 F H locs hT hz66066 => ?_)
    obtain ⟨hz66066, yz66066⟩ := hz66066
    have hfr : ∀ b j : Nat, (tag b ≠ 26 ∨ j ≠ 13) → fld F b j = fld Fo b j := fun b j n26_13 => (yz66066 b j n26_13).trans (hfr b j n26_13)
    exact t_iret hQ X hT (⟨rg_all _, hfr⟩) (Nat.le_of_ble_eq_true rfl) (Nat.le_of_ble_eq_true rfl) dX11_stone_22
  refine lv_aload_n hx hb dX11_stone_0 rfl (lv_at hl 0 rfl) ?_
  refine lv_iload_n hx hb dX11_stone_1 rfl (lv_at hl 1 rfl) ?_
  refine t_cVi (n := 1) (C := RX11) (T := TX11) (N := 16) (As := [.int p1]) (rest := []) X hT (kt99_X11_isStone l G tag L F hT.2.2.2 p0 p1 m0 g0) m0 g0 rfl rfl qw_954 qw_955 qw_956 qw_2 qw_957 ⟨rfl, by decide +kernel, by decide +kernel, by decide +kernel⟩ ⟨Nat.le_of_ble_eq_true rfl, Nat.le_of_ble_eq_true rfl⟩ hl rfl rfl (Nat.le_of_ble_eq_true rfl) dX11_stone_2 ⟨Nat.le_of_ble_eq_true rfl, Nat.le_of_ble_eq_true rfl⟩ (fun z66067 F9 H locs hT hz66067 => ?_)
  obtain ⟨fz66067, hz66067⟩ := hz66067
  rw [fz66067] at hT
  refine lv_if_eq (tgt := 17) hx hb dX11_stone_5 (by decide) (fun c66068 => ?_) (fun c66068 => ?_)
  · have w66069 := cv_eq (rfl : z66067.toInt = z66067.toInt) (by decide : (0 : Int32).toInt = 0) c66068
    exact K17  _ _ _ _  hT hfr  (lv_sub hl [0, 1, 2] rfl)
  · have w66070 := cv_ne (rfl : z66067.toInt = z66067.toInt) (by decide : (0 : Int32).toInt = 0) c66068
    refine lv_iload_n hx hb dX11_stone_8 rfl (lv_at hl 2 rfl) ?_
    refine lv_if_lt (tgt := 17) hx hb dX11_stone_9 (by decide) (fun c66071 => ?_) (fun c66071 => ?_)
    · have w66072 := cv_lt (rfl : p2.toInt = p2.toInt) (by decide : (0 : Int32).toInt = 0) c66071
      exact K17  _ _ _ _  hT hfr  (lv_sub hl [0, 1, 2] rfl)
    · have w66073 := cv_nlt (rfl : p2.toInt = p2.toInt) (by decide : (0 : Int32).toInt = 0) c66071
      refine lv_iload_n hx hb dX11_stone_12 rfl (lv_at hl 2 rfl) ?_
      refine lv_iconst (v := 5) hx hb dX11_stone_13 (by decide) ?_
      refine lv_icmp_lt (tgt := 23) hx hb dX11_stone_14 (by decide) (fun c66074 => ?_) (fun c66074 => ?_)
      · have w66075 := cv_lt (rfl : p2.toInt = p2.toInt) (by decide : (5 : Int32).toInt = 5) c66074
        refine lv_aload_n hx hb dX11_stone_23 rfl (lv_at hl 0 rfl) ?_
        refine lv_aload_n hx hb dX11_stone_24 rfl (lv_at hl 0 rfl) ?_
        refine t_get (C := RX11) (T := TX11) (N := 16) X hT m0 g0 rfl rfl 3 (by decide) qw_18 inlX11 rfl dX11_stone_25 (fun v66076 hv66076 ov66076 => ?_)
        obtain ⟨b66077, rfl, mb66077, gb66077⟩ := okV_r ov66076
        have gb66077 : tag b66077 = 18 := tg_of gb66077
        refine lv_iload_n hx hb dX11_stone_28 rfl (lv_at hl 1 rfl) ?_
        refine lv_iload_n hx hb dX11_stone_29 rfl (lv_at hl 2 rfl) ?_
        refine t_cVi (n := 2) (C := RX1) (T := TX1) (N := 20) (As := [.int p1, .int p2]) (rest := [.ref p0]) X hT (kt48_X1_stonePart l G tag L F hT.2.2.2 b66077 p1 p2 mb66077 gb66077) mb66077 gb66077 rfl rfl qw_857 qw_858 qw_859 qw_17 qw_860 ⟨rfl, by decide +kernel, by decide +kernel, by decide +kernel⟩ ⟨Nat.le_of_ble_eq_true rfl, Nat.le_of_ble_eq_true rfl⟩ hl rfl rfl (Nat.le_of_ble_eq_true rfl) dX11_stone_30 ⟨Nat.le_of_ble_eq_true rfl, Nat.le_of_ble_eq_true rfl⟩ (fun z66078 F9 H locs hT hz66078 => ?_)
        obtain ⟨fz66078, hz66078⟩ := hz66078
        rw [fz66078] at hT
        refine t_cVi (n := 1) (C := RX11) (T := TX11) (N := 16) (As := [.int z66078]) (rest := []) X hT (kt96_X11_answer l G tag L F hT.2.2.2 p0 z66078 m0 g0) m0 g0 rfl rfl qw_463 qw_464 qw_465 qw_2 qw_466 ⟨rfl, by decide +kernel, by decide +kernel, by decide +kernel⟩ ⟨Nat.le_of_ble_eq_true rfl, Nat.le_of_ble_eq_true rfl⟩ hl rfl rfl (Nat.le_of_ble_eq_true rfl) dX11_stone_33 ⟨Nat.le_of_ble_eq_true rfl, Nat.le_of_ble_eq_true rfl⟩ (fun z66079 F H locs hT hz66079 => ?_)
        obtain ⟨hz66079, yz66079⟩ := hz66079
        have hv66076 := (yz66079 _ 3 (Or.inr (by decide))).trans hv66076
        have hfr : ∀ b j : Nat, (tag b ≠ 26 ∨ j ≠ 13) → fld F b j = fld Fo b j := fun b j n26_13 => (yz66079 b j n26_13).trans (hfr b j n26_13)
        exact t_iret hQ X hT (⟨rg_all _, hfr⟩) (Nat.le_of_ble_eq_true rfl) (Nat.le_of_ble_eq_true rfl) dX11_stone_36
      · have w66080 := cv_nlt (rfl : p2.toInt = p2.toInt) (by decide : (5 : Int32).toInt = 5) c66074
        exact K17  _ _ _ _  hT hfr  (lv_sub hl [0, 1, 2] rfl)
set_option maxHeartbeats 4000000 in
set_option maxRecDepth 100000 in
theorem kt182_X11_surely (l : Launch) (G : KG) (tag : Nat → Nat) (L : List Nat) (Fo : Nat → va_E) (ho : okT G ttC tag L Fo) (p0 : Nat) (p1 : Int32) (p2 : Int32) (m0 : p0 ∈ L) (g0 : tag p0 = 26) : TMi l yX11_surely cX11_surely 4 (some .int) { frames := 4, cells := 0, slots := 0, locals := 86 } G ttC tag L Fo [.ref p0, .int p1, .int p2] (fun r F1 => ((-2147483648) ≤ r.toInt ∧ r.toInt ≤ 2147483647) ∧ (∀ b j : Nat, (tag b ≠ 22 ∨ j ≠ 2) → (tag b ≠ 26 ∨ j ≠ 13) → fld F1 b j = fld Fo b j)) := by
  refine t_bodyi (y := yX11_surely) (cd := cX11_surely) (mL := 4) (rt := (some .int)) (rm := { frames := 4, cells := 0, slots := 0, locals := 86 }) (av := [.ref p0, .int p1, .int p2]) (by decide) (Nat.le_of_ble_eq_true rfl) ho ?_
  intro p e s m args below meth c ls A Q hQ X hT hl
  have hx := X.1.1
  have hb := X.1.2.1
  have hl : lv_has ls 4 [(0, .ref p0), (1, .int p1), (2, .int p2)] := hl
  have rp1 := rg_all p1
  have rp2 := rg_all p2
  obtain ⟨F, hFo⟩ : ∃ F : Nat → va_E, F = Fo := ⟨_, rfl⟩
  rw [← hFo] at hT
  have hfr : ∀ b j : Nat, (tag b ≠ 22 ∨ j ≠ 2) → (tag b ≠ 26 ∨ j ≠ 13) → fld F b j = fld Fo b j := by
    rw [hFo]
    intros
    rfl
  have K21 : ∀  (F : Nat → va_E) (H : Heap) (locs : List Loc) (ls : Array Slot), TH G ttC A s tag L F H locs → (∀ b j : Nat, (tag b ≠ 22 ∨ j ≠ 2) → (tag b ≠ 26 ∨ j ≠ 13) → fld F b j = fld Fo b j) → lv_has ls 4 [(0, .ref p0), (1, .int p1), (2, .int p2)] → W p l e { frames := 4, cells := 0, slots := 0, locals := 86 } s m args below meth c H locs 0 0 Q (F0 m 21 ls []) := by
    intro F H locs ls hT hfr hl
    refine lv_aload_n hx hb dX11_surely_21 rfl (lv_at hl 0 rfl) ?_
    refine lv_iconst (v := 1) hx hb dX11_surely_22 (by decide) ?_
    refine t_cVi (n := 1) (C := RX11) (T := TX11) (N := 16) (As := [.int 1]) (rest := []) X hT (kt97_X11_refuse l G tag L F hT.2.2.2 p0 1 m0 g0) m0 g0 rfl rfl qw_152 qw_153 qw_154 qw_2 qw_155 ⟨rfl, by decide +kernel, by decide +kernel, by decide +kernel⟩ ⟨Nat.le_of_ble_eq_true rfl, Nat.le_of_ble_eq_true rfl⟩ hl rfl rfl (Nat.le_of_ble_eq_true rfl) dX11_surely_23 ⟨Nat.le_of_ble_eq_true rfl, Nat.le_of_ble_eq_true rfl⟩ (fun z66651 F H locs hT hz66651 => ?_)
    obtain ⟨hz66651, yz66651⟩ := hz66651
    have hfr : ∀ b j : Nat, (tag b ≠ 22 ∨ j ≠ 2) → (tag b ≠ 26 ∨ j ≠ 13) → fld F b j = fld Fo b j := fun b j n22_2 n26_13 => (yz66651 b j n26_13).trans (hfr b j n22_2 n26_13)
    exact t_iret hQ X hT (⟨rg_all _, hfr⟩) (Nat.le_of_ble_eq_true rfl) (Nat.le_of_ble_eq_true rfl) dX11_surely_26
  have K88 : ∀ (z66654 : Int32) (z66655 : Int32) (b66656 : Nat) (F : Nat → va_E) (H : Heap) (locs : List Loc) (ls : Array Slot), (0 ≤ z66654.toInt ∧ z66654.toInt ≤ 1) → (0 ≤ z66655.toInt ∧ z66655.toInt ≤ 1) → (b66656 ∈ L) → (tag b66656 = 26) → (0 ≤ p1.toInt ∧ p1.toInt ≤ 5) → (0 ≤ p2.toInt ∧ p2.toInt ≤ 5) → TH G ttC A s tag L F H locs → (∀ b j : Nat, (tag b ≠ 22 ∨ j ≠ 2) → (tag b ≠ 26 ∨ j ≠ 13) → fld F b j = fld Fo b j) → lv_has ls 4 [(0, .ref p0), (1, .int p1), (2, .int p2), (3, .int z66654)] → W p l e { frames := 4, cells := 0, slots := 0, locals := 86 } s m args below meth c H locs 0 0 Q (F0 m 88 ls [.int z66655, .ref b66656]) := by
    intro z66654 z66655 b66656 F H locs ls rz66654 rz66655 mb66656 gb66656 r9s66652 r9s66653 hT hfr hl
    refine t_cVi (n := 1) (C := RX11) (T := TX11) (N := 16) (As := [.int z66655]) (rest := []) X hT (kt96_X11_answer l G tag L F hT.2.2.2 b66656 z66655 mb66656 gb66656) mb66656 gb66656 rfl rfl qw_463 qw_464 qw_465 qw_2 qw_466 ⟨rfl, by decide +kernel, by decide +kernel, by decide +kernel⟩ ⟨Nat.le_of_ble_eq_true rfl, Nat.le_of_ble_eq_true rfl⟩ hl rfl rfl (Nat.le_of_ble_eq_true rfl) dX11_surely_88 ⟨Nat.le_of_ble_eq_true rfl, Nat.le_of_ble_eq_true rfl⟩ (fun z66657 F H locs hT hz66657 => ?_)
    obtain ⟨hz66657, yz66657⟩ := hz66657
    have hfr : ∀ b j : Nat, (tag b ≠ 22 ∨ j ≠ 2) → (tag b ≠ 26 ∨ j ≠ 13) → fld F b j = fld Fo b j := fun b j n22_2 n26_13 => (yz66657 b j n26_13).trans (hfr b j n22_2 n26_13)
    exact t_iret hQ X hT (⟨rg_all _, hfr⟩) (Nat.le_of_ble_eq_true rfl) (Nat.le_of_ble_eq_true rfl) dX11_surely_91
  have K87 : ∀ (z66660 : Int32) (b66661 : Nat) (F : Nat → va_E) (H : Heap) (locs : List Loc) (ls : Array Slot), (0 ≤ z66660.toInt ∧ z66660.toInt ≤ 1) → (b66661 ∈ L) → (tag b66661 = 26) → (0 ≤ p1.toInt ∧ p1.toInt ≤ 5) → (0 ≤ p2.toInt ∧ p2.toInt ≤ 5) → TH G ttC A s tag L F H locs → (∀ b j : Nat, (tag b ≠ 22 ∨ j ≠ 2) → (tag b ≠ 26 ∨ j ≠ 13) → fld F b j = fld Fo b j) → lv_has ls 4 [(0, .ref p0), (1, .int p1), (2, .int p2), (3, .int z66660)] → W p l e { frames := 4, cells := 0, slots := 0, locals := 86 } s m args below meth c H locs 0 0 Q (F0 m 87 ls [.ref b66661]) := by
    intro z66660 b66661 F H locs ls rz66660 mb66661 gb66661 r9s66658 r9s66659 hT hfr hl
    refine lv_iconst (v := 0) hx hb dX11_surely_87 (by decide) ?_
    exact K88 z66660 0 b66661 _ _ _ _ (by omega) (by decide) mb66661 gb66661 (by omega) (by omega) hT hfr  (lv_sub hl [0, 1, 2, 3] rfl)
  have K67 : ∀ (z66664 : Int32) (F : Nat → va_E) (H : Heap) (locs : List Loc) (ls : Array Slot), (0 ≤ z66664.toInt ∧ z66664.toInt ≤ 1) → (0 ≤ p1.toInt ∧ p1.toInt ≤ 5) → (0 ≤ p2.toInt ∧ p2.toInt ≤ 5) → TH G ttC A s tag L F H locs → (∀ b j : Nat, (tag b ≠ 22 ∨ j ≠ 2) → (tag b ≠ 26 ∨ j ≠ 13) → fld F b j = fld Fo b j) → lv_has ls 4 [(0, .ref p0), (1, .int p1), (2, .int p2)] → W p l e { frames := 4, cells := 0, slots := 0, locals := 86 } s m args below meth c H locs 0 0 Q (F0 m 67 ls [.int z66664]) := by
    intro z66664 F H locs ls rz66664 r9s66662 r9s66663 hT hfr hl
    refine lv_istore_n (lv' := [(3, .int z66664), (0, .ref p0), (1, .int p1), (2, .int p2)]) hx hb dX11_surely_67 rfl hl (by decide) rfl (fun ls hl => ?_)
    refine lv_aload_n hx hb dX11_surely_68 rfl (lv_at hl 1 rfl) ?_
    refine lv_aload_n hx hb dX11_surely_69 rfl (lv_at hl 1 rfl) ?_
    refine t_get (C := RX11) (T := TX11) (N := 16) X hT m0 g0 rfl rfl 11 (by decide) qw_41 inlX11 rfl dX11_surely_70 (fun v66665 hv66665 ov66665 => ?_)
    obtain ⟨b66666, rfl, mb66666, gb66666⟩ := okV_r ov66665
    have gb66666 : tag b66666 = 22 := tg_of gb66666
    refine t_get (C := RX9) (T := TX9) (N := 6) X hT mb66666 gb66666 rfl rfl 2 (by decide) qw_1332 inlX9 rfl dX11_surely_73 (fun v66667 hv66667 ov66667 => ?_)
    obtain ⟨z66668, rfl, rz66668⟩ := okV_i ov66667
    refine lv_if_le (tgt := 87) hx hb dX11_surely_76 (by decide) (fun c66669 => ?_) (fun c66669 => ?_)
    · have w66670 := cv_le (rfl : z66668.toInt = z66668.toInt) (by decide : (0 : Int32).toInt = 0) c66669
      exact K87 z66664 p0 _ _ _ _ (by omega) m0 g0 (by omega) (by omega) hT hfr  (lv_sub hl [1, 2, 3, 0] rfl)
    · have w66671 := cv_nle (rfl : z66668.toInt = z66668.toInt) (by decide : (0 : Int32).toInt = 0) c66669
      refine lv_iload_n hx hb dX11_surely_79 rfl (lv_at hl 0 rfl) ?_
      refine lv_if_eq (tgt := 87) hx hb dX11_surely_80 (by decide) (fun c66672 => ?_) (fun c66672 => ?_)
      · have w66673 := cv_eq (rfl : z66664.toInt = z66664.toInt) (by decide : (0 : Int32).toInt = 0) c66672
        exact K87 z66664 p0 _ _ _ _ (by omega) m0 g0 (by omega) (by omega) hT hfr  (lv_sub hl [1, 2, 3, 0] rfl)
      · have w66674 := cv_ne (rfl : z66664.toInt = z66664.toInt) (by decide : (0 : Int32).toInt = 0) c66672
        refine lv_iconst (v := 1) hx hb dX11_surely_83 (by decide) ?_
        refine lv_goto (tgt := 88) hx hb dX11_surely_84 (by decide) ?_
        exact K88 z66664 1 p0 _ _ _ _ (by omega) (by decide) m0 g0 (by omega) (by omega) hT hfr  (lv_sub hl [1, 2, 3, 0] rfl)
  refine lv_aload_n hx hb dX11_surely_0 rfl (lv_at hl 0 rfl) ?_
  refine lv_iload_n hx hb dX11_surely_1 rfl (lv_at hl 1 rfl) ?_
  refine t_cVi (n := 1) (C := RX11) (T := TX11) (N := 16) (As := [.int p1]) (rest := []) X hT (kt145_X11_isWall l G tag L F hT.2.2.2 p0 p1 m0 g0) m0 g0 rfl rfl qw_1379 qw_1380 qw_1381 qw_2 qw_1382 ⟨rfl, by decide +kernel, by decide +kernel, by decide +kernel⟩ ⟨Nat.le_of_ble_eq_true rfl, Nat.le_of_ble_eq_true rfl⟩ hl rfl rfl (Nat.le_of_ble_eq_true rfl) dX11_surely_2 ⟨Nat.le_of_ble_eq_true rfl, Nat.le_of_ble_eq_true rfl⟩ (fun z66675 F9 H locs hT hz66675 => ?_)
  obtain ⟨fz66675, hz66675⟩ := hz66675
  rw [fz66675] at hT
  obtain ⟨hz66675, iz66675⟩ := hz66675
  refine lv_if_eq (tgt := 21) hx hb dX11_surely_5 (by decide) (fun c66676 => ?_) (fun c66676 => ?_)
  · have w66677 := cv_eq (rfl : z66675.toInt = z66675.toInt) (by decide : (0 : Int32).toInt = 0) c66676
    exact K21  _ _ _ _  hT hfr  (lv_sub hl [0, 1, 2] rfl)
  · have w66678 := cv_ne (rfl : z66675.toInt = z66675.toInt) (by decide : (0 : Int32).toInt = 0) c66676
    have w66679 := (fun h => (iz66675 h)) (by omega)
    refine lv_aload_n hx hb dX11_surely_8 rfl (lv_at hl 0 rfl) ?_
    refine lv_iload_n hx hb dX11_surely_9 rfl (lv_at hl 2 rfl) ?_
    refine t_cVi (n := 1) (C := RX11) (T := TX11) (N := 16) (As := [.int p2]) (rest := []) X hT (kt145_X11_isWall l G tag L F hT.2.2.2 p0 p2 m0 g0) m0 g0 rfl rfl qw_1379 qw_1380 qw_1381 qw_2 qw_1382 ⟨rfl, by decide +kernel, by decide +kernel, by decide +kernel⟩ ⟨Nat.le_of_ble_eq_true rfl, Nat.le_of_ble_eq_true rfl⟩ hl rfl rfl (Nat.le_of_ble_eq_true rfl) dX11_surely_10 ⟨Nat.le_of_ble_eq_true rfl, Nat.le_of_ble_eq_true rfl⟩ (fun z66680 F9 H locs hT hz66680 => ?_)
    obtain ⟨fz66680, hz66680⟩ := hz66680
    rw [fz66680] at hT
    obtain ⟨hz66680, iz66680⟩ := hz66680
    refine lv_if_eq (tgt := 21) hx hb dX11_surely_13 (by decide) (fun c66681 => ?_) (fun c66681 => ?_)
    · have w66682 := cv_eq (rfl : z66680.toInt = z66680.toInt) (by decide : (0 : Int32).toInt = 0) c66681
      exact K21  _ _ _ _  hT hfr  (lv_sub hl [0, 1, 2] rfl)
    · have w66683 := cv_ne (rfl : z66680.toInt = z66680.toInt) (by decide : (0 : Int32).toInt = 0) c66681
      have w66684 := (fun h => (iz66680 h)) (by omega)
      refine lv_iload_n hx hb dX11_surely_16 rfl (lv_at hl 1 rfl) ?_
      refine lv_iload_n hx hb dX11_surely_17 rfl (lv_at hl 2 rfl) ?_
      refine lv_icmp_ne (tgt := 27) hx hb dX11_surely_18 (by decide) (fun c66685 => ?_) (fun c66685 => ?_)
      · have w66686 := cv_ne (rfl : p1.toInt = p1.toInt) (rfl : p2.toInt = p2.toInt) c66685
        refine lv_aload_n hx hb dX11_surely_27 rfl (lv_at hl 0 rfl) ?_
        refine t_get (C := RX11) (T := TX11) (N := 16) X hT m0 g0 rfl rfl 11 (by decide) qw_41 inlX11 rfl dX11_surely_28 (fun v66687 hv66687 ov66687 => ?_)
        obtain ⟨b66688, rfl, mb66688, gb66688⟩ := okV_r ov66687
        have gb66688 : tag b66688 = 22 := tg_of gb66688
        refine lv_aload_n hx hb dX11_surely_31 rfl (lv_at hl 0 rfl) ?_
        refine t_get (C := RX11) (T := TX11) (N := 16) X hT m0 g0 rfl rfl 3 (by decide) qw_18 inlX11 rfl dX11_surely_32 (fun v66689 hv66689 ov66689 => ?_)
        obtain ⟨b66690, rfl, mb66690, gb66690⟩ := okV_r ov66689
        have gb66690 : tag b66690 = 18 := tg_of gb66690
        refine lv_aload_n hx hb dX11_surely_35 rfl (lv_at hl 0 rfl) ?_
        refine t_get (C := RX11) (T := TX11) (N := 16) X hT m0 g0 rfl rfl 5 (by decide) qw_23 inlX11 rfl dX11_surely_36 (fun v66691 hv66691 ov66691 => ?_)
        obtain ⟨b66692, rfl, mb66692, gb66692⟩ := okV_r ov66691
        have gb66692 : tag b66692 = 19 := tg_of gb66692
        refine t_get (C := RX7) (T := TX7) (N := 7) X hT mb66692 gb66692 rfl rfl 0 (by decide) qw_1225 inlX7 rfl dX11_surely_39 (fun v66693 hv66693 ov66693 => ?_)
        obtain ⟨z66694, rfl, rz66694⟩ := okV_i ov66693
        refine t_cVv (n := 2) (C := RX9) (T := TX9) (N := 6) (As := [.ref b66690, .int z66694]) (rest := []) X hT (kt154_X9_lookAtAll l G tag L F hT.2.2.2 b66688 b66690 z66694 mb66688 gb66688 mb66690 gb66690) mb66688 gb66688 rfl rfl qw_1333 qw_1334 qw_1335 qw_40 qw_1336 ⟨rfl, by decide +kernel, by decide +kernel, by decide +kernel⟩ ⟨Nat.le_of_ble_eq_true rfl, Nat.le_of_ble_eq_true rfl⟩ hl rfl rfl (Nat.le_of_ble_eq_true rfl) dX11_surely_42 ⟨Nat.le_of_ble_eq_true rfl, Nat.le_of_ble_eq_true rfl⟩ (fun F H locs hT hz66695 => ?_)
        have yz66695 := hz66695
        have hv66687 := (yz66695 _ 11 (Or.inr (by decide))).trans hv66687
        have hv66689 := (yz66695 _ 3 (Or.inr (by decide))).trans hv66689
        have hv66691 := (yz66695 _ 5 (Or.inr (by decide))).trans hv66691
        have hv66693 := (yz66695 _ 0 (Or.inr (by decide))).trans hv66693
        have hfr : ∀ b j : Nat, (tag b ≠ 22 ∨ j ≠ 2) → (tag b ≠ 26 ∨ j ≠ 13) → fld F b j = fld Fo b j := fun b j n22_2 n26_13 => (yz66695 b j n22_2).trans (hfr b j n22_2 n26_13)
        refine lv_aload_n hx hb dX11_surely_45 rfl (lv_at hl 0 rfl) ?_
        refine t_get (C := RX11) (T := TX11) (N := 16) X hT m0 g0 rfl rfl 11 (by decide) qw_41 inlX11 rfl dX11_surely_46 (fun v66696 hv66696 ov66696 => ?_)
        obtain rfl : v66696 = .ref b66688 := hv66696.symm.trans hv66687
        refine t_get (C := RX9) (T := TX9) (N := 6) X hT mb66688 gb66688 rfl rfl 5 (by decide) qw_1418 inlX9 rfl dX11_surely_49 (fun v66697 hv66697 ov66697 => ?_)
        obtain ⟨b66698, rfl, mb66698, gb66698⟩ := okV_r ov66697
        have gb66698 : tag b66698 = 7 := tg_of gb66698
        refine lv_iload_n hx hb dX11_surely_52 rfl (lv_at hl 2 rfl) ?_
        refine t_ild X hT mb66698 gb66698 rfl (by omega) dX11_surely_53 (fun z66699 vz66699 rz66699 => ?_)
        have rz66699 : (-2147483648) ≤ z66699.toInt ∧ z66699.toInt ≤ 2147483647 := rz66699
        refine lv_iload_n hx hb dX11_surely_54 rfl (lv_at hl 1 rfl) ?_
        refine lv_ishr hx hb dX11_surely_55 ?_
        refine lv_topi (fun z66700 ez66700 => ?_)
        have rz66700 := rg_all z66700
        refine lv_iconst (v := 1) hx hb dX11_surely_56 (by decide) ?_
        refine lv_iand hx hb dX11_surely_57 ?_
        refine lv_topi (fun z66701 ez66701 => ?_)
        have rz66701 : 0 ≤ z66701.toInt ∧ z66701.toInt ≤ 1 := ar_and ez66701 1 (by decide) (by decide)
        refine lv_iconst (v := 1) hx hb dX11_surely_58 (by decide) ?_
        refine lv_icmp_ne (tgt := 66) hx hb dX11_surely_59 (by decide) (fun c66702 => ?_) (fun c66702 => ?_)
        · have w66703 := cv_ne (rfl : z66701.toInt = z66701.toInt) (by decide : (1 : Int32).toInt = 1) c66702
          refine lv_iconst (v := 0) hx hb dX11_surely_66 (by decide) ?_
          exact K67 0 _ _ _ _ (by decide) (by omega) (by omega) hT hfr  (lv_sub hl [0, 1, 2] rfl)
        · have w66704 := cv_eq (rfl : z66701.toInt = z66701.toInt) (by decide : (1 : Int32).toInt = 1) c66702
          refine lv_iconst (v := 1) hx hb dX11_surely_62 (by decide) ?_
          refine lv_goto (tgt := 67) hx hb dX11_surely_63 (by decide) ?_
          exact K67 1 _ _ _ _ (by decide) (by omega) (by omega) hT hfr  (lv_sub hl [0, 1, 2] rfl)
      · have w66705 := cv_eq (rfl : p1.toInt = p1.toInt) (rfl : p2.toInt = p2.toInt) c66685
        exact K21  _ _ _ _  hT hfr  (lv_sub hl [0, 1, 2] rfl)
set_option maxHeartbeats 4000000 in
set_option maxRecDepth 100000 in
theorem kt183_X7_inmost (l : Launch) (G : KG) (tag : Nat → Nat) (L : List Nat) (F : Nat → va_E) (ho : okT G ttC tag L F) (p0 : Nat) (p1 : Int32) (m0 : p0 ∈ L) (g0 : tag p0 = 19) (h1 : 0 ≤ p1.toInt ∧ p1.toInt ≤ 3) : TMi l yX7_inmost cX7_inmost 3 (some .int) { frames := 2, cells := 0, slots := 0, locals := 46 } G ttC tag L F [.ref p0, .int p1] (fun r F1 => F1 = F ∧ (0 ≤ r.toInt ∧ r.toInt ≤ 6)) := by
  refine t_bodyi (y := yX7_inmost) (cd := cX7_inmost) (mL := 3) (rt := (some .int)) (rm := { frames := 2, cells := 0, slots := 0, locals := 46 }) (av := [.ref p0, .int p1]) (by decide) (Nat.le_of_ble_eq_true rfl) ho ?_
  intro p e s m args below meth c ls A Q hQ X hT hl
  have hx := X.1.1
  have hb := X.1.2.1
  have hl : lv_has ls 3 [(0, .ref p0), (1, .int p1)] := hl
  have K2 : ∀ (n : Nat) (z66916 : Int32) (H : Heap) (locs : List Loc) (ls : Array Slot), (7 - z66916.toInt < (n : Int)) → (1 ≤ z66916.toInt ∧ z66916.toInt ≤ 7) → TH G ttC A s tag L F H locs → lv_has ls 3 [(0, .ref p0), (1, .int p1), (2, .int z66916)] → W p l e { frames := 2, cells := 0, slots := 0, locals := 46 } s m args below meth c H locs 0 0 Q (F0 m 2 ls []) := by
    intro n
    induction n with
    | zero =>
      intro z66916 H locs ls hn rz66916 hT hl
      exfalso
      omega
    | succ n ih2 =>
      intro z66916 H locs ls hn rz66916 hT hl
      refine lv_iload_n hx hb dX7_inmost_2 rfl (lv_at hl 2 rfl) ?_
      refine lv_aload_n hx hb dX7_inmost_3 rfl (lv_at hl 0 rfl) ?_
      refine t_get (C := RX7) (T := TX7) (N := 7) X hT m0 g0 rfl rfl 2 (by decide) qw_62 inlX7 rfl dX7_inmost_4 (fun v66917 hv66917 ov66917 => ?_)
      obtain ⟨b66918, rfl, mb66918, gb66918⟩ := okV_r ov66917
      have gb66918 : tag b66918 = 8 := tg_of gb66918
      refine lv_iload_n hx hb dX7_inmost_7 rfl (lv_at hl 1 rfl) ?_
      refine t_ild X hT mb66918 gb66918 rfl (by omega) dX7_inmost_8 (fun z66919 vz66919 rz66919 => ?_)
      have rz66919 : 0 ≤ z66919.toInt ∧ z66919.toInt ≤ 6 := rz66919
      refine lv_icmp_gt (tgt := 29) hx hb dX7_inmost_9 (by decide) (fun c66920 => ?_) (fun c66920 => ?_)
      · have w66921 := cv_lt (rfl : z66919.toInt = z66919.toInt) (rfl : z66916.toInt = z66916.toInt) c66920
        refine lv_iconst (v := 0) hx hb dX7_inmost_29 (by decide) ?_
        exact t_iret hQ X hT (⟨rfl, (by decide)⟩) (Nat.le_of_ble_eq_true rfl) (Nat.le_of_ble_eq_true rfl) dX7_inmost_30
      · have w66922 := cv_nlt (rfl : z66919.toInt = z66919.toInt) (rfl : z66916.toInt = z66916.toInt) c66920
        refine lv_aload_n hx hb dX7_inmost_12 rfl (lv_at hl 0 rfl) ?_
        refine lv_iload_n hx hb dX7_inmost_13 rfl (lv_at hl 1 rfl) ?_
        refine lv_iload_n hx hb dX7_inmost_14 rfl (lv_at hl 2 rfl) ?_
        refine t_cVi (n := 2) (C := RX7) (T := TX7) (N := 7) (As := [.int p1, .int z66916]) (rest := []) X hT (kt21_X7_stands l G tag L F hT.2.2.2 p0 p1 z66916 m0 g0) m0 g0 rfl rfl qw_987 qw_853 qw_854 qw_22 qw_855 ⟨rfl, by decide +kernel, by decide +kernel, by decide +kernel⟩ ⟨Nat.le_of_ble_eq_true rfl, Nat.le_of_ble_eq_true rfl⟩ hl rfl rfl (Nat.le_of_ble_eq_true rfl) dX7_inmost_15 ⟨Nat.le_of_ble_eq_true rfl, Nat.le_of_ble_eq_true rfl⟩ (fun z66923 F9 H locs hT hz66923 => ?_)
        obtain ⟨fz66923, hz66923⟩ := hz66923
        rw [fz66923] at hT
        refine lv_if_eq (tgt := 23) hx hb dX7_inmost_18 (by decide) (fun c66924 => ?_) (fun c66924 => ?_)
        · have w66925 := cv_eq (rfl : z66923.toInt = z66923.toInt) (by decide : (0 : Int32).toInt = 0) c66924
          obtain ⟨z66926, ez66926⟩ : ∃ y : Int32, y = z66916 + 1 := ⟨_, rfl⟩
          have hz66926 : z66926.toInt = z66916.toInt + 1 := ar_add ez66926 rfl (by decide : (1 : Int32).toInt = 1) (by omega) (by omega)
          refine lv_iinc (v := z66926) (lv' := [(2, .int z66926), (0, .ref p0), (1, .int p1)]) hx hb dX7_inmost_23 hl (k := 2) rfl (by rw [ez66926]; rfl) (by decide) rfl (fun ls hl => ?_)
          refine lv_goto (tgt := 2) hx hb dX7_inmost_26 (by decide) ?_
          exact ih2 z66926 _ _ _ (by omega) (by omega) hT  (lv_sub hl [1, 2, 0] rfl)
        · have w66927 := cv_ne (rfl : z66923.toInt = z66923.toInt) (by decide : (0 : Int32).toInt = 0) c66924
          refine lv_iload_n hx hb dX7_inmost_21 rfl (lv_at hl 2 rfl) ?_
          exact t_iret hQ X hT (⟨rfl, (by omega)⟩) (Nat.le_of_ble_eq_true rfl) (Nat.le_of_ble_eq_true rfl) dX7_inmost_22
  refine lv_iconst (v := 1) hx hb dX7_inmost_0 (by decide) ?_
  refine lv_istore_n (lv' := [(2, .int 1), (0, .ref p0), (1, .int p1)]) hx hb dX7_inmost_1 rfl hl (by decide) rfl (fun ls hl => ?_)
  have kk66928 : (1 : Int32).toInt = 1 := by decide
  exact K2 7 1 _ _ _ (by omega) (by decide) hT  (lv_sub hl [1, 2, 0] rfl)
set_option maxHeartbeats 4000000 in
set_option maxRecDepth 100000 in
theorem kt184_X11_goldIn (l : Launch) (G : KG) (tag : Nat → Nat) (L : List Nat) (F : Nat → va_E) (ho : okT G ttC tag L F) (p0 : Nat) (p1 : Int32) (p2 : Int32) (m0 : p0 ∈ L) (g0 : tag p0 = 26) : TMi l yX11_goldIn cX11_goldIn 3 (some .int) { frames := 1, cells := 0, slots := 0, locals := 24 } G ttC tag L F [.ref p0, .int p1, .int p2] (fun r F1 => F1 = F ∧ ((-2147483648) ≤ r.toInt ∧ r.toInt ≤ 2147483647)) := by
  refine t_bodyi (y := yX11_goldIn) (cd := cX11_goldIn) (mL := 3) (rt := (some .int)) (rm := { frames := 1, cells := 0, slots := 0, locals := 24 }) (av := [.ref p0, .int p1, .int p2]) (by decide) (Nat.le_of_ble_eq_true rfl) ho ?_
  intro p e s m args below meth c ls A Q hQ X hT hl
  have hx := X.1.1
  have hb := X.1.2.1
  have hl : lv_has ls 3 [(0, .ref p0), (1, .int p1), (2, .int p2)] := hl
  have rp1 := rg_all p1
  have rp2 := rg_all p2
  refine lv_aload_n hx hb dX11_goldIn_0 rfl (lv_at hl 0 rfl) ?_
  refine t_get (C := RX11) (T := TX11) (N := 16) X hT m0 g0 rfl rfl 3 (by decide) qw_18 inlX11 rfl dX11_goldIn_1 (fun v67038 hv67038 ov67038 => ?_)
  obtain ⟨b67039, rfl, mb67039, gb67039⟩ := okV_r ov67038
  have gb67039 : tag b67039 = 18 := tg_of gb67039
  refine lv_aload_n hx hb dX11_goldIn_4 rfl (lv_at hl 0 rfl) ?_
  refine t_get (C := RX11) (T := TX11) (N := 16) X hT m0 g0 rfl rfl 5 (by decide) qw_23 inlX11 rfl dX11_goldIn_5 (fun v67040 hv67040 ov67040 => ?_)
  obtain ⟨b67041, rfl, mb67041, gb67041⟩ := okV_r ov67040
  have gb67041 : tag b67041 = 19 := tg_of gb67041
  refine lv_iload_n hx hb dX11_goldIn_8 rfl (lv_at hl 1 rfl) ?_
  refine lv_iload_n hx hb dX11_goldIn_9 rfl (lv_at hl 2 rfl) ?_
  refine lv_iconst (v := 0) hx hb dX11_goldIn_10 (by decide) ?_
  refine t_cVi (n := 3) (C := RX7) (T := TX7) (N := 7) (As := [.int p1, .int p2, .int 0]) (rest := [.ref b67039]) X hT (kt19_X7_partOf l G tag L F hT.2.2.2 b67041 p1 p2 0 mb67041 gb67041) mb67041 gb67041 rfl rfl qw_831 qw_778 qw_779 qw_22 qw_780 ⟨rfl, by decide +kernel, by decide +kernel, by decide +kernel⟩ ⟨Nat.le_of_ble_eq_true rfl, Nat.le_of_ble_eq_true rfl⟩ hl rfl rfl (Nat.le_of_ble_eq_true rfl) dX11_goldIn_11 ⟨Nat.le_of_ble_eq_true rfl, Nat.le_of_ble_eq_true rfl⟩ (fun z67042 F9 H locs hT hz67042 => ?_)
  obtain ⟨fz67042, hz67042⟩ := hz67042
  rw [fz67042] at hT
  refine lv_iconst (v := 1) hx hb dX11_goldIn_14 (by decide) ?_
  refine t_cVi (n := 2) (C := RX1) (T := TX1) (N := 20) (As := [.int z67042, .int 1]) (rest := []) X hT (kt48_X1_stonePart l G tag L F hT.2.2.2 b67039 z67042 1 mb67039 gb67039) mb67039 gb67039 rfl rfl qw_857 qw_858 qw_859 qw_17 qw_860 ⟨rfl, by decide +kernel, by decide +kernel, by decide +kernel⟩ ⟨Nat.le_of_ble_eq_true rfl, Nat.le_of_ble_eq_true rfl⟩ hl rfl rfl (Nat.le_of_ble_eq_true rfl) dX11_goldIn_15 ⟨Nat.le_of_ble_eq_true rfl, Nat.le_of_ble_eq_true rfl⟩ (fun z67043 F9 H locs hT hz67043 => ?_)
  obtain ⟨fz67043, hz67043⟩ := hz67043
  rw [fz67043] at hT
  refine lv_bipush (v := 8) hx hb dX11_goldIn_18 (by decide) ?_
  refine lv_imul hx hb dX11_goldIn_20 ?_
  refine lv_topi (fun z67044 ez67044 => ?_)
  have rz67044 := rg_all z67044
  refine lv_iload_n hx hb dX11_goldIn_21 rfl (lv_at hl 2 rfl) ?_
  refine lv_imul hx hb dX11_goldIn_22 ?_
  refine lv_topi (fun z67045 ez67045 => ?_)
  have rz67045 := rg_all z67045
  refine lv_iconst (v := 2) hx hb dX11_goldIn_23 (by decide) ?_
  refine lv_idiv hx hb dX11_goldIn_24 (by decide) ?_
  refine lv_topi (fun z67046 ez67046 => ?_)
  have rz67046 := rg_all z67046
  exact t_iret hQ X hT (⟨rfl, rg_all _⟩) (Nat.le_of_ble_eq_true rfl) (Nat.le_of_ble_eq_true rfl) dX11_goldIn_25
set_option maxHeartbeats 4000000 in
set_option maxRecDepth 100000 in
theorem kt185_X11_take (l : Launch) (G : KG) (tag : Nat → Nat) (L : List Nat) (Fo : Nat → va_E) (ho : okT G ttC tag L Fo) (p0 : Nat) (p1 : Int32) (m0 : p0 ∈ L) (g0 : tag p0 = 26) : TMi l yX11_take cX11_take 4 (some .int) { frames := 3, cells := 0, slots := 0, locals := 68 } G ttC tag L Fo [.ref p0, .int p1] (fun r F1 => ((-2147483648) ≤ r.toInt ∧ r.toInt ≤ 2147483647) ∧ (∀ b j : Nat, (tag b ≠ 19 ∨ j ≠ 0) → (tag b ≠ 19 ∨ j ≠ 1) → (tag b ≠ 23 ∨ j ≠ 2) → (tag b ≠ 23 ∨ j ≠ 3) → (tag b ≠ 26 ∨ j ≠ 13) → fld F1 b j = fld Fo b j)) := by
  refine t_bodyi (y := yX11_take) (cd := cX11_take) (mL := 4) (rt := (some .int)) (rm := { frames := 3, cells := 0, slots := 0, locals := 68 }) (av := [.ref p0, .int p1]) (by decide) (Nat.le_of_ble_eq_true rfl) ho ?_
  intro p e s m args below meth c ls A Q hQ X hT hl
  have hx := X.1.1
  have hb := X.1.2.1
  have hl : lv_has ls 4 [(0, .ref p0), (1, .int p1)] := hl
  have rp1 := rg_all p1
  obtain ⟨F, hFo⟩ : ∃ F : Nat → va_E, F = Fo := ⟨_, rfl⟩
  rw [← hFo] at hT
  have hfr : ∀ b j : Nat, (tag b ≠ 19 ∨ j ≠ 0) → (tag b ≠ 19 ∨ j ≠ 1) → (tag b ≠ 23 ∨ j ≠ 2) → (tag b ≠ 23 ∨ j ≠ 3) → (tag b ≠ 26 ∨ j ≠ 13) → fld F b j = fld Fo b j := by
    rw [hFo]
    intros
    rfl
  refine lv_aload_n hx hb dX11_take_0 rfl (lv_at hl 0 rfl) ?_
  refine lv_iload_n hx hb dX11_take_1 rfl (lv_at hl 1 rfl) ?_
  refine t_cVi (n := 1) (C := RX11) (T := TX11) (N := 16) (As := [.int p1]) (rest := []) X hT (kt93_X11_isHouse l G tag L F hT.2.2.2 p0 p1 m0 g0) m0 g0 rfl rfl qw_770 qw_771 qw_772 qw_2 qw_773 ⟨rfl, by decide +kernel, by decide +kernel, by decide +kernel⟩ ⟨Nat.le_of_ble_eq_true rfl, Nat.le_of_ble_eq_true rfl⟩ hl rfl rfl (Nat.le_of_ble_eq_true rfl) dX11_take_2 ⟨Nat.le_of_ble_eq_true rfl, Nat.le_of_ble_eq_true rfl⟩ (fun z67438 F9 H locs hT hz67438 => ?_)
  obtain ⟨fz67438, hz67438⟩ := hz67438
  rw [fz67438] at hT
  obtain ⟨hz67438, iz67438⟩ := hz67438
  refine lv_if_ne (tgt := 14) hx hb dX11_take_5 (by decide) (fun c67439 => ?_) (fun c67439 => ?_)
  · have w67440 := cv_ne (rfl : z67438.toInt = z67438.toInt) (by decide : (0 : Int32).toInt = 0) c67439
    have w67441 := (fun h => (iz67438 h)) (by omega)
    refine lv_aload_n hx hb dX11_take_14 rfl (lv_at hl 0 rfl) ?_
    refine t_get (C := RX11) (T := TX11) (N := 16) X hT m0 g0 rfl rfl 5 (by decide) qw_23 inlX11 rfl dX11_take_15 (fun v67442 hv67442 ov67442 => ?_)
    obtain ⟨b67443, rfl, mb67443, gb67443⟩ := okV_r ov67442
    have gb67443 : tag b67443 = 19 := tg_of gb67443
    refine lv_iload_n hx hb dX11_take_18 rfl (lv_at hl 1 rfl) ?_
    refine t_cVi (n := 1) (C := RX7) (T := TX7) (N := 7) (As := [.int p1]) (rest := []) X hT (kt183_X7_inmost l G tag L F hT.2.2.2 b67443 p1 mb67443 gb67443 (by omega)) mb67443 gb67443 rfl rfl qw_1292 qw_1293 qw_1294 qw_22 qw_1295 ⟨rfl, by decide +kernel, by decide +kernel, by decide +kernel⟩ ⟨Nat.le_of_ble_eq_true rfl, Nat.le_of_ble_eq_true rfl⟩ hl rfl rfl (Nat.le_of_ble_eq_true rfl) dX11_take_19 ⟨Nat.le_of_ble_eq_true rfl, Nat.le_of_ble_eq_true rfl⟩ (fun z67444 F9 H locs hT hz67444 => ?_)
    obtain ⟨fz67444, hz67444⟩ := hz67444
    rw [fz67444] at hT
    refine lv_istore_n (lv' := [(2, .int z67444), (0, .ref p0), (1, .int p1)]) hx hb dX11_take_22 rfl hl (by decide) rfl (fun ls hl => ?_)
    refine lv_iload_n hx hb dX11_take_23 rfl (lv_at hl 0 rfl) ?_
    refine lv_if_ne (tgt := 34) hx hb dX11_take_24 (by decide) (fun c67445 => ?_) (fun c67445 => ?_)
    · have w67446 := cv_ne (rfl : z67444.toInt = z67444.toInt) (by decide : (0 : Int32).toInt = 0) c67445
      refine lv_aload_n hx hb dX11_take_34 rfl (lv_at hl 1 rfl) ?_
      refine lv_iload_n hx hb dX11_take_35 rfl (lv_at hl 2 rfl) ?_
      refine lv_iload_n hx hb dX11_take_36 rfl (lv_at hl 0 rfl) ?_
      refine t_cVi (n := 2) (C := RX11) (T := TX11) (N := 16) (As := [.int p1, .int z67444]) (rest := []) X hT (kt110_X11_isLivedIn l G tag L F hT.2.2.2 p0 p1 z67444 m0 g0) m0 g0 rfl rfl qw_1316 qw_1317 qw_1318 qw_2 qw_1319 ⟨rfl, by decide +kernel, by decide +kernel, by decide +kernel⟩ ⟨Nat.le_of_ble_eq_true rfl, Nat.le_of_ble_eq_true rfl⟩ hl rfl rfl (Nat.le_of_ble_eq_true rfl) dX11_take_37 ⟨Nat.le_of_ble_eq_true rfl, Nat.le_of_ble_eq_true rfl⟩ (fun z67447 F9 H locs hT hz67447 => ?_)
      obtain ⟨fz67447, hz67447⟩ := hz67447
      rw [fz67447] at hT
      refine lv_if_eq (tgt := 49) hx hb dX11_take_40 (by decide) (fun c67448 => ?_) (fun c67448 => ?_)
      · have w67449 := cv_eq (rfl : z67447.toInt = z67447.toInt) (by decide : (0 : Int32).toInt = 0) c67448
        refine lv_aload_n hx hb dX11_take_49 rfl (lv_at hl 1 rfl) ?_
        refine t_get (C := RX11) (T := TX11) (N := 16) X hT m0 g0 rfl rfl 12 (by decide) qw_45 inlX11 rfl dX11_take_50 (fun v67450 hv67450 ov67450 => ?_)
        obtain ⟨b67451, rfl, mb67451, gb67451⟩ := okV_r ov67450
        have gb67451 : tag b67451 = 23 := tg_of gb67451
        refine lv_aload_n hx hb dX11_take_53 rfl (lv_at hl 1 rfl) ?_
        refine t_get (C := RX11) (T := TX11) (N := 16) X hT m0 g0 rfl rfl 5 (by decide) qw_23 inlX11 rfl dX11_take_54 (fun v67452 hv67452 ov67452 => ?_)
        obtain rfl : v67452 = .ref b67443 := hv67452.symm.trans hv67442
        refine t_cVv (n := 1) (C := RX2) (T := TX2) (N := 5) (As := [.ref b67443]) (rest := []) X hT (kt100_X2_keep l G tag L F hT.2.2.2 b67451 b67443 mb67451 gb67451 mb67443 gb67443) mb67451 gb67451 rfl rfl qw_1427 qw_1428 qw_1429 qw_44 qw_1430 ⟨rfl, by decide +kernel, by decide +kernel, by decide +kernel⟩ ⟨Nat.le_of_ble_eq_true rfl, Nat.le_of_ble_eq_true rfl⟩ hl rfl rfl (Nat.le_of_ble_eq_true rfl) dX11_take_57 ⟨Nat.le_of_ble_eq_true rfl, Nat.le_of_ble_eq_true rfl⟩ (fun F H locs hT hz67453 => ?_)
        have yz67453 := hz67453
        have hv67442 := (yz67453 _ 5 (Or.inr (by decide)) (Or.inr (by decide)) (Or.inr (by decide)) (Or.inr (by decide))).trans hv67442
        have hv67450 := (yz67453 _ 12 (Or.inr (by decide)) (Or.inr (by decide)) (Or.inr (by decide)) (Or.inr (by decide))).trans hv67450
        have hfr : ∀ b j : Nat, (tag b ≠ 19 ∨ j ≠ 0) → (tag b ≠ 19 ∨ j ≠ 1) → (tag b ≠ 23 ∨ j ≠ 2) → (tag b ≠ 23 ∨ j ≠ 3) → (tag b ≠ 26 ∨ j ≠ 13) → fld F b j = fld Fo b j := fun b j n19_0 n19_1 n23_2 n23_3 n26_13 => (yz67453 b j n19_0 n19_1 n23_2 n23_3).trans (hfr b j n19_0 n19_1 n23_2 n23_3 n26_13)
        refine lv_aload_n hx hb dX11_take_60 rfl (lv_at hl 1 rfl) ?_
        refine lv_iload_n hx hb dX11_take_61 rfl (lv_at hl 2 rfl) ?_
        refine lv_iload_n hx hb dX11_take_62 rfl (lv_at hl 0 rfl) ?_
        refine t_cVi (n := 2) (C := RX11) (T := TX11) (N := 16) (As := [.int p1, .int z67444]) (rest := []) X hT (kt184_X11_goldIn l G tag L F hT.2.2.2 p0 p1 z67444 m0 g0) m0 g0 rfl rfl qw_1296 qw_1297 qw_1298 qw_2 qw_1299 ⟨rfl, by decide +kernel, by decide +kernel, by decide +kernel⟩ ⟨Nat.le_of_ble_eq_true rfl, Nat.le_of_ble_eq_true rfl⟩ hl rfl rfl (Nat.le_of_ble_eq_true rfl) dX11_take_63 ⟨Nat.le_of_ble_eq_true rfl, Nat.le_of_ble_eq_true rfl⟩ (fun z67454 F9 H locs hT hz67454 => ?_)
        obtain ⟨fz67454, hz67454⟩ := hz67454
        rw [fz67454] at hT
        refine lv_istore_n (lv' := [(3, .int z67454), (2, .int z67444), (0, .ref p0), (1, .int p1)]) hx hb dX11_take_66 rfl hl (by decide) rfl (fun ls hl => ?_)
        refine lv_aload_n hx hb dX11_take_67 rfl (lv_at hl 2 rfl) ?_
        refine t_get (C := RX11) (T := TX11) (N := 16) X hT m0 g0 rfl rfl 5 (by decide) qw_23 inlX11 rfl dX11_take_68 (fun v67455 hv67455 ov67455 => ?_)
        obtain rfl : v67455 = .ref b67443 := hv67455.symm.trans hv67442
        refine t_get (C := RX7) (T := TX7) (N := 7) X hT mb67443 gb67443 rfl rfl 4 (by decide) qw_768 inlX7 rfl dX11_take_71 (fun v67456 hv67456 ov67456 => ?_)
        obtain ⟨b67457, rfl, mb67457, gb67457⟩ := okV_r ov67456
        have gb67457 : tag b67457 = 5 := tg_of gb67457
        refine lv_iload_n hx hb dX11_take_74 rfl (lv_at hl 3 rfl) ?_
        refine lv_sipush (v := 999) hx hb dX11_take_75 (by decide) ?_
        refine lv_aload_n hx hb dX11_take_78 rfl (lv_at hl 2 rfl) ?_
        refine t_get (C := RX11) (T := TX11) (N := 16) X hT m0 g0 rfl rfl 5 (by decide) qw_23 inlX11 rfl dX11_take_79 (fun v67458 hv67458 ov67458 => ?_)
        obtain rfl : v67458 = .ref b67443 := hv67458.symm.trans hv67442
        refine t_get (C := RX7) (T := TX7) (N := 7) X hT mb67443 gb67443 rfl rfl 4 (by decide) qw_768 inlX7 rfl dX11_take_82 (fun v67459 hv67459 ov67459 => ?_)
        obtain rfl : v67459 = .ref b67457 := hv67459.symm.trans hv67456
        refine lv_iload_n hx hb dX11_take_85 rfl (lv_at hl 3 rfl) ?_
        refine t_ild X hT mb67457 gb67457 rfl (by omega) dX11_take_86 (fun z67460 vz67460 rz67460 => ?_)
        have rz67460 : (-2147483648) ≤ z67460.toInt ∧ z67460.toInt ≤ 2147483647 := rz67460
        refine lv_iload_n hx hb dX11_take_87 rfl (lv_at hl 0 rfl) ?_
        refine lv_iadd hx hb dX11_take_88 ?_
        refine lv_topi (fun z67461 ez67461 => ?_)
        have rz67461 := rg_all z67461
        refine t_mmin X hl qw_1480 qw_1018 qw_850 qw_1019 (Nat.le_of_ble_eq_true rfl) (Nat.le_of_ble_eq_true rfl) (Nat.le_of_ble_eq_true rfl) (Nat.le_of_ble_eq_true rfl) dX11_take_89 (fun z67462 ez67462 => ?_)
        have hz67462 := mmin_e ez67462 (by decide : (999 : Int32).toInt = 999) (rfl : z67461.toInt = z67461.toInt)
        refine t_ist X hT mb67457 gb67457 rfl (by omega) (show (-2147483648) ≤ (z67462 : Int32).toInt ∧ (z67462 : Int32).toInt ≤ 2147483647 from (by omega)) dX11_take_92 (fun F H locs hT v67463 h1v67463 h2v67463 => ?_)
        have hv67442 := (h2v67463 _ _).trans hv67442
        have hv67450 := (h2v67463 _ _).trans hv67450
        have hv67456 := (h2v67463 _ _).trans hv67456
        have hfr : ∀ b j : Nat, (tag b ≠ 19 ∨ j ≠ 0) → (tag b ≠ 19 ∨ j ≠ 1) → (tag b ≠ 23 ∨ j ≠ 2) → (tag b ≠ 23 ∨ j ≠ 3) → (tag b ≠ 26 ∨ j ≠ 13) → fld F b j = fld Fo b j := fun b j n19_0 n19_1 n23_2 n23_3 n26_13 => (h2v67463 b j).trans (hfr b j n19_0 n19_1 n23_2 n23_3 n26_13)
        refine lv_aload_n hx hb dX11_take_93 rfl (lv_at hl 2 rfl) ?_
        refine t_get (C := RX11) (T := TX11) (N := 16) X hT m0 g0 rfl rfl 5 (by decide) qw_23 inlX11 rfl dX11_take_94 (fun v67464 hv67464 ov67464 => ?_)
        obtain rfl : v67464 = .ref b67443 := hv67464.symm.trans hv67442
        refine lv_iload_n hx hb dX11_take_97 rfl (lv_at hl 3 rfl) ?_
        refine lv_iload_n hx hb dX11_take_98 rfl (lv_at hl 1 rfl) ?_
        refine lv_iconst (v := 5) hx hb dX11_take_99 (by decide) ?_
        refine lv_iconst (v := 1) hx hb dX11_take_100 (by decide) ?_
        refine t_cVv (n := 4) (C := RX7) (T := TX7) (N := 7) (As := [.int p1, .int z67444, .int 5, .int 1]) (rest := []) X hT (kt17_X7_setPart l G tag L F hT.2.2.2 b67443 p1 z67444 5 1 mb67443 gb67443) mb67443 gb67443 rfl rfl qw_1459 qw_423 qw_424 qw_22 qw_425 ⟨rfl, by decide +kernel, by decide +kernel, by decide +kernel⟩ ⟨Nat.le_of_ble_eq_true rfl, Nat.le_of_ble_eq_true rfl⟩ hl rfl rfl (Nat.le_of_ble_eq_true rfl) dX11_take_101 ⟨Nat.le_of_ble_eq_true rfl, Nat.le_of_ble_eq_true rfl⟩ (fun F H locs hT hz67465 => ?_)
        have yz67465 := hz67465
        have hv67442 := (yz67465 _ 5 ).trans hv67442
        have hv67450 := (yz67465 _ 12 ).trans hv67450
        have hv67456 := (yz67465 _ 4 ).trans hv67456
        have hfr : ∀ b j : Nat, (tag b ≠ 19 ∨ j ≠ 0) → (tag b ≠ 19 ∨ j ≠ 1) → (tag b ≠ 23 ∨ j ≠ 2) → (tag b ≠ 23 ∨ j ≠ 3) → (tag b ≠ 26 ∨ j ≠ 13) → fld F b j = fld Fo b j := fun b j n19_0 n19_1 n23_2 n23_3 n26_13 => (yz67465 b j ).trans (hfr b j n19_0 n19_1 n23_2 n23_3 n26_13)
        refine lv_aload_n hx hb dX11_take_104 rfl (lv_at hl 2 rfl) ?_
        refine t_get (C := RX11) (T := TX11) (N := 16) X hT m0 g0 rfl rfl 5 (by decide) qw_23 inlX11 rfl dX11_take_105 (fun v67466 hv67466 ov67466 => ?_)
        obtain rfl : v67466 = .ref b67443 := hv67466.symm.trans hv67442
        refine lv_iload_n hx hb dX11_take_108 rfl (lv_at hl 3 rfl) ?_
        refine lv_iload_n hx hb dX11_take_109 rfl (lv_at hl 1 rfl) ?_
        refine lv_bipush (v := 6) hx hb dX11_take_110 (by decide) ?_
        refine lv_iconst (v := 0) hx hb dX11_take_112 (by decide) ?_
        refine t_cVv (n := 4) (C := RX7) (T := TX7) (N := 7) (As := [.int p1, .int z67444, .int 6, .int 0]) (rest := []) X hT (kt17_X7_setPart l G tag L F hT.2.2.2 b67443 p1 z67444 6 0 mb67443 gb67443) mb67443 gb67443 rfl rfl qw_1459 qw_423 qw_424 qw_22 qw_425 ⟨rfl, by decide +kernel, by decide +kernel, by decide +kernel⟩ ⟨Nat.le_of_ble_eq_true rfl, Nat.le_of_ble_eq_true rfl⟩ hl rfl rfl (Nat.le_of_ble_eq_true rfl) dX11_take_113 ⟨Nat.le_of_ble_eq_true rfl, Nat.le_of_ble_eq_true rfl⟩ (fun F H locs hT hz67467 => ?_)
        have yz67467 := hz67467
        have hv67442 := (yz67467 _ 5 ).trans hv67442
        have hv67450 := (yz67467 _ 12 ).trans hv67450
        have hv67456 := (yz67467 _ 4 ).trans hv67456
        have hfr : ∀ b j : Nat, (tag b ≠ 19 ∨ j ≠ 0) → (tag b ≠ 19 ∨ j ≠ 1) → (tag b ≠ 23 ∨ j ≠ 2) → (tag b ≠ 23 ∨ j ≠ 3) → (tag b ≠ 26 ∨ j ≠ 13) → fld F b j = fld Fo b j := fun b j n19_0 n19_1 n23_2 n23_3 n26_13 => (yz67467 b j ).trans (hfr b j n19_0 n19_1 n23_2 n23_3 n26_13)
        refine lv_aload_n hx hb dX11_take_116 rfl (lv_at hl 2 rfl) ?_
        refine lv_iload_n hx hb dX11_take_117 rfl (lv_at hl 0 rfl) ?_
        refine t_cVi (n := 1) (C := RX11) (T := TX11) (N := 16) (As := [.int z67454]) (rest := []) X hT (kt96_X11_answer l G tag L F hT.2.2.2 p0 z67454 m0 g0) m0 g0 rfl rfl qw_463 qw_464 qw_465 qw_2 qw_466 ⟨rfl, by decide +kernel, by decide +kernel, by decide +kernel⟩ ⟨Nat.le_of_ble_eq_true rfl, Nat.le_of_ble_eq_true rfl⟩ hl rfl rfl (Nat.le_of_ble_eq_true rfl) dX11_take_118 ⟨Nat.le_of_ble_eq_true rfl, Nat.le_of_ble_eq_true rfl⟩ (fun z67468 F H locs hT hz67468 => ?_)
        obtain ⟨hz67468, yz67468⟩ := hz67468
        have hv67442 := (yz67468 _ 5 (Or.inr (by decide))).trans hv67442
        have hv67450 := (yz67468 _ 12 (Or.inr (by decide))).trans hv67450
        have hv67456 := (yz67468 _ 4 (Or.inr (by decide))).trans hv67456
        have hfr : ∀ b j : Nat, (tag b ≠ 19 ∨ j ≠ 0) → (tag b ≠ 19 ∨ j ≠ 1) → (tag b ≠ 23 ∨ j ≠ 2) → (tag b ≠ 23 ∨ j ≠ 3) → (tag b ≠ 26 ∨ j ≠ 13) → fld F b j = fld Fo b j := fun b j n19_0 n19_1 n23_2 n23_3 n26_13 => (yz67468 b j n26_13).trans (hfr b j n19_0 n19_1 n23_2 n23_3 n26_13)
        exact t_iret hQ X hT (⟨rg_all _, hfr⟩) (Nat.le_of_ble_eq_true rfl) (Nat.le_of_ble_eq_true rfl) dX11_take_121
      · have w67469 := cv_ne (rfl : z67447.toInt = z67447.toInt) (by decide : (0 : Int32).toInt = 0) c67448
        refine lv_aload_n hx hb dX11_take_43 rfl (lv_at hl 1 rfl) ?_
        refine lv_iconst (v := 5) hx hb dX11_take_44 (by decide) ?_
        refine t_cVi (n := 1) (C := RX11) (T := TX11) (N := 16) (As := [.int 5]) (rest := []) X hT (kt97_X11_refuse l G tag L F hT.2.2.2 p0 5 m0 g0) m0 g0 rfl rfl qw_152 qw_153 qw_154 qw_2 qw_155 ⟨rfl, by decide +kernel, by decide +kernel, by decide +kernel⟩ ⟨Nat.le_of_ble_eq_true rfl, Nat.le_of_ble_eq_true rfl⟩ hl rfl rfl (Nat.le_of_ble_eq_true rfl) dX11_take_45 ⟨Nat.le_of_ble_eq_true rfl, Nat.le_of_ble_eq_true rfl⟩ (fun z67470 F H locs hT hz67470 => ?_)
        obtain ⟨hz67470, yz67470⟩ := hz67470
        have hv67442 := (yz67470 _ 5 (Or.inr (by decide))).trans hv67442
        have hfr : ∀ b j : Nat, (tag b ≠ 19 ∨ j ≠ 0) → (tag b ≠ 19 ∨ j ≠ 1) → (tag b ≠ 23 ∨ j ≠ 2) → (tag b ≠ 23 ∨ j ≠ 3) → (tag b ≠ 26 ∨ j ≠ 13) → fld F b j = fld Fo b j := fun b j n19_0 n19_1 n23_2 n23_3 n26_13 => (yz67470 b j n26_13).trans (hfr b j n19_0 n19_1 n23_2 n23_3 n26_13)
        exact t_iret hQ X hT (⟨rg_all _, hfr⟩) (Nat.le_of_ble_eq_true rfl) (Nat.le_of_ble_eq_true rfl) dX11_take_48
    · have w67471 := cv_eq (rfl : z67444.toInt = z67444.toInt) (by decide : (0 : Int32).toInt = 0) c67445
      refine lv_aload_n hx hb dX11_take_27 rfl (lv_at hl 1 rfl) ?_
      refine lv_bipush (v := 6) hx hb dX11_take_28 (by decide) ?_
      refine t_cVi (n := 1) (C := RX11) (T := TX11) (N := 16) (As := [.int 6]) (rest := []) X hT (kt97_X11_refuse l G tag L F hT.2.2.2 p0 6 m0 g0) m0 g0 rfl rfl qw_152 qw_153 qw_154 qw_2 qw_155 ⟨rfl, by decide +kernel, by decide +kernel, by decide +kernel⟩ ⟨Nat.le_of_ble_eq_true rfl, Nat.le_of_ble_eq_true rfl⟩ hl rfl rfl (Nat.le_of_ble_eq_true rfl) dX11_take_30 ⟨Nat.le_of_ble_eq_true rfl, Nat.le_of_ble_eq_true rfl⟩ (fun z67472 F H locs hT hz67472 => ?_)
      obtain ⟨hz67472, yz67472⟩ := hz67472
      have hv67442 := (yz67472 _ 5 (Or.inr (by decide))).trans hv67442
      have hfr : ∀ b j : Nat, (tag b ≠ 19 ∨ j ≠ 0) → (tag b ≠ 19 ∨ j ≠ 1) → (tag b ≠ 23 ∨ j ≠ 2) → (tag b ≠ 23 ∨ j ≠ 3) → (tag b ≠ 26 ∨ j ≠ 13) → fld F b j = fld Fo b j := fun b j n19_0 n19_1 n23_2 n23_3 n26_13 => (yz67472 b j n26_13).trans (hfr b j n19_0 n19_1 n23_2 n23_3 n26_13)
      exact t_iret hQ X hT (⟨rg_all _, hfr⟩) (Nat.le_of_ble_eq_true rfl) (Nat.le_of_ble_eq_true rfl) dX11_take_33
  · have w67473 := cv_eq (rfl : z67438.toInt = z67438.toInt) (by decide : (0 : Int32).toInt = 0) c67439
    refine lv_aload_n hx hb dX11_take_8 rfl (lv_at hl 0 rfl) ?_
    refine lv_iconst (v := 1) hx hb dX11_take_9 (by decide) ?_
    refine t_cVi (n := 1) (C := RX11) (T := TX11) (N := 16) (As := [.int 1]) (rest := []) X hT (kt97_X11_refuse l G tag L F hT.2.2.2 p0 1 m0 g0) m0 g0 rfl rfl qw_152 qw_153 qw_154 qw_2 qw_155 ⟨rfl, by decide +kernel, by decide +kernel, by decide +kernel⟩ ⟨Nat.le_of_ble_eq_true rfl, Nat.le_of_ble_eq_true rfl⟩ hl rfl rfl (Nat.le_of_ble_eq_true rfl) dX11_take_10 ⟨Nat.le_of_ble_eq_true rfl, Nat.le_of_ble_eq_true rfl⟩ (fun z67474 F H locs hT hz67474 => ?_)
    obtain ⟨hz67474, yz67474⟩ := hz67474
    have hfr : ∀ b j : Nat, (tag b ≠ 19 ∨ j ≠ 0) → (tag b ≠ 19 ∨ j ≠ 1) → (tag b ≠ 23 ∨ j ≠ 2) → (tag b ≠ 23 ∨ j ≠ 3) → (tag b ≠ 26 ∨ j ≠ 13) → fld F b j = fld Fo b j := fun b j n19_0 n19_1 n23_2 n23_3 n26_13 => (yz67474 b j n26_13).trans (hfr b j n19_0 n19_1 n23_2 n23_3 n26_13)
    exact t_iret hQ X hT (⟨rg_all _, hfr⟩) (Nat.le_of_ble_eq_true rfl) (Nat.le_of_ble_eq_true rfl) dX11_take_13
set_option maxHeartbeats 4000000 in
set_option maxRecDepth 100000 in
theorem kt186_X11_takes (l : Launch) (G : KG) (tag : Nat → Nat) (L : List Nat) (Fo : Nat → va_E) (ho : okT G ttC tag L Fo) (p0 : Nat) (p1 : Int32) (m0 : p0 ∈ L) (g0 : tag p0 = 26) : TMi l yX11_takes cX11_takes 3 (some .int) { frames := 3, cells := 0, slots := 0, locals := 68 } G ttC tag L Fo [.ref p0, .int p1] (fun r F1 => ((-2147483648) ≤ r.toInt ∧ r.toInt ≤ 2147483647) ∧ (∀ b j : Nat, (tag b ≠ 26 ∨ j ≠ 13) → fld F1 b j = fld Fo b j)) := by
  refine t_bodyi (y := yX11_takes) (cd := cX11_takes) (mL := 3) (rt := (some .int)) (rm := { frames := 3, cells := 0, slots := 0, locals := 68 }) (av := [.ref p0, .int p1]) (by decide) (Nat.le_of_ble_eq_true rfl) ho ?_
  intro p e s m args below meth c ls A Q hQ X hT hl
  have hx := X.1.1
  have hb := X.1.2.1
  have hl : lv_has ls 3 [(0, .ref p0), (1, .int p1)] := hl
  have rp1 := rg_all p1
  obtain ⟨F, hFo⟩ : ∃ F : Nat → va_E, F = Fo := ⟨_, rfl⟩
  rw [← hFo] at hT
  have hfr : ∀ b j : Nat, (tag b ≠ 26 ∨ j ≠ 13) → fld F b j = fld Fo b j := by
    rw [hFo]
    intros
    rfl
  have K39 : ∀ (z67652 : Int32) (z67653 : Int32) (b67654 : Nat) (F : Nat → va_E) (H : Heap) (locs : List Loc) (ls : Array Slot), (0 ≤ z67652.toInt ∧ z67652.toInt ≤ 6) → (b67654 ∈ L) → (tag b67654 = 26) → (0 ≤ p1.toInt ∧ p1.toInt ≤ 3) → TH G ttC A s tag L F H locs → (∀ b j : Nat, (tag b ≠ 26 ∨ j ≠ 13) → fld F b j = fld Fo b j) → lv_has ls 3 [(0, .ref p0), (1, .int p1), (2, .int z67652)] → W p l e { frames := 3, cells := 0, slots := 0, locals := 68 } s m args below meth c H locs 0 0 Q (F0 m 39 ls [.int z67653, .ref b67654]) := by
    intro z67652 z67653 b67654 F H locs ls rz67652 mb67654 gb67654 r9s67651 hT hfr hl
    have rz67653 := rg_all z67653
    refine t_cVi (n := 1) (C := RX11) (T := TX11) (N := 16) (As := [.int z67653]) (rest := []) X hT (kt96_X11_answer l G tag L F hT.2.2.2 b67654 z67653 mb67654 gb67654) mb67654 gb67654 rfl rfl qw_463 qw_464 qw_465 qw_2 qw_466 ⟨rfl, by decide +kernel, by decide +kernel, by decide +kernel⟩ ⟨Nat.le_of_ble_eq_true rfl, Nat.le_of_ble_eq_true rfl⟩ hl rfl rfl (Nat.le_of_ble_eq_true rfl) dX11_takes_39 ⟨Nat.le_of_ble_eq_true rfl, Nat.le_of_ble_eq_true rfl⟩ (fun z67655 F H locs hT hz67655 => ?_)
    obtain ⟨hz67655, yz67655⟩ := hz67655
    have hfr : ∀ b j : Nat, (tag b ≠ 26 ∨ j ≠ 13) → fld F b j = fld Fo b j := fun b j n26_13 => (yz67655 b j n26_13).trans (hfr b j n26_13)
    exact t_iret hQ X hT (⟨rg_all _, hfr⟩) (Nat.le_of_ble_eq_true rfl) (Nat.le_of_ble_eq_true rfl) dX11_takes_42
  refine lv_aload_n hx hb dX11_takes_0 rfl (lv_at hl 0 rfl) ?_
  refine lv_iload_n hx hb dX11_takes_1 rfl (lv_at hl 1 rfl) ?_
  refine t_cVi (n := 1) (C := RX11) (T := TX11) (N := 16) (As := [.int p1]) (rest := []) X hT (kt93_X11_isHouse l G tag L F hT.2.2.2 p0 p1 m0 g0) m0 g0 rfl rfl qw_770 qw_771 qw_772 qw_2 qw_773 ⟨rfl, by decide +kernel, by decide +kernel, by decide +kernel⟩ ⟨Nat.le_of_ble_eq_true rfl, Nat.le_of_ble_eq_true rfl⟩ hl rfl rfl (Nat.le_of_ble_eq_true rfl) dX11_takes_2 ⟨Nat.le_of_ble_eq_true rfl, Nat.le_of_ble_eq_true rfl⟩ (fun z67656 F9 H locs hT hz67656 => ?_)
  obtain ⟨fz67656, hz67656⟩ := hz67656
  rw [fz67656] at hT
  obtain ⟨hz67656, iz67656⟩ := hz67656
  refine lv_if_ne (tgt := 14) hx hb dX11_takes_5 (by decide) (fun c67657 => ?_) (fun c67657 => ?_)
  · have w67658 := cv_ne (rfl : z67656.toInt = z67656.toInt) (by decide : (0 : Int32).toInt = 0) c67657
    have w67659 := (fun h => (iz67656 h)) (by omega)
    refine lv_aload_n hx hb dX11_takes_14 rfl (lv_at hl 0 rfl) ?_
    refine t_get (C := RX11) (T := TX11) (N := 16) X hT m0 g0 rfl rfl 5 (by decide) qw_23 inlX11 rfl dX11_takes_15 (fun v67660 hv67660 ov67660 => ?_)
    obtain ⟨b67661, rfl, mb67661, gb67661⟩ := okV_r ov67660
    have gb67661 : tag b67661 = 19 := tg_of gb67661
    refine lv_iload_n hx hb dX11_takes_18 rfl (lv_at hl 1 rfl) ?_
    refine t_cVi (n := 1) (C := RX7) (T := TX7) (N := 7) (As := [.int p1]) (rest := []) X hT (kt183_X7_inmost l G tag L F hT.2.2.2 b67661 p1 mb67661 gb67661 (by omega)) mb67661 gb67661 rfl rfl qw_1292 qw_1293 qw_1294 qw_22 qw_1295 ⟨rfl, by decide +kernel, by decide +kernel, by decide +kernel⟩ ⟨Nat.le_of_ble_eq_true rfl, Nat.le_of_ble_eq_true rfl⟩ hl rfl rfl (Nat.le_of_ble_eq_true rfl) dX11_takes_19 ⟨Nat.le_of_ble_eq_true rfl, Nat.le_of_ble_eq_true rfl⟩ (fun z67662 F9 H locs hT hz67662 => ?_)
    obtain ⟨fz67662, hz67662⟩ := hz67662
    rw [fz67662] at hT
    refine lv_istore_n (lv' := [(2, .int z67662), (0, .ref p0), (1, .int p1)]) hx hb dX11_takes_22 rfl hl (by decide) rfl (fun ls hl => ?_)
    refine lv_aload_n hx hb dX11_takes_23 rfl (lv_at hl 1 rfl) ?_
    refine lv_iload_n hx hb dX11_takes_24 rfl (lv_at hl 0 rfl) ?_
    refine lv_if_ne (tgt := 33) hx hb dX11_takes_25 (by decide) (fun c67663 => ?_) (fun c67663 => ?_)
    · have w67664 := cv_ne (rfl : z67662.toInt = z67662.toInt) (by decide : (0 : Int32).toInt = 0) c67663
      refine lv_aload_n hx hb dX11_takes_33 rfl (lv_at hl 1 rfl) ?_
      refine lv_iload_n hx hb dX11_takes_34 rfl (lv_at hl 2 rfl) ?_
      refine lv_iload_n hx hb dX11_takes_35 rfl (lv_at hl 0 rfl) ?_
      refine t_cVi (n := 2) (C := RX11) (T := TX11) (N := 16) (As := [.int p1, .int z67662]) (rest := [.ref p0]) X hT (kt184_X11_goldIn l G tag L F hT.2.2.2 p0 p1 z67662 m0 g0) m0 g0 rfl rfl qw_1296 qw_1297 qw_1298 qw_2 qw_1299 ⟨rfl, by decide +kernel, by decide +kernel, by decide +kernel⟩ ⟨Nat.le_of_ble_eq_true rfl, Nat.le_of_ble_eq_true rfl⟩ hl rfl rfl (Nat.le_of_ble_eq_true rfl) dX11_takes_36 ⟨Nat.le_of_ble_eq_true rfl, Nat.le_of_ble_eq_true rfl⟩ (fun z67665 F9 H locs hT hz67665 => ?_)
      obtain ⟨fz67665, hz67665⟩ := hz67665
      rw [fz67665] at hT
      exact K39 z67662 z67665 p0 _ _ _ _ (by omega) m0 g0 (by omega) hT hfr  (lv_sub hl [1, 2, 0] rfl)
    · have w67666 := cv_eq (rfl : z67662.toInt = z67662.toInt) (by decide : (0 : Int32).toInt = 0) c67663
      refine lv_bipush (v := (-2)) hx hb dX11_takes_28 (by decide) ?_
      refine lv_goto (tgt := 39) hx hb dX11_takes_30 (by decide) ?_
      exact K39 z67662 (-2) p0 _ _ _ _ (by omega) m0 g0 (by omega) hT hfr  (lv_sub hl [1, 2, 0] rfl)
  · have w67667 := cv_eq (rfl : z67656.toInt = z67656.toInt) (by decide : (0 : Int32).toInt = 0) c67657
    refine lv_aload_n hx hb dX11_takes_8 rfl (lv_at hl 0 rfl) ?_
    refine lv_iconst (v := 1) hx hb dX11_takes_9 (by decide) ?_
    refine t_cVi (n := 1) (C := RX11) (T := TX11) (N := 16) (As := [.int 1]) (rest := []) X hT (kt97_X11_refuse l G tag L F hT.2.2.2 p0 1 m0 g0) m0 g0 rfl rfl qw_152 qw_153 qw_154 qw_2 qw_155 ⟨rfl, by decide +kernel, by decide +kernel, by decide +kernel⟩ ⟨Nat.le_of_ble_eq_true rfl, Nat.le_of_ble_eq_true rfl⟩ hl rfl rfl (Nat.le_of_ble_eq_true rfl) dX11_takes_10 ⟨Nat.le_of_ble_eq_true rfl, Nat.le_of_ble_eq_true rfl⟩ (fun z67668 F H locs hT hz67668 => ?_)
    obtain ⟨hz67668, yz67668⟩ := hz67668
    have hfr : ∀ b j : Nat, (tag b ≠ 26 ∨ j ≠ 13) → fld F b j = fld Fo b j := fun b j n26_13 => (yz67668 b j n26_13).trans (hfr b j n26_13)
    exact t_iret hQ X hT (⟨rg_all _, hfr⟩) (Nat.le_of_ble_eq_true rfl) (Nat.le_of_ble_eq_true rfl) dX11_takes_13
