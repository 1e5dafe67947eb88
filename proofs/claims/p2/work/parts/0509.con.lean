set_option maxHeartbeats 4000000 in
set_option maxRecDepth 100000 in
theorem kt76_X11_isLivedIn (l : Launch) (G : KG) (tag : Nat → Nat) (L : List Nat) (F : Nat → va_E) (ho : okT G ttC tag L F) (p0 : Nat) (p1 : Int32) (p2 : Int32) (m0 : p0 ∈ L) (g0 : tag p0 = 26) : TMi l yX11_isLivedIn cX11_isLivedIn 4 (some .boolean) { frames := 0, cells := 0, slots := 0, locals := 0 } G ttC tag L F [.ref p0, .int p1, .int p2] (fun r F1 => F1 = F ∧ (0 ≤ r.toInt ∧ r.toInt ≤ 1)) := by
  refine t_bodyi (y := yX11_isLivedIn) (cd := cX11_isLivedIn) (mL := 4) (rt := (some .boolean)) (rm := { frames := 0, cells := 0, slots := 0, locals := 0 }) (av := [.ref p0, .int p1, .int p2]) (by decide) (Nat.le_of_ble_eq_true rfl) ho ?_
  intro p e s m args below meth c ls A Q hQ X hT hl
  have hx := X.1.1
  have hb := X.1.2.1
  have hl : lv_has ls 4 [(0, .ref p0), (1, .int p1), (2, .int p2)] := hl
  have rp1 := rg_all p1
  have rp2 := rg_all p2
  have K2 : ∀ (n : Nat) (z25018 : Int32) (H : Heap) (locs : List Loc) (ls : Array Slot), (6 - z25018.toInt < (n : Int)) → (0 ≤ z25018.toInt ∧ z25018.toInt ≤ 6) → TH G ttC A s tag L F H locs → lv_has ls 4 [(0, .ref p0), (1, .int p1), (2, .int p2), (3, .int z25018)] → W p l e { frames := 0, cells := 0, slots := 0, locals := 0 } s m args below meth c H locs 0 0 Q (F0 m 2 ls []) := by
    intro n
    induction n with
    | zero =>
      intro z25018 H locs ls hn rz25018 hT hl
      exfalso
      omega
    | succ n ih2 =>
      intro z25018 H locs ls hn rz25018 hT hl
      have K41 : ∀  (H : Heap) (locs : List Loc) (ls : Array Slot), (0 ≤ z25018.toInt ∧ z25018.toInt ≤ 5) → TH G ttC A s tag L F H locs → lv_has ls 4 [(0, .ref p0), (1, .int p1), (2, .int p2), (3, .int z25018)] → W p l e { frames := 0, cells := 0, slots := 0, locals := 0 } s m args below meth c H locs 0 0 Q (F0 m 41 ls []) := by
        intro H locs ls r9s25019 hT hl
        obtain ⟨z25020, ez25020⟩ : ∃ y : Int32, y = z25018 + 1 := ⟨_, rfl⟩
        have hz25020 : z25020.toInt = z25018.toInt + 1 := ar_add ez25020 rfl (by decide : (1 : Int32).toInt = 1) (by omega) (by omega)
        refine lv_iinc (v := z25020) (lv' := [(3, .int z25020), (0, .ref p0), (1, .int p1), (2, .int p2)]) hx hb dX11_isLivedIn_41 hl (k := 3) rfl (by rw [ez25020]; rfl) (by decide) rfl (fun ls hl => ?_)
        refine lv_goto (tgt := 2) hx hb dX11_isLivedIn_44 (by decide) ?_
        exact ih2 z25020 _ _ _ (by omega) (by omega) hT  (lv_sub hl [1, 2, 3, 0] rfl)
      refine lv_iload_n hx hb dX11_isLivedIn_2 rfl (lv_at hl 3 rfl) ?_
      refine lv_aload_n hx hb dX11_isLivedIn_3 rfl (lv_at hl 0 rfl) ?_
      refine t_get (C := RX11) (T := TX11) (N := 16) X hT m0 g0 rfl rfl 3 (by decide) qw_18 inlX11 rfl dX11_isLivedIn_4 (fun v25021 hv25021 ov25021 => ?_)
      obtain ⟨b25022, rfl, mb25022, gb25022⟩ := okV_r ov25021
      have gb25022 : tag b25022 = 18 := tg_of gb25022
      refine t_get (C := RX1) (T := TX1) (N := 20) X hT mb25022 gb25022 rfl rfl 14 (by decide) qw_891 inlX1 rfl dX11_isLivedIn_7 (fun v25023 hv25023 ov25023 => ?_)
      obtain ⟨z25024, rfl, rz25024⟩ := okV_i ov25023
      refine lv_icmp_ge (tgt := 47) hx hb dX11_isLivedIn_10 (by decide) (fun c25025 => ?_) (fun c25025 => ?_)
      · have w25026 := cv_le (rfl : z25024.toInt = z25024.toInt) (rfl : z25018.toInt = z25018.toInt) c25025
        refine lv_iconst (v := 0) hx hb dX11_isLivedIn_47 (by decide) ?_
        exact t_zret hQ X hT (by decide) (⟨rfl, (by decide)⟩) (Nat.le_of_ble_eq_true rfl) (Nat.le_of_ble_eq_true rfl) dX11_isLivedIn_48
      · have w25027 := cv_nle (rfl : z25024.toInt = z25024.toInt) (rfl : z25018.toInt = z25018.toInt) c25025
        refine lv_aload_n hx hb dX11_isLivedIn_13 rfl (lv_at hl 0 rfl) ?_
        refine t_get (C := RX11) (T := TX11) (N := 16) X hT m0 g0 rfl rfl 3 (by decide) qw_18 inlX11 rfl dX11_isLivedIn_14 (fun v25028 hv25028 ov25028 => ?_)
        obtain rfl : v25028 = .ref b25022 := hv25028.symm.trans hv25021
        refine t_get (C := RX1) (T := TX1) (N := 20) X hT mb25022 gb25022 rfl rfl 15 (by decide) qw_885 inlX1 rfl dX11_isLivedIn_17 (fun v25029 hv25029 ov25029 => ?_)
        obtain ⟨b25030, rfl, mb25030, gb25030⟩ := okV_r ov25029
        have gb25030 : tag b25030 = 6 := tg_of gb25030
        refine lv_iload_n hx hb dX11_isLivedIn_20 rfl (lv_at hl 3 rfl) ?_
        refine t_ild X hT mb25030 gb25030 rfl (by omega) dX11_isLivedIn_21 (fun z25031 vz25031 rz25031 => ?_)
        have rz25031 : 0 ≤ z25031.toInt ∧ z25031.toInt ≤ 3 := rz25031
        refine lv_iload_n hx hb dX11_isLivedIn_22 rfl (lv_at hl 1 rfl) ?_
        refine lv_icmp_ne (tgt := 41) hx hb dX11_isLivedIn_23 (by decide) (fun c25032 => ?_) (fun c25032 => ?_)
        · have w25033 := cv_ne (rfl : z25031.toInt = z25031.toInt) (rfl : p1.toInt = p1.toInt) c25032
          exact K41  _ _ _ (by omega) hT  (lv_sub hl [0, 1, 2, 3] rfl)
        · have w25034 := cv_eq (rfl : z25031.toInt = z25031.toInt) (rfl : p1.toInt = p1.toInt) c25032
          refine lv_aload_n hx hb dX11_isLivedIn_26 rfl (lv_at hl 0 rfl) ?_
          refine t_get (C := RX11) (T := TX11) (N := 16) X hT m0 g0 rfl rfl 5 (by decide) qw_23 inlX11 rfl dX11_isLivedIn_27 (fun v25035 hv25035 ov25035 => ?_)
          obtain ⟨b25036, rfl, mb25036, gb25036⟩ := okV_r ov25035
          have gb25036 : tag b25036 = 19 := tg_of gb25036
          refine t_get (C := RX7) (T := TX7) (N := 7) X hT mb25036 gb25036 rfl rfl 5 (by decide) qw_886 inlX7 rfl dX11_isLivedIn_30 (fun v25037 hv25037 ov25037 => ?_)
          obtain ⟨b25038, rfl, mb25038, gb25038⟩ := okV_r ov25037
          have gb25038 : tag b25038 = 7 := tg_of gb25038
          refine lv_iload_n hx hb dX11_isLivedIn_33 rfl (lv_at hl 3 rfl) ?_
          refine t_ild X hT mb25038 gb25038 rfl (by omega) dX11_isLivedIn_34 (fun z25039 vz25039 rz25039 => ?_)
          have rz25039 : (-2147483648) ≤ z25039.toInt ∧ z25039.toInt ≤ 2147483647 := rz25039
          refine lv_iload_n hx hb dX11_isLivedIn_35 rfl (lv_at hl 2 rfl) ?_
          refine lv_icmp_ne (tgt := 41) hx hb dX11_isLivedIn_36 (by decide) (fun c25040 => ?_) (fun c25040 => ?_)
          · have w25041 := cv_ne (rfl : z25039.toInt = z25039.toInt) (rfl : p2.toInt = p2.toInt) c25040
            exact K41  _ _ _ (by omega) hT  (lv_sub hl [0, 1, 2, 3] rfl)
          · have w25042 := cv_eq (rfl : z25039.toInt = z25039.toInt) (rfl : p2.toInt = p2.toInt) c25040
            refine lv_iconst (v := 1) hx hb dX11_isLivedIn_39 (by decide) ?_
            exact t_zret hQ X hT (by decide) (⟨rfl, (by decide)⟩) (Nat.le_of_ble_eq_true rfl) (Nat.le_of_ble_eq_true rfl) dX11_isLivedIn_40
  refine lv_iconst (v := 0) hx hb dX11_isLivedIn_0 (by decide) ?_
  refine lv_istore_n (lv' := [(3, .int 0), (0, .ref p0), (1, .int p1), (2, .int p2)]) hx hb dX11_isLivedIn_1 rfl hl (by decide) rfl (fun ls hl => ?_)
  have kk25043 : (0 : Int32).toInt = 0 := by decide
  exact K2 7 0 _ _ _ (by omega) (by decide) hT  (lv_sub hl [1, 2, 3, 0] rfl)
set_option maxHeartbeats 4000000 in
set_option maxRecDepth 100000 in
theorem kt77_X11_fill (l : Launch) (G : KG) (tag : Nat → Nat) (L : List Nat) (Fo : Nat → va_E) (ho : okT G ttC tag L Fo) (p0 : Nat) (p1 : Int32) (p2 : Int32) (m0 : p0 ∈ L) (g0 : tag p0 = 26) : TMi l yX11_fill cX11_fill 3 (some .boolean) { frames := 3, cells := 0, slots := 0, locals := 68 } G ttC tag L Fo [.ref p0, .int p1, .int p2] (fun r F1 => (0 ≤ r.toInt ∧ r.toInt ≤ 1) ∧ ((∀ b j : Nat, (tag b ≠ 19 ∨ j ≠ 0) → (tag b ≠ 19 ∨ j ≠ 1) → (tag b ≠ 23 ∨ j ≠ 2) → (tag b ≠ 23 ∨ j ≠ 3) → (tag b ≠ 26 ∨ j ≠ 13) → fld F1 b j = fld Fo b j) ∧ EF tag F1 Fo)) := by
  refine t_bodyi (y := yX11_fill) (cd := cX11_fill) (mL := 3) (rt := (some .boolean)) (rm := { frames := 3, cells := 0, slots := 0, locals := 68 }) (av := [.ref p0, .int p1, .int p2]) (by decide) (Nat.le_of_ble_eq_true rfl) ho ?_
  intro p e s m args below meth c ls A Q hQ X hT hl
  have hx := X.1.1
  have hb := X.1.2.1
  have hl : lv_has ls 3 [(0, .ref p0), (1, .int p1), (2, .int p2)] := hl
  have rp1 := rg_all p1
  have rp2 := rg_all p2
  obtain ⟨F, hFo⟩ : ∃ F : Nat → va_E, F = Fo := ⟨_, rfl⟩
  rw [← hFo] at hT
  have hfr : (∀ b j : Nat, (tag b ≠ 19 ∨ j ≠ 0) → (tag b ≠ 19 ∨ j ≠ 1) → (tag b ≠ 23 ∨ j ≠ 2) → (tag b ≠ 23 ∨ j ≠ 3) → (tag b ≠ 26 ∨ j ≠ 13) → fld F b j = fld Fo b j) ∧ EF tag F Fo := by
    rw [hFo]
    exact ⟨by intros; rfl, fun _ _ _ => rfl⟩
  have K36 : ∀  (F : Nat → va_E) (H : Heap) (locs : List Loc) (ls : Array Slot), (0 ≤ p1.toInt ∧ p1.toInt ≤ 3) → (1 ≤ p2.toInt ∧ p2.toInt ≤ 6) → TH G ttC A s tag L F H locs → ((∀ b j : Nat, (tag b ≠ 19 ∨ j ≠ 0) → (tag b ≠ 19 ∨ j ≠ 1) → (tag b ≠ 23 ∨ j ≠ 2) → (tag b ≠ 23 ∨ j ≠ 3) → (tag b ≠ 26 ∨ j ≠ 13) → fld F b j = fld Fo b j) ∧ EF tag F Fo) → lv_has ls 3 [(0, .ref p0), (1, .int p1), (2, .int p2)] → W p l e { frames := 3, cells := 0, slots := 0, locals := 68 } s m args below meth c H locs 0 0 Q (F0 m 36 ls []) := by
    intro F H locs ls r9s25319 r9s25320 hT hfr hl
    refine lv_aload_n hx hb dX11_fill_36 rfl (lv_at hl 0 rfl) ?_
    refine lv_iconst (v := 5) hx hb dX11_fill_37 (by decide) ?_
    refine t_cVi (n := 1) (C := RX11) (T := TX11) (N := 16) (As := [.int 5]) (rest := []) X hT (kt58_X11_no l G tag L F hT.2.2.2 p0 5 m0 g0) m0 g0 rfl rfl qw_1454 qw_1455 qw_1456 qw_2 qw_1457 ⟨rfl, by decide +kernel, by decide +kernel, by decide +kernel⟩ ⟨Nat.le_of_ble_eq_true rfl, Nat.le_of_ble_eq_true rfl⟩ hl rfl rfl (Nat.le_of_ble_eq_true rfl) dX11_fill_38 ⟨Nat.le_of_ble_eq_true rfl, Nat.le_of_ble_eq_true rfl⟩ (fun z25321 F H locs hT hz25321 => ?_)
    obtain ⟨hz25321, yz25321⟩ := hz25321
    have hfr : (∀ b j : Nat, (tag b ≠ 19 ∨ j ≠ 0) → (tag b ≠ 19 ∨ j ≠ 1) → (tag b ≠ 23 ∨ j ≠ 2) → (tag b ≠ 23 ∨ j ≠ 3) → (tag b ≠ 26 ∨ j ≠ 13) → fld F b j = fld Fo b j) ∧ EF tag F Fo := ⟨fun b j n19_0 n19_1 n23_2 n23_3 n26_13 => (yz25321.1 b j n26_13).trans (hfr.1 b j n19_0 n19_1 n23_2 n23_3 n26_13), fun b j hb => (yz25321.2 b j hb).trans (hfr.2 b j hb)⟩
    exact t_zret hQ X hT (nar_z (by omega)) (⟨(by omega), hfr⟩) (Nat.le_of_ble_eq_true rfl) (Nat.le_of_ble_eq_true rfl) dX11_fill_41
  refine lv_aload_n hx hb dX11_fill_0 rfl (lv_at hl 0 rfl) ?_
  refine lv_iload_n hx hb dX11_fill_1 rfl (lv_at hl 1 rfl) ?_
  refine lv_iload_n hx hb dX11_fill_2 rfl (lv_at hl 2 rfl) ?_
  refine t_cVi (n := 2) (C := RX11) (T := TX11) (N := 16) (As := [.int p1, .int p2]) (rest := []) X hT (kt70_X11_isSkin l G tag L F hT.2.2.2 p0 p1 p2 m0 g0) m0 g0 rfl rfl qw_823 qw_824 qw_825 qw_2 qw_826 ⟨rfl, by decide +kernel, by decide +kernel, by decide +kernel⟩ ⟨Nat.le_of_ble_eq_true rfl, Nat.le_of_ble_eq_true rfl⟩ hl rfl rfl (Nat.le_of_ble_eq_true rfl) dX11_fill_3 ⟨Nat.le_of_ble_eq_true rfl, Nat.le_of_ble_eq_true rfl⟩ (fun z25322 F9 H locs hT hz25322 => ?_)
  obtain ⟨fz25322, hz25322⟩ := hz25322
  rw [fz25322] at hT
  obtain ⟨hz25322, iz25322⟩ := hz25322
  refine lv_if_ne (tgt := 15) hx hb dX11_fill_6 (by decide) (fun c25323 => ?_) (fun c25323 => ?_)
  · have w25324 := cv_ne (rfl : z25322.toInt = z25322.toInt) (by decide : (0 : Int32).toInt = 0) c25323
    have w25325 := (fun h => (iz25322 h).1) (by omega)
    have w25326 := (fun h => (iz25322 h).2) (by omega)
    refine lv_aload_n hx hb dX11_fill_15 rfl (lv_at hl 0 rfl) ?_
    refine t_get (C := RX11) (T := TX11) (N := 16) X hT m0 g0 rfl rfl 5 (by decide) qw_23 inlX11 rfl dX11_fill_16 (fun v25327 hv25327 ov25327 => ?_)
    obtain ⟨b25328, rfl, mb25328, gb25328⟩ := okV_r ov25327
    have gb25328 : tag b25328 = 19 := tg_of gb25328
    refine lv_iload_n hx hb dX11_fill_19 rfl (lv_at hl 1 rfl) ?_
    refine lv_iload_n hx hb dX11_fill_20 rfl (lv_at hl 2 rfl) ?_
    refine t_cVi (n := 2) (C := RX7) (T := TX7) (N := 7) (As := [.int p1, .int p2]) (rest := []) X hT (kt19_X7_isOpen l G tag L F hT.2.2.2 b25328 p1 p2 mb25328 gb25328) mb25328 gb25328 rfl rfl qw_1458 qw_984 qw_985 qw_22 qw_986 ⟨rfl, by decide +kernel, by decide +kernel, by decide +kernel⟩ ⟨Nat.le_of_ble_eq_true rfl, Nat.le_of_ble_eq_true rfl⟩ hl rfl rfl (Nat.le_of_ble_eq_true rfl) dX11_fill_21 ⟨Nat.le_of_ble_eq_true rfl, Nat.le_of_ble_eq_true rfl⟩ (fun z25329 F9 H locs hT hz25329 => ?_)
    obtain ⟨fz25329, hz25329⟩ := hz25329
    rw [fz25329] at hT
    refine lv_if_eq (tgt := 36) hx hb dX11_fill_24 (by decide) (fun c25330 => ?_) (fun c25330 => ?_)
    · have w25331 := cv_eq (rfl : z25329.toInt = z25329.toInt) (by decide : (0 : Int32).toInt = 0) c25330
      exact K36  _ _ _ _ (by omega) (by omega) hT hfr  (lv_sub hl [0, 1, 2] rfl)
    · have w25332 := cv_ne (rfl : z25329.toInt = z25329.toInt) (by decide : (0 : Int32).toInt = 0) c25330
      refine lv_aload_n hx hb dX11_fill_27 rfl (lv_at hl 0 rfl) ?_
      refine lv_iload_n hx hb dX11_fill_28 rfl (lv_at hl 1 rfl) ?_
      refine lv_iload_n hx hb dX11_fill_29 rfl (lv_at hl 2 rfl) ?_
      refine t_cVi (n := 2) (C := RX11) (T := TX11) (N := 16) (As := [.int p1, .int p2]) (rest := []) X hT (kt76_X11_isLivedIn l G tag L F hT.2.2.2 p0 p1 p2 m0 g0) m0 g0 rfl rfl qw_1316 qw_1317 qw_1318 qw_2 qw_1319 ⟨rfl, by decide +kernel, by decide +kernel, by decide +kernel⟩ ⟨Nat.le_of_ble_eq_true rfl, Nat.le_of_ble_eq_true rfl⟩ hl rfl rfl (Nat.le_of_ble_eq_true rfl) dX11_fill_30 ⟨Nat.le_of_ble_eq_true rfl, Nat.le_of_ble_eq_true rfl⟩ (fun z25333 F9 H locs hT hz25333 => ?_)
      obtain ⟨fz25333, hz25333⟩ := hz25333
      rw [fz25333] at hT
      refine lv_if_eq (tgt := 42) hx hb dX11_fill_33 (by decide) (fun c25334 => ?_) (fun c25334 => ?_)
      · have w25335 := cv_eq (rfl : z25333.toInt = z25333.toInt) (by decide : (0 : Int32).toInt = 0) c25334
        refine lv_aload_n hx hb dX11_fill_42 rfl (lv_at hl 0 rfl) ?_
        refine t_get (C := RX11) (T := TX11) (N := 16) X hT m0 g0 rfl rfl 12 (by decide) qw_45 inlX11 rfl dX11_fill_43 (fun v25336 hv25336 ov25336 => ?_)
        obtain ⟨b25337, rfl, mb25337, gb25337⟩ := okV_r ov25336
        have gb25337 : tag b25337 = 23 := tg_of gb25337
        refine lv_aload_n hx hb dX11_fill_46 rfl (lv_at hl 0 rfl) ?_
        refine t_get (C := RX11) (T := TX11) (N := 16) X hT m0 g0 rfl rfl 5 (by decide) qw_23 inlX11 rfl dX11_fill_47 (fun v25338 hv25338 ov25338 => ?_)
        obtain rfl : v25338 = .ref b25328 := hv25338.symm.trans hv25327
        refine t_cVv (n := 1) (C := RX2) (T := TX2) (N := 5) (As := [.ref b25328]) (rest := []) X hT (kt66_X2_keep l G tag L F hT.2.2.2 b25337 b25328 mb25337 gb25337 mb25328 gb25328) mb25337 gb25337 rfl rfl qw_1427 qw_1428 qw_1429 qw_44 qw_1430 ⟨rfl, by decide +kernel, by decide +kernel, by decide +kernel⟩ ⟨Nat.le_of_ble_eq_true rfl, Nat.le_of_ble_eq_true rfl⟩ hl rfl rfl (Nat.le_of_ble_eq_true rfl) dX11_fill_50 ⟨Nat.le_of_ble_eq_true rfl, Nat.le_of_ble_eq_true rfl⟩ (fun F H locs hT hz25339 => ?_)
        have yz25339 := hz25339
        have hv25327 := (yz25339.1 _ 5 (Or.inr (by decide)) (Or.inr (by decide)) (Or.inr (by decide)) (Or.inr (by decide))).trans hv25327
        have hv25336 := (yz25339.1 _ 12 (Or.inr (by decide)) (Or.inr (by decide)) (Or.inr (by decide)) (Or.inr (by decide))).trans hv25336
        have hfr : (∀ b j : Nat, (tag b ≠ 19 ∨ j ≠ 0) → (tag b ≠ 19 ∨ j ≠ 1) → (tag b ≠ 23 ∨ j ≠ 2) → (tag b ≠ 23 ∨ j ≠ 3) → (tag b ≠ 26 ∨ j ≠ 13) → fld F b j = fld Fo b j) ∧ EF tag F Fo := ⟨fun b j n19_0 n19_1 n23_2 n23_3 n26_13 => (yz25339.1 b j n19_0 n19_1 n23_2 n23_3).trans (hfr.1 b j n19_0 n19_1 n23_2 n23_3 n26_13), fun b j hb => (yz25339.2 b j hb).trans (hfr.2 b j hb)⟩
        refine lv_aload_n hx hb dX11_fill_53 rfl (lv_at hl 0 rfl) ?_
        refine t_get (C := RX11) (T := TX11) (N := 16) X hT m0 g0 rfl rfl 5 (by decide) qw_23 inlX11 rfl dX11_fill_54 (fun v25340 hv25340 ov25340 => ?_)
        obtain rfl : v25340 = .ref b25328 := hv25340.symm.trans hv25327
        refine lv_iload_n hx hb dX11_fill_57 rfl (lv_at hl 1 rfl) ?_
        refine lv_iload_n hx hb dX11_fill_58 rfl (lv_at hl 2 rfl) ?_
        refine lv_bipush (v := 6) hx hb dX11_fill_59 (by decide) ?_
        refine lv_iconst (v := 1) hx hb dX11_fill_61 (by decide) ?_
        refine t_cVv (n := 4) (C := RX7) (T := TX7) (N := 7) (As := [.int p1, .int p2, .int 6, .int 1]) (rest := []) X hT (kt16_X7_setPart l G tag L F hT.2.2.2 b25328 p1 p2 6 1 mb25328 gb25328) mb25328 gb25328 rfl rfl qw_1459 qw_423 qw_424 qw_22 qw_425 ⟨rfl, by decide +kernel, by decide +kernel, by decide +kernel⟩ ⟨Nat.le_of_ble_eq_true rfl, Nat.le_of_ble_eq_true rfl⟩ hl rfl rfl (Nat.le_of_ble_eq_true rfl) dX11_fill_62 ⟨Nat.le_of_ble_eq_true rfl, Nat.le_of_ble_eq_true rfl⟩ (fun F H locs hT hz25341 => ?_)
        have yz25341 := hz25341
        have hv25327 := (yz25341.1 _ 5 ).trans hv25327
        have hv25336 := (yz25341.1 _ 12 ).trans hv25336
        have hfr : (∀ b j : Nat, (tag b ≠ 19 ∨ j ≠ 0) → (tag b ≠ 19 ∨ j ≠ 1) → (tag b ≠ 23 ∨ j ≠ 2) → (tag b ≠ 23 ∨ j ≠ 3) → (tag b ≠ 26 ∨ j ≠ 13) → fld F b j = fld Fo b j) ∧ EF tag F Fo := ⟨fun b j n19_0 n19_1 n23_2 n23_3 n26_13 => (yz25341.1 b j ).trans (hfr.1 b j n19_0 n19_1 n23_2 n23_3 n26_13), fun b j hb => (yz25341.2 b j hb).trans (hfr.2 b j hb)⟩
        refine lv_aload_n hx hb dX11_fill_65 rfl (lv_at hl 0 rfl) ?_
        refine t_cVi (n := 0) (C := RX11) (T := TX11) (N := 16) (As := []) (rest := []) X hT (kt59_X11_yes l G tag L F hT.2.2.2 p0 m0 g0) m0 g0 rfl rfl qw_1460 qw_1461 qw_1462 qw_2 qw_1463 ⟨rfl, by decide +kernel, by decide +kernel, by decide +kernel⟩ ⟨Nat.le_of_ble_eq_true rfl, Nat.le_of_ble_eq_true rfl⟩ hl rfl rfl (Nat.le_of_ble_eq_true rfl) dX11_fill_66 ⟨Nat.le_of_ble_eq_true rfl, Nat.le_of_ble_eq_true rfl⟩ (fun z25342 F H locs hT hz25342 => ?_)
        obtain ⟨hz25342, yz25342⟩ := hz25342
        have hv25327 := (yz25342.1 _ 5 (Or.inr (by decide))).trans hv25327
        have hv25336 := (yz25342.1 _ 12 (Or.inr (by decide))).trans hv25336
        have hfr : (∀ b j : Nat, (tag b ≠ 19 ∨ j ≠ 0) → (tag b ≠ 19 ∨ j ≠ 1) → (tag b ≠ 23 ∨ j ≠ 2) → (tag b ≠ 23 ∨ j ≠ 3) → (tag b ≠ 26 ∨ j ≠ 13) → fld F b j = fld Fo b j) ∧ EF tag F Fo := ⟨fun b j n19_0 n19_1 n23_2 n23_3 n26_13 => (yz25342.1 b j n26_13).trans (hfr.1 b j n19_0 n19_1 n23_2 n23_3 n26_13), fun b j hb => (yz25342.2 b j hb).trans (hfr.2 b j hb)⟩
        exact t_zret hQ X hT (nar_z (by omega)) (⟨(by omega), hfr⟩) (Nat.le_of_ble_eq_true rfl) (Nat.le_of_ble_eq_true rfl) dX11_fill_69
      · have w25343 := cv_ne (rfl : z25333.toInt = z25333.toInt) (by decide : (0 : Int32).toInt = 0) c25334
        exact K36  _ _ _ _ (by omega) (by omega) hT hfr  (lv_sub hl [0, 1, 2] rfl)
  · have w25344 := cv_eq (rfl : z25322.toInt = z25322.toInt) (by decide : (0 : Int32).toInt = 0) c25323
    refine lv_aload_n hx hb dX11_fill_9 rfl (lv_at hl 0 rfl) ?_
    refine lv_iconst (v := 1) hx hb dX11_fill_10 (by decide) ?_
    refine t_cVi (n := 1) (C := RX11) (T := TX11) (N := 16) (As := [.int 1]) (rest := []) X hT (kt58_X11_no l G tag L F hT.2.2.2 p0 1 m0 g0) m0 g0 rfl rfl qw_1454 qw_1455 qw_1456 qw_2 qw_1457 ⟨rfl, by decide +kernel, by decide +kernel, by decide +kernel⟩ ⟨Nat.le_of_ble_eq_true rfl, Nat.le_of_ble_eq_true rfl⟩ hl rfl rfl (Nat.le_of_ble_eq_true rfl) dX11_fill_11 ⟨Nat.le_of_ble_eq_true rfl, Nat.le_of_ble_eq_true rfl⟩ (fun z25345 F H locs hT hz25345 => ?_)
    obtain ⟨hz25345, yz25345⟩ := hz25345
    have hfr : (∀ b j : Nat, (tag b ≠ 19 ∨ j ≠ 0) → (tag b ≠ 19 ∨ j ≠ 1) → (tag b ≠ 23 ∨ j ≠ 2) → (tag b ≠ 23 ∨ j ≠ 3) → (tag b ≠ 26 ∨ j ≠ 13) → fld F b j = fld Fo b j) ∧ EF tag F Fo := ⟨fun b j n19_0 n19_1 n23_2 n23_3 n26_13 => (yz25345.1 b j n26_13).trans (hfr.1 b j n19_0 n19_1 n23_2 n23_3 n26_13), fun b j hb => (yz25345.2 b j hb).trans (hfr.2 b j hb)⟩
    exact t_zret hQ X hT (nar_z (by omega)) (⟨(by omega), hfr⟩) (Nat.le_of_ble_eq_true rfl) (Nat.le_of_ble_eq_true rfl) dX11_fill_14
set_option maxHeartbeats 4000000 in
set_option maxRecDepth 100000 in
theorem kt78_X11_first (l : Launch) (G : KG) (tag : Nat → Nat) (L : List Nat) (Fo : Nat → va_E) (ho : okT G ttC tag L Fo) (p0 : Nat) (p1 : Int32) (m0 : p0 ∈ L) (g0 : tag p0 = 26) : TMi l yX11_first cX11_first 2 (some .int) { frames := 7, cells := 0, slots := 0, locals := 184 } G ttC tag L Fo [.ref p0, .int p1] (fun r F1 => ((-2147483648) ≤ r.toInt ∧ r.toInt ≤ 2147483647) ∧ ((∀ b j : Nat, (tag b ≠ 19 ∨ j ≠ 0) → (tag b ≠ 19 ∨ j ≠ 1) → (tag b ≠ 26 ∨ j ≠ 13) → fld F1 b j = fld Fo b j) ∧ EF tag F1 Fo)) := by
  refine t_bodyi (y := yX11_first) (cd := cX11_first) (mL := 2) (rt := (some .int)) (rm := { frames := 7, cells := 0, slots := 0, locals := 184 }) (av := [.ref p0, .int p1]) (by decide) (Nat.le_of_ble_eq_true rfl) ho ?_
  intro p e s m args below meth c ls A Q hQ X hT hl
  have hx := X.1.1
  have hb := X.1.2.1
  have hl : lv_has ls 2 [(0, .ref p0), (1, .int p1)] := hl
  have rp1 := rg_all p1
  obtain ⟨F, hFo⟩ : ∃ F : Nat → va_E, F = Fo := ⟨_, rfl⟩
  rw [← hFo] at hT
  have hfr : (∀ b j : Nat, (tag b ≠ 19 ∨ j ≠ 0) → (tag b ≠ 19 ∨ j ≠ 1) → (tag b ≠ 26 ∨ j ≠ 13) → fld F b j = fld Fo b j) ∧ EF tag F Fo := by
    rw [hFo]
    exact ⟨by intros; rfl, fun _ _ _ => rfl⟩
  have K23 : ∀ (z25610 : Int32) (F : Nat → va_E) (H : Heap) (locs : List Loc) (ls : Array Slot), (1 ≤ z25610.toInt ∧ z25610.toInt ≤ 1) → TH G ttC A s tag L F H locs → ((∀ b j : Nat, (tag b ≠ 19 ∨ j ≠ 0) → (tag b ≠ 19 ∨ j ≠ 1) → (tag b ≠ 26 ∨ j ≠ 13) → fld F b j = fld Fo b j) ∧ EF tag F Fo) → fld F p0 2 = .int z25610 → lv_has ls 2 [(0, .ref p0), (1, .int p1)] → W p l e { frames := 7, cells := 0, slots := 0, locals := 184 } s m args below meth c H locs 0 0 Q (F0 m 23 ls []) := by
    intro z25610 F H locs ls rz25610 hT hfr qz25610 hl
    refine lv_aload_n hx hb dX11_first_23 rfl (lv_at hl 0 rfl) ?_
    refine lv_iconst (v := 2) hx hb dX11_first_24 (by decide) ?_
    refine t_cVi (n := 1) (C := RX11) (T := TX11) (N := 16) (As := [.int 2]) (rest := []) X hT (kt63_X11_refuse l G tag L F hT.2.2.2 p0 2 m0 g0) m0 g0 rfl rfl qw_152 qw_153 qw_154 qw_2 qw_155 ⟨rfl, by decide +kernel, by decide +kernel, by decide +kernel⟩ ⟨Nat.le_of_ble_eq_true rfl, Nat.le_of_ble_eq_true rfl⟩ hl rfl rfl (Nat.le_of_ble_eq_true rfl) dX11_first_25 ⟨Nat.le_of_ble_eq_true rfl, Nat.le_of_ble_eq_true rfl⟩ (fun z25611 F H locs hT hz25611 => ?_)
    obtain ⟨hz25611, yz25611⟩ := hz25611
    have qz25610 := (yz25611.1 _ 2 (Or.inr (by decide))).trans qz25610
    have hfr : (∀ b j : Nat, (tag b ≠ 19 ∨ j ≠ 0) → (tag b ≠ 19 ∨ j ≠ 1) → (tag b ≠ 26 ∨ j ≠ 13) → fld F b j = fld Fo b j) ∧ EF tag F Fo := ⟨fun b j n19_0 n19_1 n26_13 => (yz25611.1 b j n26_13).trans (hfr.1 b j n19_0 n19_1 n26_13), fun b j hb => (yz25611.2 b j hb).trans (hfr.2 b j hb)⟩
    exact t_iret hQ X hT (⟨rg_all _, hfr⟩) (Nat.le_of_ble_eq_true rfl) (Nat.le_of_ble_eq_true rfl) dX11_first_28
  refine lv_aload_n hx hb dX11_first_0 rfl (lv_at hl 0 rfl) ?_
  refine t_get (C := RX11) (T := TX11) (N := 16) X hT m0 g0 rfl rfl 2 (by decide) qw_150 inlX11 rfl dX11_first_1 (fun v25612 hv25612 ov25612 => ?_)
  obtain ⟨z25613, rfl, rz25613⟩ := okV_i ov25612
  refine lv_if_ne (tgt := 13) hx hb dX11_first_4 (by decide) (fun c25614 => ?_) (fun c25614 => ?_)
  · have w25615 := cv_ne (rfl : z25613.toInt = z25613.toInt) (by decide : (0 : Int32).toInt = 0) c25614
    refine lv_iload_n hx hb dX11_first_13 rfl (lv_at hl 1 rfl) ?_
    refine lv_if_lt (tgt := 23) hx hb dX11_first_14 (by decide) (fun c25616 => ?_) (fun c25616 => ?_)
    · have w25617 := cv_lt (rfl : p1.toInt = p1.toInt) (by decide : (0 : Int32).toInt = 0) c25616
      exact K23 z25613 _ _ _ _ (by omega) hT hfr hv25612 (lv_sub hl [0, 1] rfl)
    · have w25618 := cv_nlt (rfl : p1.toInt = p1.toInt) (by decide : (0 : Int32).toInt = 0) c25616
      refine lv_iload_n hx hb dX11_first_17 rfl (lv_at hl 1 rfl) ?_
      refine lv_bipush (v := 30) hx hb dX11_first_18 (by decide) ?_
      refine lv_icmp_le (tgt := 29) hx hb dX11_first_20 (by decide) (fun c25619 => ?_) (fun c25619 => ?_)
      · have w25620 := cv_le (rfl : p1.toInt = p1.toInt) (by decide : (30 : Int32).toInt = 30) c25619
        refine lv_aload_n hx hb dX11_first_29 rfl (lv_at hl 0 rfl) ?_
        refine lv_aload_n hx hb dX11_first_30 rfl (lv_at hl 0 rfl) ?_
        refine t_get (C := RX11) (T := TX11) (N := 16) X hT m0 g0 rfl rfl 9 (by decide) qw_33 inlX11 rfl dX11_first_31 (fun v25621 hv25621 ov25621 => ?_)
        obtain ⟨b25622, rfl, mb25622, gb25622⟩ := okV_r ov25621
        have gb25622 : tag b25622 = 20 := tg_of gb25622
        refine lv_aload_n hx hb dX11_first_34 rfl (lv_at hl 0 rfl) ?_
        refine t_get (C := RX11) (T := TX11) (N := 16) X hT m0 g0 rfl rfl 3 (by decide) qw_18 inlX11 rfl dX11_first_35 (fun v25623 hv25623 ov25623 => ?_)
        obtain ⟨b25624, rfl, mb25624, gb25624⟩ := okV_r ov25623
        have gb25624 : tag b25624 = 18 := tg_of gb25624
        refine lv_aload_n hx hb dX11_first_38 rfl (lv_at hl 0 rfl) ?_
        refine t_get (C := RX11) (T := TX11) (N := 16) X hT m0 g0 rfl rfl 5 (by decide) qw_23 inlX11 rfl dX11_first_39 (fun v25625 hv25625 ov25625 => ?_)
        obtain ⟨b25626, rfl, mb25626, gb25626⟩ := okV_r ov25625
        have gb25626 : tag b25626 = 19 := tg_of gb25626
        refine lv_aload_n hx hb dX11_first_42 rfl (lv_at hl 0 rfl) ?_
        refine t_get (C := RX11) (T := TX11) (N := 16) X hT m0 g0 rfl rfl 7 (by decide) qw_25 inlX11 rfl dX11_first_43 (fun v25627 hv25627 ov25627 => ?_)
        obtain ⟨b25628, rfl, mb25628, gb25628⟩ := okV_r ov25627
        have gb25628 : tag b25628 = 19 := tg_of gb25628
        refine lv_iload_n hx hb dX11_first_46 rfl (lv_at hl 1 rfl) ?_
        refine t_cVi (n := 4) (C := RX10) (T := TX10) (N := 2) (As := [.ref b25624, .ref b25626, .ref b25628, .int p1]) (rest := [.ref p0]) X hT (kt55_X10_mostSkins l G tag L F hT.2.2.2 b25622 b25624 b25626 b25628 p1 mb25622 gb25622 mb25624 gb25624 mb25626 gb25626 mb25628 gb25628 (by omega)) mb25622 gb25622 rfl rfl qw_1235 qw_1236 qw_1237 qw_32 qw_1238 ⟨rfl, by decide +kernel, by decide +kernel, by decide +kernel⟩ ⟨Nat.le_of_ble_eq_true rfl, Nat.le_of_ble_eq_true rfl⟩ hl rfl rfl (Nat.le_of_ble_eq_true rfl) dX11_first_47 ⟨Nat.le_of_ble_eq_true rfl, Nat.le_of_ble_eq_true rfl⟩ (fun z25629 F H locs hT hz25629 => ?_)
        obtain ⟨hz25629, yz25629⟩ := hz25629
        have hv25612 := (yz25629.1 _ 2 (Or.inr (by decide)) (Or.inr (by decide))).trans hv25612
        have hv25621 := (yz25629.1 _ 9 (Or.inr (by decide)) (Or.inr (by decide))).trans hv25621
        have hv25623 := (yz25629.1 _ 3 (Or.inr (by decide)) (Or.inr (by decide))).trans hv25623
        have hv25625 := (yz25629.1 _ 5 (Or.inr (by decide)) (Or.inr (by decide))).trans hv25625
        have hv25627 := (yz25629.1 _ 7 (Or.inr (by decide)) (Or.inr (by decide))).trans hv25627
        have hfr : (∀ b j : Nat, (tag b ≠ 19 ∨ j ≠ 0) → (tag b ≠ 19 ∨ j ≠ 1) → (tag b ≠ 26 ∨ j ≠ 13) → fld F b j = fld Fo b j) ∧ EF tag F Fo := ⟨fun b j n19_0 n19_1 n26_13 => (yz25629.1 b j n19_0 n19_1).trans (hfr.1 b j n19_0 n19_1 n26_13), fun b j hb => (yz25629.2 b j hb).trans (hfr.2 b j hb)⟩
        refine t_cVi (n := 1) (C := RX11) (T := TX11) (N := 16) (As := [.int z25629]) (rest := []) X hT (kt56_X11_answer l G tag L F hT.2.2.2 p0 z25629 m0 g0) m0 g0 rfl rfl qw_463 qw_464 qw_465 qw_2 qw_466 ⟨rfl, by decide +kernel, by decide +kernel, by decide +kernel⟩ ⟨Nat.le_of_ble_eq_true rfl, Nat.le_of_ble_eq_true rfl⟩ hl rfl rfl (Nat.le_of_ble_eq_true rfl) dX11_first_50 ⟨Nat.le_of_ble_eq_true rfl, Nat.le_of_ble_eq_true rfl⟩ (fun z25630 F H locs hT hz25630 => ?_)
        obtain ⟨hz25630, yz25630⟩ := hz25630
        have hv25612 := (yz25630.1 _ 2 (Or.inr (by decide))).trans hv25612
        have hv25621 := (yz25630.1 _ 9 (Or.inr (by decide))).trans hv25621
        have hv25623 := (yz25630.1 _ 3 (Or.inr (by decide))).trans hv25623
        have hv25625 := (yz25630.1 _ 5 (Or.inr (by decide))).trans hv25625
        have hv25627 := (yz25630.1 _ 7 (Or.inr (by decide))).trans hv25627
        have hfr : (∀ b j : Nat, (tag b ≠ 19 ∨ j ≠ 0) → (tag b ≠ 19 ∨ j ≠ 1) → (tag b ≠ 26 ∨ j ≠ 13) → fld F b j = fld Fo b j) ∧ EF tag F Fo := ⟨fun b j n19_0 n19_1 n26_13 => (yz25630.1 b j n26_13).trans (hfr.1 b j n19_0 n19_1 n26_13), fun b j hb => (yz25630.2 b j hb).trans (hfr.2 b j hb)⟩
        exact t_iret hQ X hT (⟨rg_all _, hfr⟩) (Nat.le_of_ble_eq_true rfl) (Nat.le_of_ble_eq_true rfl) dX11_first_53
      · have w25631 := cv_nle (rfl : p1.toInt = p1.toInt) (by decide : (30 : Int32).toInt = 30) c25619
        exact K23 z25613 _ _ _ _ (by omega) hT hfr hv25612 (lv_sub hl [0, 1] rfl)
  · have w25632 := cv_eq (rfl : z25613.toInt = z25613.toInt) (by decide : (0 : Int32).toInt = 0) c25614
    refine lv_aload_n hx hb dX11_first_7 rfl (lv_at hl 0 rfl) ?_
    refine lv_iconst (v := 1) hx hb dX11_first_8 (by decide) ?_
    refine t_cVi (n := 1) (C := RX11) (T := TX11) (N := 16) (As := [.int 1]) (rest := []) X hT (kt63_X11_refuse l G tag L F hT.2.2.2 p0 1 m0 g0) m0 g0 rfl rfl qw_152 qw_153 qw_154 qw_2 qw_155 ⟨rfl, by decide +kernel, by decide +kernel, by decide +kernel⟩ ⟨Nat.le_of_ble_eq_true rfl, Nat.le_of_ble_eq_true rfl⟩ hl rfl rfl (Nat.le_of_ble_eq_true rfl) dX11_first_9 ⟨Nat.le_of_ble_eq_true rfl, Nat.le_of_ble_eq_true rfl⟩ (fun z25633 F H locs hT hz25633 => ?_)
    obtain ⟨hz25633, yz25633⟩ := hz25633
    have hv25612 := (yz25633.1 _ 2 (Or.inr (by decide))).trans hv25612
    have hfr : (∀ b j : Nat, (tag b ≠ 19 ∨ j ≠ 0) → (tag b ≠ 19 ∨ j ≠ 1) → (tag b ≠ 26 ∨ j ≠ 13) → fld F b j = fld Fo b j) ∧ EF tag F Fo := ⟨fun b j n19_0 n19_1 n26_13 => (yz25633.1 b j n26_13).trans (hfr.1 b j n19_0 n19_1 n26_13), fun b j hb => (yz25633.2 b j hb).trans (hfr.2 b j hb)⟩
    exact t_iret hQ X hT (⟨rg_all _, hfr⟩) (Nat.le_of_ble_eq_true rfl) (Nat.le_of_ble_eq_true rfl) dX11_first_12
set_option maxHeartbeats 4000000 in
set_option maxRecDepth 100000 in
theorem kt79_X11_firstAt (l : Launch) (G : KG) (tag : Nat → Nat) (L : List Nat) (Fo : Nat → va_E) (ho : okT G ttC tag L Fo) (p0 : Nat) (p1 : Int32) (p2 : Int32) (m0 : p0 ∈ L) (g0 : tag p0 = 26) : TMi l yX11_firstAt cX11_firstAt 3 (some .int) { frames := 7, cells := 0, slots := 0, locals := 184 } G ttC tag L Fo [.ref p0, .int p1, .int p2] (fun r F1 => ((-2147483648) ≤ r.toInt ∧ r.toInt ≤ 2147483647) ∧ ((∀ b j : Nat, (tag b ≠ 19 ∨ j ≠ 0) → (tag b ≠ 19 ∨ j ≠ 1) → (tag b ≠ 26 ∨ j ≠ 13) → fld F1 b j = fld Fo b j) ∧ EF tag F1 Fo)) := by
  refine t_bodyi (y := yX11_firstAt) (cd := cX11_firstAt) (mL := 3) (rt := (some .int)) (rm := { frames := 7, cells := 0, slots := 0, locals := 184 }) (av := [.ref p0, .int p1, .int p2]) (by decide) (Nat.le_of_ble_eq_true rfl) ho ?_
  intro p e s m args below meth c ls A Q hQ X hT hl
  have hx := X.1.1
  have hb := X.1.2.1
  have hl : lv_has ls 3 [(0, .ref p0), (1, .int p1), (2, .int p2)] := hl
  have rp1 := rg_all p1
  have rp2 := rg_all p2
  obtain ⟨F, hFo⟩ : ∃ F : Nat → va_E, F = Fo := ⟨_, rfl⟩
  rw [← hFo] at hT
  have hfr : (∀ b j : Nat, (tag b ≠ 19 ∨ j ≠ 0) → (tag b ≠ 19 ∨ j ≠ 1) → (tag b ≠ 26 ∨ j ≠ 13) → fld F b j = fld Fo b j) ∧ EF tag F Fo := by
    rw [hFo]
    exact ⟨by intros; rfl, fun _ _ _ => rfl⟩
  have K24 : ∀  (F : Nat → va_E) (H : Heap) (locs : List Loc) (ls : Array Slot), (0 ≤ p2.toInt ∧ p2.toInt ≤ 3) → TH G ttC A s tag L F H locs → ((∀ b j : Nat, (tag b ≠ 19 ∨ j ≠ 0) → (tag b ≠ 19 ∨ j ≠ 1) → (tag b ≠ 26 ∨ j ≠ 13) → fld F b j = fld Fo b j) ∧ EF tag F Fo) → lv_has ls 3 [(0, .ref p0), (1, .int p1), (2, .int p2)] → W p l e { frames := 7, cells := 0, slots := 0, locals := 184 } s m args below meth c H locs 0 0 Q (F0 m 24 ls []) := by
    intro F H locs ls r9s25942 hT hfr hl
    refine lv_aload_n hx hb dX11_firstAt_24 rfl (lv_at hl 0 rfl) ?_
    refine lv_iconst (v := 2) hx hb dX11_firstAt_25 (by decide) ?_
    refine t_cVi (n := 1) (C := RX11) (T := TX11) (N := 16) (As := [.int 2]) (rest := []) X hT (kt63_X11_refuse l G tag L F hT.2.2.2 p0 2 m0 g0) m0 g0 rfl rfl qw_152 qw_153 qw_154 qw_2 qw_155 ⟨rfl, by decide +kernel, by decide +kernel, by decide +kernel⟩ ⟨Nat.le_of_ble_eq_true rfl, Nat.le_of_ble_eq_true rfl⟩ hl rfl rfl (Nat.le_of_ble_eq_true rfl) dX11_firstAt_26 ⟨Nat.le_of_ble_eq_true rfl, Nat.le_of_ble_eq_true rfl⟩ (fun z25943 F H locs hT hz25943 => ?_)
    obtain ⟨hz25943, yz25943⟩ := hz25943
    have hfr : (∀ b j : Nat, (tag b ≠ 19 ∨ j ≠ 0) → (tag b ≠ 19 ∨ j ≠ 1) → (tag b ≠ 26 ∨ j ≠ 13) → fld F b j = fld Fo b j) ∧ EF tag F Fo := ⟨fun b j n19_0 n19_1 n26_13 => (yz25943.1 b j n26_13).trans (hfr.1 b j n19_0 n19_1 n26_13), fun b j hb => (yz25943.2 b j hb).trans (hfr.2 b j hb)⟩
    exact t_iret hQ X hT (⟨rg_all _, hfr⟩) (Nat.le_of_ble_eq_true rfl) (Nat.le_of_ble_eq_true rfl) dX11_firstAt_29
  refine lv_aload_n hx hb dX11_firstAt_0 rfl (lv_at hl 0 rfl) ?_
  refine lv_iload_n hx hb dX11_firstAt_1 rfl (lv_at hl 2 rfl) ?_
  refine t_cVi (n := 1) (C := RX11) (T := TX11) (N := 16) (As := [.int p2]) (rest := []) X hT (kt61_X11_isHouse l G tag L F hT.2.2.2 p0 p2 m0 g0) m0 g0 rfl rfl qw_770 qw_771 qw_772 qw_2 qw_773 ⟨rfl, by decide +kernel, by decide +kernel, by decide +kernel⟩ ⟨Nat.le_of_ble_eq_true rfl, Nat.le_of_ble_eq_true rfl⟩ hl rfl rfl (Nat.le_of_ble_eq_true rfl) dX11_firstAt_2 ⟨Nat.le_of_ble_eq_true rfl, Nat.le_of_ble_eq_true rfl⟩ (fun z25944 F9 H locs hT hz25944 => ?_)
  obtain ⟨fz25944, hz25944⟩ := hz25944
  rw [fz25944] at hT
  obtain ⟨hz25944, iz25944⟩ := hz25944
  refine lv_if_ne (tgt := 14) hx hb dX11_firstAt_5 (by decide) (fun c25945 => ?_) (fun c25945 => ?_)
  · have w25946 := cv_ne (rfl : z25944.toInt = z25944.toInt) (by decide : (0 : Int32).toInt = 0) c25945
    have w25947 := (fun h => (iz25944 h)) (by omega)
    refine lv_iload_n hx hb dX11_firstAt_14 rfl (lv_at hl 1 rfl) ?_
    refine lv_if_lt (tgt := 24) hx hb dX11_firstAt_15 (by decide) (fun c25948 => ?_) (fun c25948 => ?_)
    · have w25949 := cv_lt (rfl : p1.toInt = p1.toInt) (by decide : (0 : Int32).toInt = 0) c25948
      exact K24  _ _ _ _ (by omega) hT hfr  (lv_sub hl [0, 1, 2] rfl)
    · have w25950 := cv_nlt (rfl : p1.toInt = p1.toInt) (by decide : (0 : Int32).toInt = 0) c25948
      refine lv_iload_n hx hb dX11_firstAt_18 rfl (lv_at hl 1 rfl) ?_
      refine lv_bipush (v := 30) hx hb dX11_firstAt_19 (by decide) ?_
      refine lv_icmp_le (tgt := 30) hx hb dX11_firstAt_21 (by decide) (fun c25951 => ?_) (fun c25951 => ?_)
      · have w25952 := cv_le (rfl : p1.toInt = p1.toInt) (by decide : (30 : Int32).toInt = 30) c25951
        refine lv_aload_n hx hb dX11_firstAt_30 rfl (lv_at hl 0 rfl) ?_
        refine t_get (C := RX11) (T := TX11) (N := 16) X hT m0 g0 rfl rfl 9 (by decide) qw_33 inlX11 rfl dX11_firstAt_31 (fun v25953 hv25953 ov25953 => ?_)
        obtain ⟨b25954, rfl, mb25954, gb25954⟩ := okV_r ov25953
        have gb25954 : tag b25954 = 20 := tg_of gb25954
        refine lv_aload_n hx hb dX11_firstAt_34 rfl (lv_at hl 0 rfl) ?_
        refine t_get (C := RX11) (T := TX11) (N := 16) X hT m0 g0 rfl rfl 3 (by decide) qw_18 inlX11 rfl dX11_firstAt_35 (fun v25955 hv25955 ov25955 => ?_)
        obtain ⟨b25956, rfl, mb25956, gb25956⟩ := okV_r ov25955
        have gb25956 : tag b25956 = 18 := tg_of gb25956
        refine lv_aload_n hx hb dX11_firstAt_38 rfl (lv_at hl 0 rfl) ?_
        refine t_get (C := RX11) (T := TX11) (N := 16) X hT m0 g0 rfl rfl 5 (by decide) qw_23 inlX11 rfl dX11_firstAt_39 (fun v25957 hv25957 ov25957 => ?_)
        obtain ⟨b25958, rfl, mb25958, gb25958⟩ := okV_r ov25957
        have gb25958 : tag b25958 = 19 := tg_of gb25958
        refine lv_aload_n hx hb dX11_firstAt_42 rfl (lv_at hl 0 rfl) ?_
        refine t_get (C := RX11) (T := TX11) (N := 16) X hT m0 g0 rfl rfl 7 (by decide) qw_25 inlX11 rfl dX11_firstAt_43 (fun v25959 hv25959 ov25959 => ?_)
        obtain ⟨b25960, rfl, mb25960, gb25960⟩ := okV_r ov25959
        have gb25960 : tag b25960 = 19 := tg_of gb25960
        refine lv_iload_n hx hb dX11_firstAt_46 rfl (lv_at hl 1 rfl) ?_
        refine t_cVi (n := 4) (C := RX10) (T := TX10) (N := 2) (As := [.ref b25956, .ref b25958, .ref b25960, .int p1]) (rest := []) X hT (kt55_X10_mostSkins l G tag L F hT.2.2.2 b25954 b25956 b25958 b25960 p1 mb25954 gb25954 mb25956 gb25956 mb25958 gb25958 mb25960 gb25960 (by omega)) mb25954 gb25954 rfl rfl qw_1235 qw_1236 qw_1237 qw_32 qw_1238 ⟨rfl, by decide +kernel, by decide +kernel, by decide +kernel⟩ ⟨Nat.le_of_ble_eq_true rfl, Nat.le_of_ble_eq_true rfl⟩ hl rfl rfl (Nat.le_of_ble_eq_true rfl) dX11_firstAt_47 ⟨Nat.le_of_ble_eq_true rfl, Nat.le_of_ble_eq_true rfl⟩ (fun z25961 F H locs hT hz25961 => ?_)
        obtain ⟨hz25961, yz25961⟩ := hz25961
        have hv25953 := (yz25961.1 _ 9 (Or.inr (by decide)) (Or.inr (by decide))).trans hv25953
        have hv25955 := (yz25961.1 _ 3 (Or.inr (by decide)) (Or.inr (by decide))).trans hv25955
        have hv25957 := (yz25961.1 _ 5 (Or.inr (by decide)) (Or.inr (by decide))).trans hv25957
        have hv25959 := (yz25961.1 _ 7 (Or.inr (by decide)) (Or.inr (by decide))).trans hv25959
        have hfr : (∀ b j : Nat, (tag b ≠ 19 ∨ j ≠ 0) → (tag b ≠ 19 ∨ j ≠ 1) → (tag b ≠ 26 ∨ j ≠ 13) → fld F b j = fld Fo b j) ∧ EF tag F Fo := ⟨fun b j n19_0 n19_1 n26_13 => (yz25961.1 b j n19_0 n19_1).trans (hfr.1 b j n19_0 n19_1 n26_13), fun b j hb => (yz25961.2 b j hb).trans (hfr.2 b j hb)⟩
        refine lv_pop hx hb dX11_firstAt_50 rfl ?_
        refine lv_aload_n hx hb dX11_firstAt_51 rfl (lv_at hl 0 rfl) ?_
        refine lv_aload_n hx hb dX11_firstAt_52 rfl (lv_at hl 0 rfl) ?_
        refine t_get (C := RX11) (T := TX11) (N := 16) X hT m0 g0 rfl rfl 9 (by decide) qw_33 inlX11 rfl dX11_firstAt_53 (fun v25962 hv25962 ov25962 => ?_)
        obtain rfl : v25962 = .ref b25954 := hv25962.symm.trans hv25953
        refine t_get (C := RX10) (T := TX10) (N := 2) X hT mb25954 gb25954 rfl rfl 1 (by decide) qw_1272 inlX10 rfl dX11_firstAt_56 (fun v25963 hv25963 ov25963 => ?_)
        obtain ⟨b25964, rfl, mb25964, gb25964⟩ := okV_r ov25963
        have gb25964 : tag b25964 = 5 := tg_of gb25964
        refine lv_iload_n hx hb dX11_firstAt_59 rfl (lv_at hl 2 rfl) ?_
        refine t_ild X hT mb25964 gb25964 rfl (by omega) dX11_firstAt_60 (fun z25965 vz25965 rz25965 => ?_)
        have rz25965 : (-2147483648) ≤ z25965.toInt ∧ z25965.toInt ≤ 2147483647 := rz25965
        refine t_cVi (n := 1) (C := RX11) (T := TX11) (N := 16) (As := [.int z25965]) (rest := []) X hT (kt56_X11_answer l G tag L F hT.2.2.2 p0 z25965 m0 g0) m0 g0 rfl rfl qw_463 qw_464 qw_465 qw_2 qw_466 ⟨rfl, by decide +kernel, by decide +kernel, by decide +kernel⟩ ⟨Nat.le_of_ble_eq_true rfl, Nat.le_of_ble_eq_true rfl⟩ hl rfl rfl (Nat.le_of_ble_eq_true rfl) dX11_firstAt_61 ⟨Nat.le_of_ble_eq_true rfl, Nat.le_of_ble_eq_true rfl⟩ (fun z25966 F H locs hT hz25966 => ?_)
        obtain ⟨hz25966, yz25966⟩ := hz25966
        have hv25953 := (yz25966.1 _ 9 (Or.inr (by decide))).trans hv25953
        have hv25955 := (yz25966.1 _ 3 (Or.inr (by decide))).trans hv25955
        have hv25957 := (yz25966.1 _ 5 (Or.inr (by decide))).trans hv25957
        have hv25959 := (yz25966.1 _ 7 (Or.inr (by decide))).trans hv25959
        have hv25963 := (yz25966.1 _ 1 (Or.inr (by decide))).trans hv25963
        have hfr : (∀ b j : Nat, (tag b ≠ 19 ∨ j ≠ 0) → (tag b ≠ 19 ∨ j ≠ 1) → (tag b ≠ 26 ∨ j ≠ 13) → fld F b j = fld Fo b j) ∧ EF tag F Fo := ⟨fun b j n19_0 n19_1 n26_13 => (yz25966.1 b j n26_13).trans (hfr.1 b j n19_0 n19_1 n26_13), fun b j hb => (yz25966.2 b j hb).trans (hfr.2 b j hb)⟩
        exact t_iret hQ X hT (⟨rg_all _, hfr⟩) (Nat.le_of_ble_eq_true rfl) (Nat.le_of_ble_eq_true rfl) dX11_firstAt_64
      · have w25967 := cv_nle (rfl : p1.toInt = p1.toInt) (by decide : (30 : Int32).toInt = 30) c25951
        exact K24  _ _ _ _ (by omega) hT hfr  (lv_sub hl [0, 1, 2] rfl)
  · have w25968 := cv_eq (rfl : z25944.toInt = z25944.toInt) (by decide : (0 : Int32).toInt = 0) c25945
    refine lv_aload_n hx hb dX11_firstAt_8 rfl (lv_at hl 0 rfl) ?_
    refine lv_iconst (v := 1) hx hb dX11_firstAt_9 (by decide) ?_
    refine t_cVi (n := 1) (C := RX11) (T := TX11) (N := 16) (As := [.int 1]) (rest := []) X hT (kt63_X11_refuse l G tag L F hT.2.2.2 p0 1 m0 g0) m0 g0 rfl rfl qw_152 qw_153 qw_154 qw_2 qw_155 ⟨rfl, by decide +kernel, by decide +kernel, by decide +kernel⟩ ⟨Nat.le_of_ble_eq_true rfl, Nat.le_of_ble_eq_true rfl⟩ hl rfl rfl (Nat.le_of_ble_eq_true rfl) dX11_firstAt_10 ⟨Nat.le_of_ble_eq_true rfl, Nat.le_of_ble_eq_true rfl⟩ (fun z25969 F H locs hT hz25969 => ?_)
    obtain ⟨hz25969, yz25969⟩ := hz25969
    have hfr : (∀ b j : Nat, (tag b ≠ 19 ∨ j ≠ 0) → (tag b ≠ 19 ∨ j ≠ 1) → (tag b ≠ 26 ∨ j ≠ 13) → fld F b j = fld Fo b j) ∧ EF tag F Fo := ⟨fun b j n19_0 n19_1 n26_13 => (yz25969.1 b j n26_13).trans (hfr.1 b j n19_0 n19_1 n26_13), fun b j hb => (yz25969.2 b j hb).trans (hfr.2 b j hb)⟩
    exact t_iret hQ X hT (⟨rg_all _, hfr⟩) (Nat.le_of_ble_eq_true rfl) (Nat.le_of_ble_eq_true rfl) dX11_firstAt_13
set_option maxHeartbeats 4000000 in
set_option maxRecDepth 100000 in
theorem kt80_X11_fits (l : Launch) (G : KG) (tag : Nat → Nat) (L : List Nat) (Fo : Nat → va_E) (ho : okT G ttC tag L Fo) (p0 : Nat) (p1 : Int32) (m0 : p0 ∈ L) (g0 : tag p0 = 26) : TMi l yX11_fits cX11_fits 2 (some .int) { frames := 3, cells := 0, slots := 0, locals := 80 } G ttC tag L Fo [.ref p0, .int p1] (fun r F1 => ((-2147483648) ≤ r.toInt ∧ r.toInt ≤ 2147483647) ∧ ((∀ b j : Nat, (tag b ≠ 26 ∨ j ≠ 13) → fld F1 b j = fld Fo b j) ∧ EF tag F1 Fo)) := by
  refine t_bodyi (y := yX11_fits) (cd := cX11_fits) (mL := 2) (rt := (some .int)) (rm := { frames := 3, cells := 0, slots := 0, locals := 80 }) (av := [.ref p0, .int p1]) (by decide) (Nat.le_of_ble_eq_true rfl) ho ?_
  intro p e s m args below meth c ls A Q hQ X hT hl
  have hx := X.1.1
  have hb := X.1.2.1
  have hl : lv_has ls 2 [(0, .ref p0), (1, .int p1)] := hl
  have rp1 := rg_all p1
  obtain ⟨F, hFo⟩ : ∃ F : Nat → va_E, F = Fo := ⟨_, rfl⟩
  rw [← hFo] at hT
  have hfr : (∀ b j : Nat, (tag b ≠ 26 ∨ j ≠ 13) → fld F b j = fld Fo b j) ∧ EF tag F Fo := by
    rw [hFo]
    exact ⟨by intros; rfl, fun _ _ _ => rfl⟩
  have K35 : ∀ (z26158 : Int32) (b26159 : Nat) (F : Nat → va_E) (H : Heap) (locs : List Loc) (ls : Array Slot), (0 ≤ z26158.toInt ∧ z26158.toInt ≤ 1) → (b26159 ∈ L) → (tag b26159 = 26) → (0 ≤ p1.toInt ∧ p1.toInt ≤ 3) → TH G ttC A s tag L F H locs → ((∀ b j : Nat, (tag b ≠ 26 ∨ j ≠ 13) → fld F b j = fld Fo b j) ∧ EF tag F Fo) → lv_has ls 2 [(0, .ref p0), (1, .int p1)] → W p l e { frames := 3, cells := 0, slots := 0, locals := 80 } s m args below meth c H locs 0 0 Q (F0 m 35 ls [.int z26158, .ref b26159]) := by
    intro z26158 b26159 F H locs ls rz26158 mb26159 gb26159 r9s26157 hT hfr hl
    refine t_cVi (n := 1) (C := RX11) (T := TX11) (N := 16) (As := [.int z26158]) (rest := []) X hT (kt56_X11_answer l G tag L F hT.2.2.2 b26159 z26158 mb26159 gb26159) mb26159 gb26159 rfl rfl qw_463 qw_464 qw_465 qw_2 qw_466 ⟨rfl, by decide +kernel, by decide +kernel, by decide +kernel⟩ ⟨Nat.le_of_ble_eq_true rfl, Nat.le_of_ble_eq_true rfl⟩ hl rfl rfl (Nat.le_of_ble_eq_true rfl) dX11_fits_35 ⟨Nat.le_of_ble_eq_true rfl, Nat.le_of_ble_eq_true rfl⟩ (fun z26160 F H locs hT hz26160 => ?_)
    obtain ⟨hz26160, yz26160⟩ := hz26160
    have hfr : (∀ b j : Nat, (tag b ≠ 26 ∨ j ≠ 13) → fld F b j = fld Fo b j) ∧ EF tag F Fo := ⟨fun b j n26_13 => (yz26160.1 b j n26_13).trans (hfr.1 b j n26_13), fun b j hb => (yz26160.2 b j hb).trans (hfr.2 b j hb)⟩
    exact t_iret hQ X hT (⟨rg_all _, hfr⟩) (Nat.le_of_ble_eq_true rfl) (Nat.le_of_ble_eq_true rfl) dX11_fits_38
  refine lv_aload_n hx hb dX11_fits_0 rfl (lv_at hl 0 rfl) ?_
  refine lv_iload_n hx hb dX11_fits_1 rfl (lv_at hl 1 rfl) ?_
  refine t_cVi (n := 1) (C := RX11) (T := TX11) (N := 16) (As := [.int p1]) (rest := []) X hT (kt61_X11_isHouse l G tag L F hT.2.2.2 p0 p1 m0 g0) m0 g0 rfl rfl qw_770 qw_771 qw_772 qw_2 qw_773 ⟨rfl, by decide +kernel, by decide +kernel, by decide +kernel⟩ ⟨Nat.le_of_ble_eq_true rfl, Nat.le_of_ble_eq_true rfl⟩ hl rfl rfl (Nat.le_of_ble_eq_true rfl) dX11_fits_2 ⟨Nat.le_of_ble_eq_true rfl, Nat.le_of_ble_eq_true rfl⟩ (fun z26161 F9 H locs hT hz26161 => ?_)
  obtain ⟨fz26161, hz26161⟩ := hz26161
  rw [fz26161] at hT
  obtain ⟨hz26161, iz26161⟩ := hz26161
  refine lv_if_ne (tgt := 14) hx hb dX11_fits_5 (by decide) (fun c26162 => ?_) (fun c26162 => ?_)
  · have w26163 := cv_ne (rfl : z26161.toInt = z26161.toInt) (by decide : (0 : Int32).toInt = 0) c26162
    have w26164 := (fun h => (iz26161 h)) (by omega)
    refine lv_aload_n hx hb dX11_fits_14 rfl (lv_at hl 0 rfl) ?_
    refine lv_aload_n hx hb dX11_fits_15 rfl (lv_at hl 0 rfl) ?_
    refine t_get (C := RX11) (T := TX11) (N := 16) X hT m0 g0 rfl rfl 3 (by decide) qw_18 inlX11 rfl dX11_fits_16 (fun v26165 hv26165 ov26165 => ?_)
    obtain ⟨b26166, rfl, mb26166, gb26166⟩ := okV_r ov26165
    have gb26166 : tag b26166 = 18 := tg_of gb26166
    refine lv_aload_n hx hb dX11_fits_19 rfl (lv_at hl 0 rfl) ?_
    refine t_get (C := RX11) (T := TX11) (N := 16) X hT m0 g0 rfl rfl 5 (by decide) qw_23 inlX11 rfl dX11_fits_20 (fun v26167 hv26167 ov26167 => ?_)
    obtain ⟨b26168, rfl, mb26168, gb26168⟩ := okV_r ov26167
    have gb26168 : tag b26168 = 19 := tg_of gb26168
    refine lv_iload_n hx hb dX11_fits_23 rfl (lv_at hl 1 rfl) ?_
    refine t_cSi (n := 3) (As := [.ref b26166, .ref b26168, .int p1]) (rest := [.ref p0]) X hT (kt31_X6_isFit l G tag L F hT.2.2.2 b26166 b26168 p1 mb26166 gb26166 mb26168 gb26168 (by omega)) qw_904 qw_403 qw_380 qw_404 ⟨by decide +kernel, by decide +kernel, by decide +kernel⟩ ⟨Nat.le_of_ble_eq_true rfl, Nat.le_of_ble_eq_true rfl⟩ hl rfl rfl (Nat.le_of_ble_eq_true rfl) dX11_fits_24 ⟨Nat.le_of_ble_eq_true rfl, Nat.le_of_ble_eq_true rfl⟩ (fun z26169 F9 H locs hT hz26169 => ?_)
    obtain ⟨fz26169, hz26169⟩ := hz26169
    rw [fz26169] at hT
    refine lv_if_eq (tgt := 34) hx hb dX11_fits_27 (by decide) (fun c26170 => ?_) (fun c26170 => ?_)
    · have w26171 := cv_eq (rfl : z26169.toInt = z26169.toInt) (by decide : (0 : Int32).toInt = 0) c26170
      refine lv_iconst (v := 0) hx hb dX11_fits_34 (by decide) ?_
      exact K35 0 p0 _ _ _ _ (by decide) m0 g0 (by omega) hT hfr  (lv_sub hl [0, 1] rfl)
    · have w26172 := cv_ne (rfl : z26169.toInt = z26169.toInt) (by decide : (0 : Int32).toInt = 0) c26170
      refine lv_iconst (v := 1) hx hb dX11_fits_30 (by decide) ?_
      refine lv_goto (tgt := 35) hx hb dX11_fits_31 (by decide) ?_
      exact K35 1 p0 _ _ _ _ (by decide) m0 g0 (by omega) hT hfr  (lv_sub hl [0, 1] rfl)
  · have w26173 := cv_eq (rfl : z26161.toInt = z26161.toInt) (by decide : (0 : Int32).toInt = 0) c26162
    refine lv_aload_n hx hb dX11_fits_8 rfl (lv_at hl 0 rfl) ?_
    refine lv_iconst (v := 1) hx hb dX11_fits_9 (by decide) ?_
    refine t_cVi (n := 1) (C := RX11) (T := TX11) (N := 16) (As := [.int 1]) (rest := []) X hT (kt63_X11_refuse l G tag L F hT.2.2.2 p0 1 m0 g0) m0 g0 rfl rfl qw_152 qw_153 qw_154 qw_2 qw_155 ⟨rfl, by decide +kernel, by decide +kernel, by decide +kernel⟩ ⟨Nat.le_of_ble_eq_true rfl, Nat.le_of_ble_eq_true rfl⟩ hl rfl rfl (Nat.le_of_ble_eq_true rfl) dX11_fits_10 ⟨Nat.le_of_ble_eq_true rfl, Nat.le_of_ble_eq_true rfl⟩ (fun z26174 F H locs hT hz26174 => ?_)
    obtain ⟨hz26174, yz26174⟩ := hz26174
    have hfr : (∀ b j : Nat, (tag b ≠ 26 ∨ j ≠ 13) → fld F b j = fld Fo b j) ∧ EF tag F Fo := ⟨fun b j n26_13 => (yz26174.1 b j n26_13).trans (hfr.1 b j n26_13), fun b j hb => (yz26174.2 b j hb).trans (hfr.2 b j hb)⟩
    exact t_iret hQ X hT (⟨rg_all _, hfr⟩) (Nat.le_of_ble_eq_true rfl) (Nat.le_of_ble_eq_true rfl) dX11_fits_13
set_option maxHeartbeats 4000000 in
set_option maxRecDepth 100000 in
theorem kt81_X11_free (l : Launch) (G : KG) (tag : Nat → Nat) (L : List Nat) (Fo : Nat → va_E) (ho : okT G ttC tag L Fo) (p0 : Nat) (m0 : p0 ∈ L) (g0 : tag p0 = 26) : TMi l yX11_free cX11_free 4 (some .int) { frames := 2, cells := 0, slots := 0, locals := 49 } G ttC tag L Fo [.ref p0] (fun r F1 => ((-2147483648) ≤ r.toInt ∧ r.toInt ≤ 2147483647) ∧ ((∀ b j : Nat, (tag b ≠ 26 ∨ j ≠ 13) → fld F1 b j = fld Fo b j) ∧ EF tag F1 Fo)) := by
  refine t_bodyi (y := yX11_free) (cd := cX11_free) (mL := 4) (rt := (some .int)) (rm := { frames := 2, cells := 0, slots := 0, locals := 49 }) (av := [.ref p0]) (by decide) (Nat.le_of_ble_eq_true rfl) ho ?_
  intro p e s m args below meth c ls A Q hQ X hT hl
  have hx := X.1.1
  have hb := X.1.2.1
  have hl : lv_has ls 4 [(0, .ref p0)] := hl
  obtain ⟨F, hFo⟩ : ∃ F : Nat → va_E, F = Fo := ⟨_, rfl⟩
  rw [← hFo] at hT
  have hfr : (∀ b j : Nat, (tag b ≠ 26 ∨ j ≠ 13) → fld F b j = fld Fo b j) ∧ EF tag F Fo := by
    rw [hFo]
    exact ⟨by intros; rfl, fun _ _ _ => rfl⟩
  have K17 : ∀ (n : Nat) (z27396 : Int32) (z27397 : Int32) (z27398 : Int32) (F : Nat → va_E) (H : Heap) (locs : List Loc) (ls : Array Slot), (12 - z27397.toInt < (n : Int)) → (0 ≤ z27397.toInt ∧ z27397.toInt ≤ 12) → (1 ≤ z27398.toInt ∧ z27398.toInt ≤ 1) → TH G ttC A s tag L F H locs → ((∀ b j : Nat, (tag b ≠ 26 ∨ j ≠ 13) → fld F b j = fld Fo b j) ∧ EF tag F Fo) → fld F p0 2 = .int z27398 → lv_has ls 4 [(0, .ref p0), (1, .int z27396), (2, .int z27397)] → W p l e { frames := 2, cells := 0, slots := 0, locals := 49 } s m args below meth c H locs 0 0 Q (F0 m 17 ls []) := by
    intro n
    induction n with
    | zero =>
      intro z27396 z27397 z27398 F H locs ls hn rz27397 rz27398 hT hfr qz27398 hl
      have rz27396 := rg_all z27396
      exfalso
      omega
    | succ n ih17 =>
      intro z27396 z27397 z27398 F H locs ls hn rz27397 rz27398 hT hfr qz27398 hl
      have rz27396 := rg_all z27396
      have K30 : ∀ (n : Nat) (z27399 : Int32) (z27401 : Int32) (z27402 : Int32) (F : Nat → va_E) (H : Heap) (locs : List Loc) (ls : Array Slot), (12 - z27401.toInt < (n : Int)) → (0 ≤ z27401.toInt ∧ z27401.toInt ≤ 12) → (1 ≤ z27402.toInt ∧ z27402.toInt ≤ 1) → (0 ≤ z27397.toInt ∧ z27397.toInt ≤ 11) → TH G ttC A s tag L F H locs → ((∀ b j : Nat, (tag b ≠ 26 ∨ j ≠ 13) → fld F b j = fld Fo b j) ∧ EF tag F Fo) → fld F p0 2 = .int z27402 → lv_has ls 4 [(0, .ref p0), (1, .int z27399), (2, .int z27397), (3, .int z27401)] → W p l e { frames := 2, cells := 0, slots := 0, locals := 49 } s m args below meth c H locs 0 0 Q (F0 m 30 ls []) := by
        intro n
        induction n with
        | zero =>
          intro z27399 z27401 z27402 F H locs ls hn rz27401 rz27402 r9s27400 hT hfr qz27402 hl
          have rz27399 := rg_all z27399
          exfalso
          omega
        | succ n ih30 =>
          intro z27399 z27401 z27402 F H locs ls hn rz27401 rz27402 r9s27400 hT hfr qz27402 hl
          have rz27399 := rg_all z27399
          have K60 : ∀ (z27403 : Int32) (z27405 : Int32) (F : Nat → va_E) (H : Heap) (locs : List Loc) (ls : Array Slot), (1 ≤ z27405.toInt ∧ z27405.toInt ≤ 1) → (0 ≤ z27401.toInt ∧ z27401.toInt ≤ 11) → TH G ttC A s tag L F H locs → ((∀ b j : Nat, (tag b ≠ 26 ∨ j ≠ 13) → fld F b j = fld Fo b j) ∧ EF tag F Fo) → fld F p0 2 = .int z27405 → lv_has ls 4 [(0, .ref p0), (1, .int z27403), (2, .int z27397), (3, .int z27401)] → W p l e { frames := 2, cells := 0, slots := 0, locals := 49 } s m args below meth c H locs 0 0 Q (F0 m 60 ls []) := by
            intro z27403 z27405 F H locs ls rz27405 r9s27404 hT hfr qz27405 hl
            have rz27403 := rg_all z27403
            obtain ⟨z27406, ez27406⟩ : ∃ y : Int32, y = z27401 + 1 := ⟨_, rfl⟩
            have hz27406 : z27406.toInt = z27401.toInt + 1 := ar_add ez27406 rfl (by decide : (1 : Int32).toInt = 1) (by omega) (by omega)
            refine lv_iinc (v := z27406) (lv' := [(3, .int z27406), (0, .ref p0), (1, .int z27403), (2, .int z27397)]) hx hb dX11_free_60 hl (k := 3) rfl (by rw [ez27406]; rfl) (by decide) rfl (fun ls hl => ?_)
            refine lv_goto (tgt := 30) hx hb dX11_free_63 (by decide) ?_
            exact ih30 z27403 z27406 z27405 _ _ _ _ (by omega) (by omega) (by omega) (by omega) hT hfr qz27405 (lv_sub hl [1, 2, 3, 0] rfl)
          refine lv_iload_n hx hb dX11_free_30 rfl (lv_at hl 3 rfl) ?_
          refine lv_aload_n hx hb dX11_free_31 rfl (lv_at hl 0 rfl) ?_
          refine t_get (C := RX11) (T := TX11) (N := 16) X hT m0 g0 rfl rfl 3 (by decide) qw_18 inlX11 rfl dX11_free_32 (fun v27407 hv27407 ov27407 => ?_)
          obtain ⟨b27408, rfl, mb27408, gb27408⟩ := okV_r ov27407
          have gb27408 : tag b27408 = 18 := tg_of gb27408
          refine t_get (C := RX1) (T := TX1) (N := 20) X hT mb27408 gb27408 rfl rfl 0 (by decide) qw_728 inlX1 rfl dX11_free_35 (fun v27409 hv27409 ov27409 => ?_)
          obtain ⟨z27410, rfl, rz27410⟩ := okV_i ov27409
          refine lv_icmp_ge (tgt := 66) hx hb dX11_free_38 (by decide) (fun c27411 => ?_) (fun c27411 => ?_)
          · have w27412 := cv_le (rfl : z27410.toInt = z27410.toInt) (rfl : z27401.toInt = z27401.toInt) c27411
            obtain ⟨z27413, ez27413⟩ : ∃ y : Int32, y = z27397 + 1 := ⟨_, rfl⟩
            have hz27413 : z27413.toInt = z27397.toInt + 1 := ar_add ez27413 rfl (by decide : (1 : Int32).toInt = 1) (by omega) (by omega)
            refine lv_iinc (v := z27413) (lv' := [(2, .int z27413), (0, .ref p0), (1, .int z27399), (3, .int z27401)]) hx hb dX11_free_66 hl (k := 2) rfl (by rw [ez27413]; rfl) (by decide) rfl (fun ls hl => ?_)
            refine lv_goto (tgt := 17) hx hb dX11_free_69 (by decide) ?_
            exact ih17 z27399 z27413 z27402 _ _ _ _ (by omega) (by omega) (by omega) hT hfr qz27402 (lv_sub hl [1, 2, 0] rfl)
          · have w27414 := cv_nle (rfl : z27410.toInt = z27410.toInt) (rfl : z27401.toInt = z27401.toInt) c27411
            refine lv_aload_n hx hb dX11_free_41 rfl (lv_at hl 0 rfl) ?_
            refine t_get (C := RX11) (T := TX11) (N := 16) X hT m0 g0 rfl rfl 3 (by decide) qw_18 inlX11 rfl dX11_free_42 (fun v27415 hv27415 ov27415 => ?_)
            obtain rfl : v27415 = .ref b27408 := hv27415.symm.trans hv27407
            refine lv_aload_n hx hb dX11_free_45 rfl (lv_at hl 0 rfl) ?_
            refine t_get (C := RX11) (T := TX11) (N := 16) X hT m0 g0 rfl rfl 5 (by decide) qw_23 inlX11 rfl dX11_free_46 (fun v27416 hv27416 ov27416 => ?_)
            obtain ⟨b27417, rfl, mb27417, gb27417⟩ := okV_r ov27416
            have gb27417 : tag b27417 = 19 := tg_of gb27417
            refine lv_iload_n hx hb dX11_free_49 rfl (lv_at hl 3 rfl) ?_
            refine lv_iload_n hx hb dX11_free_50 rfl (lv_at hl 2 rfl) ?_
            refine t_cSi (n := 4) (As := [.ref b27408, .ref b27417, .int z27401, .int z27397]) (rest := []) X hT (kt29_X6_isFree l G tag L F hT.2.2.2 b27408 b27417 z27401 z27397 mb27408 gb27408 mb27417 gb27417) qw_755 qw_379 qw_380 qw_381 ⟨by decide +kernel, by decide +kernel, by decide +kernel⟩ ⟨Nat.le_of_ble_eq_true rfl, Nat.le_of_ble_eq_true rfl⟩ hl rfl rfl (Nat.le_of_ble_eq_true rfl) dX11_free_51 ⟨Nat.le_of_ble_eq_true rfl, Nat.le_of_ble_eq_true rfl⟩ (fun z27418 F9 H locs hT hz27418 => ?_)
            obtain ⟨fz27418, hz27418⟩ := hz27418
            rw [fz27418] at hT
            refine lv_if_eq (tgt := 60) hx hb dX11_free_54 (by decide) (fun c27419 => ?_) (fun c27419 => ?_)
            · have w27420 := cv_eq (rfl : z27418.toInt = z27418.toInt) (by decide : (0 : Int32).toInt = 0) c27419
              exact K60 z27399 z27402 _ _ _ _ (by omega) (by omega) hT hfr qz27402 (lv_sub hl [0, 1, 2, 3] rfl)
            · have w27421 := cv_ne (rfl : z27418.toInt = z27418.toInt) (by decide : (0 : Int32).toInt = 0) c27419
              obtain ⟨z27422, ez27422⟩ : ∃ y : Int32, y = z27399 + 1 := ⟨_, rfl⟩
              have rz27422 := rg_all z27422
              refine lv_iinc (v := z27422) (lv' := [(1, .int z27422), (0, .ref p0), (2, .int z27397), (3, .int z27401)]) hx hb dX11_free_57 hl (k := 1) rfl (by rw [ez27422]; rfl) (by decide) rfl (fun ls hl => ?_)
              exact K60 z27422 z27402 _ _ _ _ (by omega) (by omega) hT hfr qz27402 (lv_sub hl [1, 0, 2, 3] rfl)
      refine lv_iload_n hx hb dX11_free_17 rfl (lv_at hl 2 rfl) ?_
      refine lv_aload_n hx hb dX11_free_18 rfl (lv_at hl 0 rfl) ?_
      refine t_get (C := RX11) (T := TX11) (N := 16) X hT m0 g0 rfl rfl 3 (by decide) qw_18 inlX11 rfl dX11_free_19 (fun v27423 hv27423 ov27423 => ?_)
      obtain ⟨b27424, rfl, mb27424, gb27424⟩ := okV_r ov27423
      have gb27424 : tag b27424 = 18 := tg_of gb27424
      refine t_get (C := RX1) (T := TX1) (N := 20) X hT mb27424 gb27424 rfl rfl 1 (by decide) qw_727 inlX1 rfl dX11_free_22 (fun v27425 hv27425 ov27425 => ?_)
      obtain ⟨z27426, rfl, rz27426⟩ := okV_i ov27425
      refine lv_icmp_ge (tgt := 72) hx hb dX11_free_25 (by decide) (fun c27427 => ?_) (fun c27427 => ?_)
      · have w27428 := cv_le (rfl : z27426.toInt = z27426.toInt) (rfl : z27397.toInt = z27397.toInt) c27427
        refine lv_aload_n hx hb dX11_free_72 rfl (lv_at hl 0 rfl) ?_
        refine lv_iload_n hx hb dX11_free_73 rfl (lv_at hl 1 rfl) ?_
        refine t_cVi (n := 1) (C := RX11) (T := TX11) (N := 16) (As := [.int z27396]) (rest := []) X hT (kt56_X11_answer l G tag L F hT.2.2.2 p0 z27396 m0 g0) m0 g0 rfl rfl qw_463 qw_464 qw_465 qw_2 qw_466 ⟨rfl, by decide +kernel, by decide +kernel, by decide +kernel⟩ ⟨Nat.le_of_ble_eq_true rfl, Nat.le_of_ble_eq_true rfl⟩ hl rfl rfl (Nat.le_of_ble_eq_true rfl) dX11_free_74 ⟨Nat.le_of_ble_eq_true rfl, Nat.le_of_ble_eq_true rfl⟩ (fun z27429 F H locs hT hz27429 => ?_)
        obtain ⟨hz27429, yz27429⟩ := hz27429
        have qz27398 := (yz27429.1 _ 2 (Or.inr (by decide))).trans qz27398
        have hv27423 := (yz27429.1 _ 3 (Or.inr (by decide))).trans hv27423
        have hv27425 := (yz27429.1 _ 1 (Or.inr (by decide))).trans hv27425
        have hfr : (∀ b j : Nat, (tag b ≠ 26 ∨ j ≠ 13) → fld F b j = fld Fo b j) ∧ EF tag F Fo := ⟨fun b j n26_13 => (yz27429.1 b j n26_13).trans (hfr.1 b j n26_13), fun b j hb => (yz27429.2 b j hb).trans (hfr.2 b j hb)⟩
        exact t_iret hQ X hT (⟨rg_all _, hfr⟩) (Nat.le_of_ble_eq_true rfl) (Nat.le_of_ble_eq_true rfl) dX11_free_77
      · have w27430 := cv_nle (rfl : z27426.toInt = z27426.toInt) (rfl : z27397.toInt = z27397.toInt) c27427
        refine lv_iconst (v := 0) hx hb dX11_free_28 (by decide) ?_
        refine lv_istore_n (lv' := [(3, .int 0), (0, .ref p0), (1, .int z27396), (2, .int z27397)]) hx hb dX11_free_29 rfl hl (by decide) rfl (fun ls hl => ?_)
        have kk27431 : (0 : Int32).toInt = 0 := by decide
        exact K30 13 z27396 0 z27398 _ _ _ _ (by omega) (by decide) (by omega) (by omega) hT hfr qz27398 (lv_sub hl [1, 2, 3, 0] rfl)
  refine lv_aload_n hx hb dX11_free_0 rfl (lv_at hl 0 rfl) ?_
  refine t_get (C := RX11) (T := TX11) (N := 16) X hT m0 g0 rfl rfl 2 (by decide) qw_150 inlX11 rfl dX11_free_1 (fun v27432 hv27432 ov27432 => ?_)
  obtain ⟨z27433, rfl, rz27433⟩ := okV_i ov27432
  refine lv_if_ne (tgt := 13) hx hb dX11_free_4 (by decide) (fun c27434 => ?_) (fun c27434 => ?_)
  · have w27435 := cv_ne (rfl : z27433.toInt = z27433.toInt) (by decide : (0 : Int32).toInt = 0) c27434
    refine lv_iconst (v := 0) hx hb dX11_free_13 (by decide) ?_
    refine lv_istore_n (lv' := [(1, .int 0), (0, .ref p0)]) hx hb dX11_free_14 rfl hl (by decide) rfl (fun ls hl => ?_)
    refine lv_iconst (v := 0) hx hb dX11_free_15 (by decide) ?_
    refine lv_istore_n (lv' := [(2, .int 0), (1, .int 0), (0, .ref p0)]) hx hb dX11_free_16 rfl hl (by decide) rfl (fun ls hl => ?_)
    have kk27436 : (0 : Int32).toInt = 0 := by decide
    have kk27437 : (0 : Int32).toInt = 0 := by decide
    exact K17 13 0 0 z27433 _ _ _ _ (by omega) (by decide) (by omega) hT hfr hv27432 (lv_sub hl [2, 1, 0] rfl)
  · have w27438 := cv_eq (rfl : z27433.toInt = z27433.toInt) (by decide : (0 : Int32).toInt = 0) c27434
    refine lv_aload_n hx hb dX11_free_7 rfl (lv_at hl 0 rfl) ?_
    refine lv_iconst (v := 1) hx hb dX11_free_8 (by decide) ?_
    refine t_cVi (n := 1) (C := RX11) (T := TX11) (N := 16) (As := [.int 1]) (rest := []) X hT (kt63_X11_refuse l G tag L F hT.2.2.2 p0 1 m0 g0) m0 g0 rfl rfl qw_152 qw_153 qw_154 qw_2 qw_155 ⟨rfl, by decide +kernel, by decide +kernel, by decide +kernel⟩ ⟨Nat.le_of_ble_eq_true rfl, Nat.le_of_ble_eq_true rfl⟩ hl rfl rfl (Nat.le_of_ble_eq_true rfl) dX11_free_9 ⟨Nat.le_of_ble_eq_true rfl, Nat.le_of_ble_eq_true rfl⟩ (fun z27439 F H locs hT hz27439 => ?_)
    obtain ⟨hz27439, yz27439⟩ := hz27439
    have hv27432 := (yz27439.1 _ 2 (Or.inr (by decide))).trans hv27432
    have hfr : (∀ b j : Nat, (tag b ≠ 26 ∨ j ≠ 13) → fld F b j = fld Fo b j) ∧ EF tag F Fo := ⟨fun b j n26_13 => (yz27439.1 b j n26_13).trans (hfr.1 b j n26_13), fun b j hb => (yz27439.2 b j hb).trans (hfr.2 b j hb)⟩
    exact t_iret hQ X hT (⟨rg_all _, hfr⟩) (Nat.le_of_ble_eq_true rfl) (Nat.le_of_ble_eq_true rfl) dX11_free_12
set_option maxHeartbeats 4000000 in
set_option maxRecDepth 100000 in
theorem kt82_X11_give (l : Launch) (G : KG) (tag : Nat → Nat) (L : List Nat) (Fo : Nat → va_E) (ho : okT G ttC tag L Fo) (p0 : Nat) (p1 : Int32) (p2 : Int32) (p3 : Int32) (m0 : p0 ∈ L) (g0 : tag p0 = 26) : TMi l yX11_give cX11_give 4 (some .boolean) { frames := 3, cells := 0, slots := 0, locals := 66 } G ttC tag L Fo [.ref p0, .int p1, .int p2, .int p3] (fun r F1 => (0 ≤ r.toInt ∧ r.toInt ≤ 1) ∧ ((∀ b j : Nat, (tag b ≠ 19 ∨ j ≠ 0) → (tag b ≠ 19 ∨ j ≠ 1) → (tag b ≠ 23 ∨ j ≠ 2) → (tag b ≠ 23 ∨ j ≠ 3) → (tag b ≠ 26 ∨ j ≠ 13) → fld F1 b j = fld Fo b j) ∧ EF tag F1 Fo)) := by
  refine t_bodyi (y := yX11_give) (cd := cX11_give) (mL := 4) (rt := (some .boolean)) (rm := { frames := 3, cells := 0, slots := 0, locals := 66 }) (av := [.ref p0, .int p1, .int p2, .int p3]) (by decide) (Nat.le_of_ble_eq_true rfl) ho ?_
  intro p e s m args below meth c ls A Q hQ X hT hl
  have hx := X.1.1
  have hb := X.1.2.1
  have hl : lv_has ls 4 [(0, .ref p0), (1, .int p1), (2, .int p2), (3, .int p3)] := hl
  have rp1 := rg_all p1
  have rp2 := rg_all p2
  have rp3 := rg_all p3
  obtain ⟨F, hFo⟩ : ∃ F : Nat → va_E, F = Fo := ⟨_, rfl⟩
  rw [← hFo] at hT
  have hfr : (∀ b j : Nat, (tag b ≠ 19 ∨ j ≠ 0) → (tag b ≠ 19 ∨ j ≠ 1) → (tag b ≠ 23 ∨ j ≠ 2) → (tag b ≠ 23 ∨ j ≠ 3) → (tag b ≠ 26 ∨ j ≠ 13) → fld F b j = fld Fo b j) ∧ EF tag F Fo := by
    rw [hFo]
    exact ⟨by intros; rfl, fun _ _ _ => rfl⟩
  have K21 : ∀  (F : Nat → va_E) (H : Heap) (locs : List Loc) (ls : Array Slot), TH G ttC A s tag L F H locs → ((∀ b j : Nat, (tag b ≠ 19 ∨ j ≠ 0) → (tag b ≠ 19 ∨ j ≠ 1) → (tag b ≠ 23 ∨ j ≠ 2) → (tag b ≠ 23 ∨ j ≠ 3) → (tag b ≠ 26 ∨ j ≠ 13) → fld F b j = fld Fo b j) ∧ EF tag F Fo) → lv_has ls 4 [(0, .ref p0), (1, .int p1), (2, .int p2), (3, .int p3)] → W p l e { frames := 3, cells := 0, slots := 0, locals := 66 } s m args below meth c H locs 0 0 Q (F0 m 21 ls []) := by
    intro F H locs ls hT hfr hl
    refine lv_aload_n hx hb dX11_give_21 rfl (lv_at hl 0 rfl) ?_
    refine lv_iconst (v := 1) hx hb dX11_give_22 (by decide) ?_
    refine t_cVi (n := 1) (C := RX11) (T := TX11) (N := 16) (As := [.int 1]) (rest := []) X hT (kt58_X11_no l G tag L F hT.2.2.2 p0 1 m0 g0) m0 g0 rfl rfl qw_1454 qw_1455 qw_1456 qw_2 qw_1457 ⟨rfl, by decide +kernel, by decide +kernel, by decide +kernel⟩ ⟨Nat.le_of_ble_eq_true rfl, Nat.le_of_ble_eq_true rfl⟩ hl rfl rfl (Nat.le_of_ble_eq_true rfl) dX11_give_23 ⟨Nat.le_of_ble_eq_true rfl, Nat.le_of_ble_eq_true rfl⟩ (fun z27990 F H locs hT hz27990 => ?_)
    obtain ⟨hz27990, yz27990⟩ := hz27990
    have hfr : (∀ b j : Nat, (tag b ≠ 19 ∨ j ≠ 0) → (tag b ≠ 19 ∨ j ≠ 1) → (tag b ≠ 23 ∨ j ≠ 2) → (tag b ≠ 23 ∨ j ≠ 3) → (tag b ≠ 26 ∨ j ≠ 13) → fld F b j = fld Fo b j) ∧ EF tag F Fo := ⟨fun b j n19_0 n19_1 n23_2 n23_3 n26_13 => (yz27990.1 b j n26_13).trans (hfr.1 b j n19_0 n19_1 n23_2 n23_3 n26_13), fun b j hb => (yz27990.2 b j hb).trans (hfr.2 b j hb)⟩
    exact t_zret hQ X hT (nar_z (by omega)) (⟨(by omega), hfr⟩) (Nat.le_of_ble_eq_true rfl) (Nat.le_of_ble_eq_true rfl) dX11_give_26
  have K62 : ∀  (F : Nat → va_E) (H : Heap) (locs : List Loc) (ls : Array Slot), (0 ≤ p1.toInt ∧ p1.toInt ≤ 3) → (0 ≤ p2.toInt ∧ p2.toInt ≤ 3) → TH G ttC A s tag L F H locs → ((∀ b j : Nat, (tag b ≠ 19 ∨ j ≠ 0) → (tag b ≠ 19 ∨ j ≠ 1) → (tag b ≠ 23 ∨ j ≠ 2) → (tag b ≠ 23 ∨ j ≠ 3) → (tag b ≠ 26 ∨ j ≠ 13) → fld F b j = fld Fo b j) ∧ EF tag F Fo) → lv_has ls 4 [(0, .ref p0), (1, .int p1), (2, .int p2), (3, .int p3)] → W p l e { frames := 3, cells := 0, slots := 0, locals := 66 } s m args below meth c H locs 0 0 Q (F0 m 62 ls []) := by
    intro F H locs ls r9s27991 r9s27992 hT hfr hl
    refine lv_aload_n hx hb dX11_give_62 rfl (lv_at hl 0 rfl) ?_
    refine lv_iconst (v := 2) hx hb dX11_give_63 (by decide) ?_
    refine t_cVi (n := 1) (C := RX11) (T := TX11) (N := 16) (As := [.int 2]) (rest := []) X hT (kt58_X11_no l G tag L F hT.2.2.2 p0 2 m0 g0) m0 g0 rfl rfl qw_1454 qw_1455 qw_1456 qw_2 qw_1457 ⟨rfl, by decide +kernel, by decide +kernel, by decide +kernel⟩ ⟨Nat.le_of_ble_eq_true rfl, Nat.le_of_ble_eq_true rfl⟩ hl rfl rfl (Nat.le_of_ble_eq_true rfl) dX11_give_64 ⟨Nat.le_of_ble_eq_true rfl, Nat.le_of_ble_eq_true rfl⟩ (fun z27993 F H locs hT hz27993 => ?_)
    obtain ⟨hz27993, yz27993⟩ := hz27993
    have hfr : (∀ b j : Nat, (tag b ≠ 19 ∨ j ≠ 0) → (tag b ≠ 19 ∨ j ≠ 1) → (tag b ≠ 23 ∨ j ≠ 2) → (tag b ≠ 23 ∨ j ≠ 3) → (tag b ≠ 26 ∨ j ≠ 13) → fld F b j = fld Fo b j) ∧ EF tag F Fo := ⟨fun b j n19_0 n19_1 n23_2 n23_3 n26_13 => (yz27993.1 b j n26_13).trans (hfr.1 b j n19_0 n19_1 n23_2 n23_3 n26_13), fun b j hb => (yz27993.2 b j hb).trans (hfr.2 b j hb)⟩
    exact t_zret hQ X hT (nar_z (by omega)) (⟨(by omega), hfr⟩) (Nat.le_of_ble_eq_true rfl) (Nat.le_of_ble_eq_true rfl) dX11_give_67
  refine lv_aload_n hx hb dX11_give_0 rfl (lv_at hl 0 rfl) ?_
  refine lv_iload_n hx hb dX11_give_1 rfl (lv_at hl 1 rfl) ?_
  refine t_cVi (n := 1) (C := RX11) (T := TX11) (N := 16) (As := [.int p1]) (rest := []) X hT (kt61_X11_isHouse l G tag L F hT.2.2.2 p0 p1 m0 g0) m0 g0 rfl rfl qw_770 qw_771 qw_772 qw_2 qw_773 ⟨rfl, by decide +kernel, by decide +kernel, by decide +kernel⟩ ⟨Nat.le_of_ble_eq_true rfl, Nat.le_of_ble_eq_true rfl⟩ hl rfl rfl (Nat.le_of_ble_eq_true rfl) dX11_give_2 ⟨Nat.le_of_ble_eq_true rfl, Nat.le_of_ble_eq_true rfl⟩ (fun z27994 F9 H locs hT hz27994 => ?_)
  obtain ⟨fz27994, hz27994⟩ := hz27994
  rw [fz27994] at hT
  obtain ⟨hz27994, iz27994⟩ := hz27994
  refine lv_if_eq (tgt := 21) hx hb dX11_give_5 (by decide) (fun c27995 => ?_) (fun c27995 => ?_)
  · have w27996 := cv_eq (rfl : z27994.toInt = z27994.toInt) (by decide : (0 : Int32).toInt = 0) c27995
    exact K21  _ _ _ _  hT hfr  (lv_sub hl [0, 1, 2, 3] rfl)
  · have w27997 := cv_ne (rfl : z27994.toInt = z27994.toInt) (by decide : (0 : Int32).toInt = 0) c27995
    have w27998 := (fun h => (iz27994 h)) (by omega)
    refine lv_aload_n hx hb dX11_give_8 rfl (lv_at hl 0 rfl) ?_
    refine lv_iload_n hx hb dX11_give_9 rfl (lv_at hl 2 rfl) ?_
    refine t_cVi (n := 1) (C := RX11) (T := TX11) (N := 16) (As := [.int p2]) (rest := []) X hT (kt61_X11_isHouse l G tag L F hT.2.2.2 p0 p2 m0 g0) m0 g0 rfl rfl qw_770 qw_771 qw_772 qw_2 qw_773 ⟨rfl, by decide +kernel, by decide +kernel, by decide +kernel⟩ ⟨Nat.le_of_ble_eq_true rfl, Nat.le_of_ble_eq_true rfl⟩ hl rfl rfl (Nat.le_of_ble_eq_true rfl) dX11_give_10 ⟨Nat.le_of_ble_eq_true rfl, Nat.le_of_ble_eq_true rfl⟩ (fun z27999 F9 H locs hT hz27999 => ?_)
    obtain ⟨fz27999, hz27999⟩ := hz27999
    rw [fz27999] at hT
    obtain ⟨hz27999, iz27999⟩ := hz27999
    refine lv_if_eq (tgt := 21) hx hb dX11_give_13 (by decide) (fun c28000 => ?_) (fun c28000 => ?_)
    · have w28001 := cv_eq (rfl : z27999.toInt = z27999.toInt) (by decide : (0 : Int32).toInt = 0) c28000
      exact K21  _ _ _ _  hT hfr  (lv_sub hl [0, 1, 2, 3] rfl)
    · have w28002 := cv_ne (rfl : z27999.toInt = z27999.toInt) (by decide : (0 : Int32).toInt = 0) c28000
      have w28003 := (fun h => (iz27999 h)) (by omega)
      refine lv_iload_n hx hb dX11_give_16 rfl (lv_at hl 1 rfl) ?_
      refine lv_iload_n hx hb dX11_give_17 rfl (lv_at hl 2 rfl) ?_
      refine lv_icmp_ne (tgt := 27) hx hb dX11_give_18 (by decide) (fun c28004 => ?_) (fun c28004 => ?_)
      · have w28005 := cv_ne (rfl : p1.toInt = p1.toInt) (rfl : p2.toInt = p2.toInt) c28004
        refine lv_iload_n hx hb dX11_give_27 rfl (lv_at hl 3 rfl) ?_
        refine lv_iconst (v := 1) hx hb dX11_give_28 (by decide) ?_
        refine lv_icmp_lt (tgt := 62) hx hb dX11_give_29 (by decide) (fun c28006 => ?_) (fun c28006 => ?_)
        · have w28007 := cv_lt (rfl : p3.toInt = p3.toInt) (by decide : (1 : Int32).toInt = 1) c28006
          exact K62  _ _ _ _ (by omega) (by omega) hT hfr  (lv_sub hl [0, 1, 2, 3] rfl)
        · have w28008 := cv_nlt (rfl : p3.toInt = p3.toInt) (by decide : (1 : Int32).toInt = 1) c28006
          refine lv_iload_n hx hb dX11_give_32 rfl (lv_at hl 3 rfl) ?_
          refine lv_aload_n hx hb dX11_give_33 rfl (lv_at hl 0 rfl) ?_
          refine t_get (C := RX11) (T := TX11) (N := 16) X hT m0 g0 rfl rfl 5 (by decide) qw_23 inlX11 rfl dX11_give_34 (fun v28009 hv28009 ov28009 => ?_)
          obtain ⟨b28010, rfl, mb28010, gb28010⟩ := okV_r ov28009
          have gb28010 : tag b28010 = 19 := tg_of gb28010
          refine t_get (C := RX7) (T := TX7) (N := 7) X hT mb28010 gb28010 rfl rfl 4 (by decide) qw_768 inlX7 rfl dX11_give_37 (fun v28011 hv28011 ov28011 => ?_)
          obtain ⟨b28012, rfl, mb28012, gb28012⟩ := okV_r ov28011
          have gb28012 : tag b28012 = 5 := tg_of gb28012
          refine lv_iload_n hx hb dX11_give_40 rfl (lv_at hl 1 rfl) ?_
          refine t_ild X hT mb28012 gb28012 rfl (by omega) dX11_give_41 (fun z28013 vz28013 rz28013 => ?_)
          have rz28013 : (-2147483648) ≤ z28013.toInt ∧ z28013.toInt ≤ 2147483647 := rz28013
          refine lv_icmp_gt (tgt := 62) hx hb dX11_give_42 (by decide) (fun c28014 => ?_) (fun c28014 => ?_)
          · have w28015 := cv_lt (rfl : z28013.toInt = z28013.toInt) (rfl : p3.toInt = p3.toInt) c28014
            exact K62  _ _ _ _ (by omega) (by omega) hT hfr  (lv_sub hl [0, 1, 2, 3] rfl)
          · have w28016 := cv_nlt (rfl : z28013.toInt = z28013.toInt) (rfl : p3.toInt = p3.toInt) c28014
            refine lv_aload_n hx hb dX11_give_45 rfl (lv_at hl 0 rfl) ?_
            refine t_get (C := RX11) (T := TX11) (N := 16) X hT m0 g0 rfl rfl 5 (by decide) qw_23 inlX11 rfl dX11_give_46 (fun v28017 hv28017 ov28017 => ?_)
            obtain rfl : v28017 = .ref b28010 := hv28017.symm.trans hv28009
            refine t_get (C := RX7) (T := TX7) (N := 7) X hT mb28010 gb28010 rfl rfl 4 (by decide) qw_768 inlX7 rfl dX11_give_49 (fun v28018 hv28018 ov28018 => ?_)
            obtain rfl : v28018 = .ref b28012 := hv28018.symm.trans hv28011
            refine lv_iload_n hx hb dX11_give_52 rfl (lv_at hl 2 rfl) ?_
            refine t_ild X hT mb28012 gb28012 rfl (by omega) dX11_give_53 (fun z28019 vz28019 rz28019 => ?_)
            have rz28019 : (-2147483648) ≤ z28019.toInt ∧ z28019.toInt ≤ 2147483647 := rz28019
            refine lv_iload_n hx hb dX11_give_54 rfl (lv_at hl 3 rfl) ?_
            refine lv_iadd hx hb dX11_give_55 ?_
            refine lv_topi (fun z28020 ez28020 => ?_)
            have rz28020 := rg_all z28020
            refine lv_sipush (v := 999) hx hb dX11_give_56 (by decide) ?_
            refine lv_icmp_le (tgt := 68) hx hb dX11_give_59 (by decide) (fun c28021 => ?_) (fun c28021 => ?_)
            · have w28022 := cv_le (rfl : z28020.toInt = z28020.toInt) (by decide : (999 : Int32).toInt = 999) c28021
              refine lv_aload_n hx hb dX11_give_68 rfl (lv_at hl 0 rfl) ?_
              refine t_get (C := RX11) (T := TX11) (N := 16) X hT m0 g0 rfl rfl 12 (by decide) qw_45 inlX11 rfl dX11_give_69 (fun v28023 hv28023 ov28023 => ?_)
              obtain ⟨b28024, rfl, mb28024, gb28024⟩ := okV_r ov28023
              have gb28024 : tag b28024 = 23 := tg_of gb28024
              refine lv_aload_n hx hb dX11_give_72 rfl (lv_at hl 0 rfl) ?_
              refine t_get (C := RX11) (T := TX11) (N := 16) X hT m0 g0 rfl rfl 5 (by decide) qw_23 inlX11 rfl dX11_give_73 (fun v28025 hv28025 ov28025 => ?_)
              obtain rfl : v28025 = .ref b28010 := hv28025.symm.trans hv28009
              refine t_cVv (n := 1) (C := RX2) (T := TX2) (N := 5) (As := [.ref b28010]) (rest := []) X hT (kt66_X2_keep l G tag L F hT.2.2.2 b28024 b28010 mb28024 gb28024 mb28010 gb28010) mb28024 gb28024 rfl rfl qw_1427 qw_1428 qw_1429 qw_44 qw_1430 ⟨rfl, by decide +kernel, by decide +kernel, by decide +kernel⟩ ⟨Nat.le_of_ble_eq_true rfl, Nat.le_of_ble_eq_true rfl⟩ hl rfl rfl (Nat.le_of_ble_eq_true rfl) dX11_give_76 ⟨Nat.le_of_ble_eq_true rfl, Nat.le_of_ble_eq_true rfl⟩ (fun F H locs hT hz28026 => ?_)
              have yz28026 := hz28026
              have hv28009 := (yz28026.1 _ 5 (Or.inr (by decide)) (Or.inr (by decide)) (Or.inr (by decide)) (Or.inr (by decide))).trans hv28009
              have hv28011 := (yz28026.1 _ 4 (Or.inr (by decide)) (Or.inr (by decide)) (Or.inr (by decide)) (Or.inr (by decide))).trans hv28011
              have hv28023 := (yz28026.1 _ 12 (Or.inr (by decide)) (Or.inr (by decide)) (Or.inr (by decide)) (Or.inr (by decide))).trans hv28023
              have hfr : (∀ b j : Nat, (tag b ≠ 19 ∨ j ≠ 0) → (tag b ≠ 19 ∨ j ≠ 1) → (tag b ≠ 23 ∨ j ≠ 2) → (tag b ≠ 23 ∨ j ≠ 3) → (tag b ≠ 26 ∨ j ≠ 13) → fld F b j = fld Fo b j) ∧ EF tag F Fo := ⟨fun b j n19_0 n19_1 n23_2 n23_3 n26_13 => (yz28026.1 b j n19_0 n19_1 n23_2 n23_3).trans (hfr.1 b j n19_0 n19_1 n23_2 n23_3 n26_13), fun b j hb => (yz28026.2 b j hb).trans (hfr.2 b j hb)⟩
              refine lv_aload_n hx hb dX11_give_79 rfl (lv_at hl 0 rfl) ?_
              refine t_get (C := RX11) (T := TX11) (N := 16) X hT m0 g0 rfl rfl 5 (by decide) qw_23 inlX11 rfl dX11_give_80 (fun v28027 hv28027 ov28027 => ?_)
              obtain rfl : v28027 = .ref b28010 := hv28027.symm.trans hv28009
              refine t_get (C := RX7) (T := TX7) (N := 7) X hT mb28010 gb28010 rfl rfl 4 (by decide) qw_768 inlX7 rfl dX11_give_83 (fun v28028 hv28028 ov28028 => ?_)
              obtain rfl : v28028 = .ref b28012 := hv28028.symm.trans hv28011
              refine lv_iload_n hx hb dX11_give_86 rfl (lv_at hl 1 rfl) ?_
              refine lv_dup2_11 hx hb dX11_give_87 rfl rfl ?_
              refine t_ild X hT mb28012 gb28012 rfl (by omega) dX11_give_88 (fun z28029 vz28029 rz28029 => ?_)
              have rz28029 : (-2147483648) ≤ z28029.toInt ∧ z28029.toInt ≤ 2147483647 := rz28029
              refine lv_iload_n hx hb dX11_give_89 rfl (lv_at hl 3 rfl) ?_
              refine lv_isub hx hb dX11_give_90 ?_
              refine lv_topi (fun z28030 ez28030 => ?_)
              have rz28030 := rg_all z28030
              refine t_ist X hT mb28012 gb28012 rfl (by omega) (show (-2147483648) ≤ (z28030 : Int32).toInt ∧ (z28030 : Int32).toInt ≤ 2147483647 from (by omega)) dX11_give_91 (fun F H locs hT v28031 h1v28031 h2v28031 => ?_)
              have hv28009 := (h2v28031 _ _).trans hv28009
              have hv28011 := (h2v28031 _ _).trans hv28011
              have hv28023 := (h2v28031 _ _).trans hv28023
              have hfr : (∀ b j : Nat, (tag b ≠ 19 ∨ j ≠ 0) → (tag b ≠ 19 ∨ j ≠ 1) → (tag b ≠ 23 ∨ j ≠ 2) → (tag b ≠ 23 ∨ j ≠ 3) → (tag b ≠ 26 ∨ j ≠ 13) → fld F b j = fld Fo b j) ∧ EF tag F Fo := ⟨fun b j n19_0 n19_1 n23_2 n23_3 n26_13 => (h2v28031 b j).trans (hfr.1 b j n19_0 n19_1 n23_2 n23_3 n26_13), fun b j hb => (h1v28031 b j (Or.inl (ns_ne hb gb28012 (by decide)))).trans (hfr.2 b j hb)⟩
              refine lv_aload_n hx hb dX11_give_92 rfl (lv_at hl 0 rfl) ?_
              refine t_get (C := RX11) (T := TX11) (N := 16) X hT m0 g0 rfl rfl 5 (by decide) qw_23 inlX11 rfl dX11_give_93 (fun v28032 hv28032 ov28032 => ?_)
              obtain rfl : v28032 = .ref b28010 := hv28032.symm.trans hv28009
              refine t_get (C := RX7) (T := TX7) (N := 7) X hT mb28010 gb28010 rfl rfl 4 (by decide) qw_768 inlX7 rfl dX11_give_96 (fun v28033 hv28033 ov28033 => ?_)
              obtain rfl : v28033 = .ref b28012 := hv28033.symm.trans hv28011
              refine lv_iload_n hx hb dX11_give_99 rfl (lv_at hl 2 rfl) ?_
              refine lv_dup2_11 hx hb dX11_give_100 rfl rfl ?_
              refine t_ild X hT mb28012 gb28012 rfl (by omega) dX11_give_101 (fun z28034 vz28034 rz28034 => ?_)
              have rz28034 : (-2147483648) ≤ z28034.toInt ∧ z28034.toInt ≤ 2147483647 := rz28034
              refine lv_iload_n hx hb dX11_give_102 rfl (lv_at hl 3 rfl) ?_
              refine lv_iadd hx hb dX11_give_103 ?_
              refine lv_topi (fun z28035 ez28035 => ?_)
              have rz28035 := rg_all z28035
              refine t_ist X hT mb28012 gb28012 rfl (by omega) (show (-2147483648) ≤ (z28035 : Int32).toInt ∧ (z28035 : Int32).toInt ≤ 2147483647 from (by omega)) dX11_give_104 (fun F H locs hT v28036 h1v28036 h2v28036 => ?_)
              have hv28009 := (h2v28036 _ _).trans hv28009
              have hv28011 := (h2v28036 _ _).trans hv28011
              have hv28023 := (h2v28036 _ _).trans hv28023
              have hfr : (∀ b j : Nat, (tag b ≠ 19 ∨ j ≠ 0) → (tag b ≠ 19 ∨ j ≠ 1) → (tag b ≠ 23 ∨ j ≠ 2) → (tag b ≠ 23 ∨ j ≠ 3) → (tag b ≠ 26 ∨ j ≠ 13) → fld F b j = fld Fo b j) ∧ EF tag F Fo := ⟨fun b j n19_0 n19_1 n23_2 n23_3 n26_13 => (h2v28036 b j).trans (hfr.1 b j n19_0 n19_1 n23_2 n23_3 n26_13), fun b j hb => (h1v28036 b j (Or.inl (ns_ne hb gb28012 (by decide)))).trans (hfr.2 b j hb)⟩
              refine lv_aload_n hx hb dX11_give_105 rfl (lv_at hl 0 rfl) ?_
              refine t_cVi (n := 0) (C := RX11) (T := TX11) (N := 16) (As := []) (rest := []) X hT (kt59_X11_yes l G tag L F hT.2.2.2 p0 m0 g0) m0 g0 rfl rfl qw_1460 qw_1461 qw_1462 qw_2 qw_1463 ⟨rfl, by decide +kernel, by decide +kernel, by decide +kernel⟩ ⟨Nat.le_of_ble_eq_true rfl, Nat.le_of_ble_eq_true rfl⟩ hl rfl rfl (Nat.le_of_ble_eq_true rfl) dX11_give_106 ⟨Nat.le_of_ble_eq_true rfl, Nat.le_of_ble_eq_true rfl⟩ (fun z28037 F H locs hT hz28037 => ?_)
              obtain ⟨hz28037, yz28037⟩ := hz28037
              have hv28009 := (yz28037.1 _ 5 (Or.inr (by decide))).trans hv28009
              have hv28011 := (yz28037.1 _ 4 (Or.inr (by decide))).trans hv28011
              have hv28023 := (yz28037.1 _ 12 (Or.inr (by decide))).trans hv28023
              have hfr : (∀ b j : Nat, (tag b ≠ 19 ∨ j ≠ 0) → (tag b ≠ 19 ∨ j ≠ 1) → (tag b ≠ 23 ∨ j ≠ 2) → (tag b ≠ 23 ∨ j ≠ 3) → (tag b ≠ 26 ∨ j ≠ 13) → fld F b j = fld Fo b j) ∧ EF tag F Fo := ⟨fun b j n19_0 n19_1 n23_2 n23_3 n26_13 => (yz28037.1 b j n26_13).trans (hfr.1 b j n19_0 n19_1 n23_2 n23_3 n26_13), fun b j hb => (yz28037.2 b j hb).trans (hfr.2 b j hb)⟩
              exact t_zret hQ X hT (nar_z (by omega)) (⟨(by omega), hfr⟩) (Nat.le_of_ble_eq_true rfl) (Nat.le_of_ble_eq_true rfl) dX11_give_109
            · have w28038 := cv_nle (rfl : z28020.toInt = z28020.toInt) (by decide : (999 : Int32).toInt = 999) c28021
              exact K62  _ _ _ _ (by omega) (by omega) hT hfr  (lv_sub hl [0, 1, 2, 3] rfl)
      · have w28039 := cv_eq (rfl : p1.toInt = p1.toInt) (rfl : p2.toInt = p2.toInt) c28004
        exact K21  _ _ _ _  hT hfr  (lv_sub hl [0, 1, 2, 3] rfl)
