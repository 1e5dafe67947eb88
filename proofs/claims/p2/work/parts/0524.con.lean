set_option maxHeartbeats 4000000 in
set_option maxRecDepth 100000 in
theorem kt197_X11_worth (l : Launch) (G : KG) (tag : Nat → Nat) (L : List Nat) (Fo : Nat → va_E) (ho : okT G ttC tag L Fo) (p0 : Nat) (p1 : Int32) (m0 : p0 ∈ L) (g0 : tag p0 = 26) : TMi l yX11_worth cX11_worth 4 (some .int) { frames := 2, cells := 0, slots := 0, locals := 46 } G ttC tag L Fo [.ref p0, .int p1] (fun r F1 => ((-2147483648) ≤ r.toInt ∧ r.toInt ≤ 2147483647) ∧ (∀ b j : Nat, (tag b ≠ 26 ∨ j ≠ 13) → fld F1 b j = fld Fo b j)) := by
  refine t_bodyi (y := yX11_worth) (cd := cX11_worth) (mL := 4) (rt := (some .int)) (rm := { frames := 2, cells := 0, slots := 0, locals := 46 }) (av := [.ref p0, .int p1]) (by decide) (Nat.le_of_ble_eq_true rfl) ho ?_
  intro p e s m args below meth c ls A Q hQ X hT hl
  have hx := X.1.1
  have hb := X.1.2.1
  have hl : lv_has ls 4 [(0, .ref p0), (1, .int p1)] := hl
  have rp1 := rg_all p1
  obtain ⟨F, hFo⟩ : ∃ F : Nat → va_E, F = Fo := ⟨_, rfl⟩
  rw [← hFo] at hT
  have hfr : ∀ b j : Nat, (tag b ≠ 26 ∨ j ≠ 13) → fld F b j = fld Fo b j := by
    rw [hFo]
    intros
    rfl
  have K18 : ∀ (n : Nat) (z70010 : Int32) (z70011 : Int32) (F : Nat → va_E) (H : Heap) (locs : List Loc) (ls : Array Slot), (6 - z70011.toInt < (n : Int)) → (1 ≤ z70011.toInt ∧ z70011.toInt ≤ 6) → (0 ≤ p1.toInt ∧ p1.toInt ≤ 3) → TH G ttC A s tag L F H locs → (∀ b j : Nat, (tag b ≠ 26 ∨ j ≠ 13) → fld F b j = fld Fo b j) → lv_has ls 4 [(0, .ref p0), (1, .int p1), (2, .int z70010), (3, .int z70011)] → W p l e { frames := 2, cells := 0, slots := 0, locals := 46 } s m args below meth c H locs 0 0 Q (F0 m 18 ls []) := by
    intro n
    induction n with
    | zero =>
      intro z70010 z70011 F H locs ls hn rz70011 r9s70009 hT hfr hl
      have rz70010 := rg_all z70010
      exfalso
      omega
    | succ n ih18 =>
      intro z70010 z70011 F H locs ls hn rz70011 r9s70009 hT hfr hl
      have rz70010 := rg_all z70010
      have K67 : ∀ (z70012 : Int32) (F : Nat → va_E) (H : Heap) (locs : List Loc) (ls : Array Slot), (1 ≤ z70011.toInt ∧ z70011.toInt ≤ 5) → TH G ttC A s tag L F H locs → (∀ b j : Nat, (tag b ≠ 26 ∨ j ≠ 13) → fld F b j = fld Fo b j) → lv_has ls 4 [(0, .ref p0), (1, .int p1), (2, .int z70012), (3, .int z70011)] → W p l e { frames := 2, cells := 0, slots := 0, locals := 46 } s m args below meth c H locs 0 0 Q (F0 m 67 ls []) := by
        intro z70012 F H locs ls r9s70013 hT hfr hl
        have rz70012 := rg_all z70012
        obtain ⟨z70014, ez70014⟩ : ∃ y : Int32, y = z70011 + 1 := ⟨_, rfl⟩
        have hz70014 : z70014.toInt = z70011.toInt + 1 := ar_add ez70014 rfl (by decide : (1 : Int32).toInt = 1) (by omega) (by omega)
        refine lv_iinc (v := z70014) (lv' := [(3, .int z70014), (0, .ref p0), (1, .int p1), (2, .int z70012)]) hx hb dX11_worth_67 hl (k := 3) rfl (by rw [ez70014]; rfl) (by decide) rfl (fun ls hl => ?_)
        refine lv_goto (tgt := 18) hx hb dX11_worth_70 (by decide) ?_
        exact ih18 z70012 z70014 _ _ _ _ (by omega) (by omega) (by omega) hT hfr  (lv_sub hl [1, 2, 3, 0] rfl)
      refine lv_iload_n hx hb dX11_worth_18 rfl (lv_at hl 3 rfl) ?_
      refine lv_aload_n hx hb dX11_worth_19 rfl (lv_at hl 0 rfl) ?_
      refine t_get (C := RX11) (T := TX11) (N := 16) X hT m0 g0 rfl rfl 5 (by decide) qw_23 inlX11 rfl dX11_worth_20 (fun v70015 hv70015 ov70015 => ?_)
      obtain ⟨b70016, rfl, mb70016, gb70016⟩ := okV_r ov70015
      have gb70016 : tag b70016 = 19 := tg_of gb70016
      refine t_get (C := RX7) (T := TX7) (N := 7) X hT mb70016 gb70016 rfl rfl 2 (by decide) qw_766 inlX7 rfl dX11_worth_23 (fun v70017 hv70017 ov70017 => ?_)
      obtain ⟨b70018, rfl, mb70018, gb70018⟩ := okV_r ov70017
      have gb70018 : tag b70018 = 8 := tg_of gb70018
      refine lv_iload_n hx hb dX11_worth_26 rfl (lv_at hl 1 rfl) ?_
      refine t_ild X hT mb70018 gb70018 rfl (by omega) dX11_worth_27 (fun z70019 vz70019 rz70019 => ?_)
      have rz70019 : 0 ≤ z70019.toInt ∧ z70019.toInt ≤ 6 := rz70019
      refine lv_icmp_ge (tgt := 73) hx hb dX11_worth_28 (by decide) (fun c70020 => ?_) (fun c70020 => ?_)
      · have w70021 := cv_le (rfl : z70019.toInt = z70019.toInt) (rfl : z70011.toInt = z70011.toInt) c70020
        refine lv_aload_n hx hb dX11_worth_73 rfl (lv_at hl 0 rfl) ?_
        refine lv_iload_n hx hb dX11_worth_74 rfl (lv_at hl 2 rfl) ?_
        refine t_cVi (n := 1) (C := RX11) (T := TX11) (N := 16) (As := [.int z70010]) (rest := []) X hT (kt96_X11_answer l G tag L F hT.2.2.2 p0 z70010 m0 g0) m0 g0 rfl rfl qw_463 qw_464 qw_465 qw_2 qw_466 ⟨rfl, by decide +kernel, by decide +kernel, by decide +kernel⟩ ⟨Nat.le_of_ble_eq_true rfl, Nat.le_of_ble_eq_true rfl⟩ hl rfl rfl (Nat.le_of_ble_eq_true rfl) dX11_worth_75 ⟨Nat.le_of_ble_eq_true rfl, Nat.le_of_ble_eq_true rfl⟩ (fun z70022 F H locs hT hz70022 => ?_)
        obtain ⟨hz70022, yz70022⟩ := hz70022
        have hv70015 := (yz70022 _ 5 (Or.inr (by decide))).trans hv70015
        have hv70017 := (yz70022 _ 2 (Or.inr (by decide))).trans hv70017
        have hfr : ∀ b j : Nat, (tag b ≠ 26 ∨ j ≠ 13) → fld F b j = fld Fo b j := fun b j n26_13 => (yz70022 b j n26_13).trans (hfr b j n26_13)
        exact t_iret hQ X hT (⟨rg_all _, hfr⟩) (Nat.le_of_ble_eq_true rfl) (Nat.le_of_ble_eq_true rfl) dX11_worth_78
      · have w70023 := cv_nle (rfl : z70019.toInt = z70019.toInt) (rfl : z70011.toInt = z70011.toInt) c70020
        refine lv_aload_n hx hb dX11_worth_31 rfl (lv_at hl 0 rfl) ?_
        refine t_get (C := RX11) (T := TX11) (N := 16) X hT m0 g0 rfl rfl 5 (by decide) qw_23 inlX11 rfl dX11_worth_32 (fun v70024 hv70024 ov70024 => ?_)
        obtain rfl : v70024 = .ref b70016 := hv70024.symm.trans hv70015
        refine lv_iload_n hx hb dX11_worth_35 rfl (lv_at hl 1 rfl) ?_
        refine lv_iload_n hx hb dX11_worth_36 rfl (lv_at hl 3 rfl) ?_
        refine t_cVi (n := 2) (C := RX7) (T := TX7) (N := 7) (As := [.int p1, .int z70011]) (rest := []) X hT (kt21_X7_stands l G tag L F hT.2.2.2 b70016 p1 z70011 mb70016 gb70016) mb70016 gb70016 rfl rfl qw_852 qw_853 qw_854 qw_22 qw_855 ⟨rfl, by decide +kernel, by decide +kernel, by decide +kernel⟩ ⟨Nat.le_of_ble_eq_true rfl, Nat.le_of_ble_eq_true rfl⟩ hl rfl rfl (Nat.le_of_ble_eq_true rfl) dX11_worth_37 ⟨Nat.le_of_ble_eq_true rfl, Nat.le_of_ble_eq_true rfl⟩ (fun z70025 F9 H locs hT hz70025 => ?_)
        obtain ⟨fz70025, hz70025⟩ := hz70025
        rw [fz70025] at hT
        refine lv_if_eq (tgt := 67) hx hb dX11_worth_40 (by decide) (fun c70026 => ?_) (fun c70026 => ?_)
        · have w70027 := cv_eq (rfl : z70025.toInt = z70025.toInt) (by decide : (0 : Int32).toInt = 0) c70026
          exact K67 z70010 _ _ _ _ (by omega) hT hfr  (lv_sub hl [0, 1, 2, 3] rfl)
        · have w70028 := cv_ne (rfl : z70025.toInt = z70025.toInt) (by decide : (0 : Int32).toInt = 0) c70026
          refine lv_aload_n hx hb dX11_worth_43 rfl (lv_at hl 0 rfl) ?_
          refine lv_iload_n hx hb dX11_worth_44 rfl (lv_at hl 1 rfl) ?_
          refine lv_iload_n hx hb dX11_worth_45 rfl (lv_at hl 3 rfl) ?_
          refine t_cVi (n := 2) (C := RX11) (T := TX11) (N := 16) (As := [.int p1, .int z70011]) (rest := []) X hT (kt110_X11_isLivedIn l G tag L F hT.2.2.2 p0 p1 z70011 m0 g0) m0 g0 rfl rfl qw_1316 qw_1317 qw_1318 qw_2 qw_1319 ⟨rfl, by decide +kernel, by decide +kernel, by decide +kernel⟩ ⟨Nat.le_of_ble_eq_true rfl, Nat.le_of_ble_eq_true rfl⟩ hl rfl rfl (Nat.le_of_ble_eq_true rfl) dX11_worth_46 ⟨Nat.le_of_ble_eq_true rfl, Nat.le_of_ble_eq_true rfl⟩ (fun z70029 F9 H locs hT hz70029 => ?_)
          obtain ⟨fz70029, hz70029⟩ := hz70029
          rw [fz70029] at hT
          refine lv_if_eq (tgt := 58) hx hb dX11_worth_49 (by decide) (fun c70030 => ?_) (fun c70030 => ?_)
          · have w70031 := cv_eq (rfl : z70029.toInt = z70029.toInt) (by decide : (0 : Int32).toInt = 0) c70030
            refine lv_iload_n hx hb dX11_worth_58 rfl (lv_at hl 2 rfl) ?_
            refine lv_aload_n hx hb dX11_worth_59 rfl (lv_at hl 0 rfl) ?_
            refine lv_iload_n hx hb dX11_worth_60 rfl (lv_at hl 1 rfl) ?_
            refine lv_iload_n hx hb dX11_worth_61 rfl (lv_at hl 3 rfl) ?_
            refine t_cVi (n := 2) (C := RX11) (T := TX11) (N := 16) (As := [.int p1, .int z70011]) (rest := [.int z70010]) X hT (kt184_X11_goldIn l G tag L F hT.2.2.2 p0 p1 z70011 m0 g0) m0 g0 rfl rfl qw_1296 qw_1297 qw_1298 qw_2 qw_1299 ⟨rfl, by decide +kernel, by decide +kernel, by decide +kernel⟩ ⟨Nat.le_of_ble_eq_true rfl, Nat.le_of_ble_eq_true rfl⟩ hl rfl rfl (Nat.le_of_ble_eq_true rfl) dX11_worth_62 ⟨Nat.le_of_ble_eq_true rfl, Nat.le_of_ble_eq_true rfl⟩ (fun z70032 F9 H locs hT hz70032 => ?_)
            obtain ⟨fz70032, hz70032⟩ := hz70032
            rw [fz70032] at hT
            refine lv_iadd hx hb dX11_worth_65 ?_
            refine lv_topi (fun z70033 ez70033 => ?_)
            have rz70033 := rg_all z70033
            refine lv_istore_n (lv' := [(2, .int z70033), (0, .ref p0), (1, .int p1), (3, .int z70011)]) hx hb dX11_worth_66 rfl hl (by decide) rfl (fun ls hl => ?_)
            exact K67 z70033 _ _ _ _ (by omega) hT hfr  (lv_sub hl [1, 2, 0, 3] rfl)
          · have w70034 := cv_ne (rfl : z70029.toInt = z70029.toInt) (by decide : (0 : Int32).toInt = 0) c70030
            refine lv_aload_n hx hb dX11_worth_52 rfl (lv_at hl 0 rfl) ?_
            refine lv_iload_n hx hb dX11_worth_53 rfl (lv_at hl 2 rfl) ?_
            refine t_cVi (n := 1) (C := RX11) (T := TX11) (N := 16) (As := [.int z70010]) (rest := []) X hT (kt96_X11_answer l G tag L F hT.2.2.2 p0 z70010 m0 g0) m0 g0 rfl rfl qw_463 qw_464 qw_465 qw_2 qw_466 ⟨rfl, by decide +kernel, by decide +kernel, by decide +kernel⟩ ⟨Nat.le_of_ble_eq_true rfl, Nat.le_of_ble_eq_true rfl⟩ hl rfl rfl (Nat.le_of_ble_eq_true rfl) dX11_worth_54 ⟨Nat.le_of_ble_eq_true rfl, Nat.le_of_ble_eq_true rfl⟩ (fun z70035 F H locs hT hz70035 => ?_)
            obtain ⟨hz70035, yz70035⟩ := hz70035
            have hv70015 := (yz70035 _ 5 (Or.inr (by decide))).trans hv70015
            have hv70017 := (yz70035 _ 2 (Or.inr (by decide))).trans hv70017
            have hfr : ∀ b j : Nat, (tag b ≠ 26 ∨ j ≠ 13) → fld F b j = fld Fo b j := fun b j n26_13 => (yz70035 b j n26_13).trans (hfr b j n26_13)
            exact t_iret hQ X hT (⟨rg_all _, hfr⟩) (Nat.le_of_ble_eq_true rfl) (Nat.le_of_ble_eq_true rfl) dX11_worth_57
  refine lv_aload_n hx hb dX11_worth_0 rfl (lv_at hl 0 rfl) ?_
  refine lv_iload_n hx hb dX11_worth_1 rfl (lv_at hl 1 rfl) ?_
  refine t_cVi (n := 1) (C := RX11) (T := TX11) (N := 16) (As := [.int p1]) (rest := []) X hT (kt93_X11_isHouse l G tag L F hT.2.2.2 p0 p1 m0 g0) m0 g0 rfl rfl qw_770 qw_771 qw_772 qw_2 qw_773 ⟨rfl, by decide +kernel, by decide +kernel, by decide +kernel⟩ ⟨Nat.le_of_ble_eq_true rfl, Nat.le_of_ble_eq_true rfl⟩ hl rfl rfl (Nat.le_of_ble_eq_true rfl) dX11_worth_2 ⟨Nat.le_of_ble_eq_true rfl, Nat.le_of_ble_eq_true rfl⟩ (fun z70036 F9 H locs hT hz70036 => ?_)
  obtain ⟨fz70036, hz70036⟩ := hz70036
  rw [fz70036] at hT
  obtain ⟨hz70036, iz70036⟩ := hz70036
  refine lv_if_ne (tgt := 14) hx hb dX11_worth_5 (by decide) (fun c70037 => ?_) (fun c70037 => ?_)
  · have w70038 := cv_ne (rfl : z70036.toInt = z70036.toInt) (by decide : (0 : Int32).toInt = 0) c70037
    have w70039 := (fun h => (iz70036 h)) (by omega)
    refine lv_iconst (v := 0) hx hb dX11_worth_14 (by decide) ?_
    refine lv_istore_n (lv' := [(2, .int 0), (0, .ref p0), (1, .int p1)]) hx hb dX11_worth_15 rfl hl (by decide) rfl (fun ls hl => ?_)
    refine lv_iconst (v := 1) hx hb dX11_worth_16 (by decide) ?_
    refine lv_istore_n (lv' := [(3, .int 1), (2, .int 0), (0, .ref p0), (1, .int p1)]) hx hb dX11_worth_17 rfl hl (by decide) rfl (fun ls hl => ?_)
    have kk70040 : (0 : Int32).toInt = 0 := by decide
    have kk70041 : (1 : Int32).toInt = 1 := by decide
    exact K18 6 0 1 _ _ _ _ (by omega) (by decide) (by omega) hT hfr  (lv_sub hl [2, 3, 1, 0] rfl)
  · have w70042 := cv_eq (rfl : z70036.toInt = z70036.toInt) (by decide : (0 : Int32).toInt = 0) c70037
    refine lv_aload_n hx hb dX11_worth_8 rfl (lv_at hl 0 rfl) ?_
    refine lv_iconst (v := 1) hx hb dX11_worth_9 (by decide) ?_
    refine t_cVi (n := 1) (C := RX11) (T := TX11) (N := 16) (As := [.int 1]) (rest := []) X hT (kt97_X11_refuse l G tag L F hT.2.2.2 p0 1 m0 g0) m0 g0 rfl rfl qw_152 qw_153 qw_154 qw_2 qw_155 ⟨rfl, by decide +kernel, by decide +kernel, by decide +kernel⟩ ⟨Nat.le_of_ble_eq_true rfl, Nat.le_of_ble_eq_true rfl⟩ hl rfl rfl (Nat.le_of_ble_eq_true rfl) dX11_worth_10 ⟨Nat.le_of_ble_eq_true rfl, Nat.le_of_ble_eq_true rfl⟩ (fun z70043 F H locs hT hz70043 => ?_)
    obtain ⟨hz70043, yz70043⟩ := hz70043
    have hfr : ∀ b j : Nat, (tag b ≠ 26 ∨ j ≠ 13) → fld F b j = fld Fo b j := fun b j n26_13 => (yz70043 b j n26_13).trans (hfr b j n26_13)
    exact t_iret hQ X hT (⟨rg_all _, hfr⟩) (Nat.le_of_ble_eq_true rfl) (Nat.le_of_ble_eq_true rfl) dX11_worth_13
set_option maxHeartbeats 4000000 in
set_option maxRecDepth 100000 in
theorem kt198_X11_years (l : Launch) (G : KG) (tag : Nat → Nat) (L : List Nat) (Fo : Nat → va_E) (ho : okT G ttC tag L Fo) (p0 : Nat) (p1 : Int32) (m0 : p0 ∈ L) (g0 : tag p0 = 26) : TMi l yX11_years cX11_years 3 (some .int) { frames := 6, cells := 0, slots := 0, locals := 157 } G ttC tag L Fo [.ref p0, .int p1] (fun r F1 => ((-2147483648) ≤ r.toInt ∧ r.toInt ≤ 2147483647) ∧ (∀ b j : Nat, (tag b ≠ 19 ∨ j ≠ 0) → (tag b ≠ 19 ∨ j ≠ 1) → (tag b ≠ 23 ∨ j ≠ 2) → (tag b ≠ 23 ∨ j ≠ 3) → (tag b ≠ 26 ∨ j ≠ 13) → fld F1 b j = fld Fo b j)) := by
  refine t_bodyi (y := yX11_years) (cd := cX11_years) (mL := 3) (rt := (some .int)) (rm := { frames := 6, cells := 0, slots := 0, locals := 157 }) (av := [.ref p0, .int p1]) (by decide) (Nat.le_of_ble_eq_true rfl) ho ?_
  intro p e s m args below meth c ls A Q hQ X hT hl
  have hx := X.1.1
  have hb := X.1.2.1
  have hl : lv_has ls 3 [(0, .ref p0), (1, .int p1)] := hl
  have rp1 := rg_all p1
  obtain ⟨F, hFo⟩ : ∃ F : Nat → va_E, F = Fo := ⟨_, rfl⟩
  rw [← hFo] at hT
  have hfr : ∀ b j : Nat, (tag b ≠ 19 ∨ j ≠ 0) → (tag b ≠ 19 ∨ j ≠ 1) → (tag b ≠ 23 ∨ j ≠ 2) → (tag b ≠ 23 ∨ j ≠ 3) → (tag b ≠ 26 ∨ j ≠ 13) → fld F b j = fld Fo b j := by
    rw [hFo]
    intros
    rfl
  have K24 : ∀ (z70699 : Int32) (F : Nat → va_E) (H : Heap) (locs : List Loc) (ls : Array Slot), (1 ≤ z70699.toInt ∧ z70699.toInt ≤ 1) → TH G ttC A s tag L F H locs → (∀ b j : Nat, (tag b ≠ 19 ∨ j ≠ 0) → (tag b ≠ 19 ∨ j ≠ 1) → (tag b ≠ 23 ∨ j ≠ 2) → (tag b ≠ 23 ∨ j ≠ 3) → (tag b ≠ 26 ∨ j ≠ 13) → fld F b j = fld Fo b j) → fld F p0 2 = .int z70699 → lv_has ls 3 [(0, .ref p0), (1, .int p1)] → W p l e { frames := 6, cells := 0, slots := 0, locals := 157 } s m args below meth c H locs 0 0 Q (F0 m 24 ls []) := by
    intro z70699 F H locs ls rz70699 hT hfr qz70699 hl
    refine lv_aload_n hx hb dX11_years_24 rfl (lv_at hl 0 rfl) ?_
    refine lv_iconst (v := 2) hx hb dX11_years_25 (by decide) ?_
    refine t_cVi (n := 1) (C := RX11) (T := TX11) (N := 16) (As := [.int 2]) (rest := []) X hT (kt97_X11_refuse l G tag L F hT.2.2.2 p0 2 m0 g0) m0 g0 rfl rfl qw_152 qw_153 qw_154 qw_2 qw_155 ⟨rfl, by decide +kernel, by decide +kernel, by decide +kernel⟩ ⟨Nat.le_of_ble_eq_true rfl, Nat.le_of_ble_eq_true rfl⟩ hl rfl rfl (Nat.le_of_ble_eq_true rfl) dX11_years_26 ⟨Nat.le_of_ble_eq_true rfl, Nat.le_of_ble_eq_true rfl⟩ (fun z70700 F H locs hT hz70700 => ?_)
    obtain ⟨hz70700, yz70700⟩ := hz70700
    have qz70699 := (yz70700 _ 2 (Or.inr (by decide))).trans qz70699
    have hfr : ∀ b j : Nat, (tag b ≠ 19 ∨ j ≠ 0) → (tag b ≠ 19 ∨ j ≠ 1) → (tag b ≠ 23 ∨ j ≠ 2) → (tag b ≠ 23 ∨ j ≠ 3) → (tag b ≠ 26 ∨ j ≠ 13) → fld F b j = fld Fo b j := fun b j n19_0 n19_1 n23_2 n23_3 n26_13 => (yz70700 b j n26_13).trans (hfr b j n19_0 n19_1 n23_2 n23_3 n26_13)
    exact t_iret hQ X hT (⟨rg_all _, hfr⟩) (Nat.le_of_ble_eq_true rfl) (Nat.le_of_ble_eq_true rfl) dX11_years_29
  have K64 : ∀ (n : Nat) (z70702 : Int32) (z70703 : Int32) (F : Nat → va_E) (H : Heap) (locs : List Loc) (ls : Array Slot), (20 - z70702.toInt < (n : Int)) → (0 ≤ z70702.toInt ∧ z70702.toInt ≤ 20) → (1 ≤ z70703.toInt ∧ z70703.toInt ≤ 1) → (1 ≤ p1.toInt ∧ p1.toInt ≤ 20) → TH G ttC A s tag L F H locs → (∀ b j : Nat, (tag b ≠ 19 ∨ j ≠ 0) → (tag b ≠ 19 ∨ j ≠ 1) → (tag b ≠ 23 ∨ j ≠ 2) → (tag b ≠ 23 ∨ j ≠ 3) → (tag b ≠ 26 ∨ j ≠ 13) → fld F b j = fld Fo b j) → fld F p0 2 = .int z70703 → lv_has ls 3 [(0, .ref p0), (1, .int p1), (2, .int z70702)] → W p l e { frames := 6, cells := 0, slots := 0, locals := 157 } s m args below meth c H locs 0 0 Q (F0 m 64 ls []) := by
    intro n
    induction n with
    | zero =>
      intro z70702 z70703 F H locs ls hn rz70702 rz70703 r9s70701 hT hfr qz70703 hl
      exfalso
      omega
    | succ n ih64 =>
      intro z70702 z70703 F H locs ls hn rz70702 rz70703 r9s70701 hT hfr qz70703 hl
      refine lv_iload_n hx hb dX11_years_64 rfl (lv_at hl 2 rfl) ?_
      refine lv_iload_n hx hb dX11_years_65 rfl (lv_at hl 1 rfl) ?_
      refine lv_icmp_ge (tgt := 89) hx hb dX11_years_66 (by decide) (fun c70704 => ?_) (fun c70704 => ?_)
      · have w70705 := cv_le (rfl : p1.toInt = p1.toInt) (rfl : z70702.toInt = z70702.toInt) c70704
        refine lv_aload_n hx hb dX11_years_89 rfl (lv_at hl 0 rfl) ?_
        refine lv_aload_n hx hb dX11_years_90 rfl (lv_at hl 0 rfl) ?_
        refine t_get (C := RX11) (T := TX11) (N := 16) X hT m0 g0 rfl rfl 5 (by decide) qw_23 inlX11 rfl dX11_years_91 (fun v70706 hv70706 ov70706 => ?_)
        obtain ⟨b70707, rfl, mb70707, gb70707⟩ := okV_r ov70706
        have gb70707 : tag b70707 = 19 := tg_of gb70707
        refine t_cVi (n := 0) (C := RX7) (T := TX7) (N := 7) (As := []) (rest := [.ref p0]) X hT (kt78_X7_skinsOfAll l G tag L F hT.2.2.2 b70707 mb70707 gb70707) mb70707 gb70707 rfl rfl qw_1182 qw_1183 qw_1184 qw_22 qw_1185 ⟨rfl, by decide +kernel, by decide +kernel, by decide +kernel⟩ ⟨Nat.le_of_ble_eq_true rfl, Nat.le_of_ble_eq_true rfl⟩ hl rfl rfl (Nat.le_of_ble_eq_true rfl) dX11_years_94 ⟨Nat.le_of_ble_eq_true rfl, Nat.le_of_ble_eq_true rfl⟩ (fun z70708 F9 H locs hT hz70708 => ?_)
        obtain ⟨fz70708, hz70708⟩ := hz70708
        rw [fz70708] at hT
        refine t_cVi (n := 1) (C := RX11) (T := TX11) (N := 16) (As := [.int z70708]) (rest := []) X hT (kt96_X11_answer l G tag L F hT.2.2.2 p0 z70708 m0 g0) m0 g0 rfl rfl qw_463 qw_464 qw_465 qw_2 qw_466 ⟨rfl, by decide +kernel, by decide +kernel, by decide +kernel⟩ ⟨Nat.le_of_ble_eq_true rfl, Nat.le_of_ble_eq_true rfl⟩ hl rfl rfl (Nat.le_of_ble_eq_true rfl) dX11_years_97 ⟨Nat.le_of_ble_eq_true rfl, Nat.le_of_ble_eq_true rfl⟩ (fun z70709 F H locs hT hz70709 => ?_)
        obtain ⟨hz70709, yz70709⟩ := hz70709
        have qz70703 := (yz70709 _ 2 (Or.inr (by decide))).trans qz70703
        have hv70706 := (yz70709 _ 5 (Or.inr (by decide))).trans hv70706
        have hfr : ∀ b j : Nat, (tag b ≠ 19 ∨ j ≠ 0) → (tag b ≠ 19 ∨ j ≠ 1) → (tag b ≠ 23 ∨ j ≠ 2) → (tag b ≠ 23 ∨ j ≠ 3) → (tag b ≠ 26 ∨ j ≠ 13) → fld F b j = fld Fo b j := fun b j n19_0 n19_1 n23_2 n23_3 n26_13 => (yz70709 b j n26_13).trans (hfr b j n19_0 n19_1 n23_2 n23_3 n26_13)
        exact t_iret hQ X hT (⟨rg_all _, hfr⟩) (Nat.le_of_ble_eq_true rfl) (Nat.le_of_ble_eq_true rfl) dX11_years_100
      · have w70710 := cv_nle (rfl : p1.toInt = p1.toInt) (rfl : z70702.toInt = z70702.toInt) c70704
        refine lv_aload_n hx hb dX11_years_69 rfl (lv_at hl 0 rfl) ?_
        refine t_get (C := RX11) (T := TX11) (N := 16) X hT m0 g0 rfl rfl 3 (by decide) qw_18 inlX11 rfl dX11_years_70 (fun v70711 hv70711 ov70711 => ?_)
        obtain ⟨b70712, rfl, mb70712, gb70712⟩ := okV_r ov70711
        have gb70712 : tag b70712 = 18 := tg_of gb70712
        refine lv_aload_n hx hb dX11_years_73 rfl (lv_at hl 0 rfl) ?_
        refine t_get (C := RX11) (T := TX11) (N := 16) X hT m0 g0 rfl rfl 5 (by decide) qw_23 inlX11 rfl dX11_years_74 (fun v70713 hv70713 ov70713 => ?_)
        obtain ⟨b70714, rfl, mb70714, gb70714⟩ := okV_r ov70713
        have gb70714 : tag b70714 = 19 := tg_of gb70714
        refine t_gets X hT X.2.2.2.1.2.2.2.2 qw_1096 dX11_years_77 ?_
        refine t_cSv (n := 3) (As := [.ref b70712, .ref b70714, .ref (G.2 13)]) (rest := []) X hT (kt105_X10_pass l G tag L F hT.2.2.2 b70712 b70714 mb70712 gb70712 mb70714 gb70714) qw_1097 qw_1098 qw_32 qw_1099 ⟨by decide +kernel, by decide +kernel, by decide +kernel⟩ ⟨Nat.le_of_ble_eq_true rfl, Nat.le_of_ble_eq_true rfl⟩ hl rfl rfl (Nat.le_of_ble_eq_true rfl) dX11_years_80 ⟨Nat.le_of_ble_eq_true rfl, Nat.le_of_ble_eq_true rfl⟩ (fun F H locs hT hz70715 => ?_)
        have yz70715 := hz70715
        have qz70703 := (yz70715 _ 2 (Or.inr (by decide)) (Or.inr (by decide))).trans qz70703
        have hv70711 := (yz70715 _ 3 (Or.inr (by decide)) (Or.inr (by decide))).trans hv70711
        have hv70713 := (yz70715 _ 5 (Or.inr (by decide)) (Or.inr (by decide))).trans hv70713
        have hfr : ∀ b j : Nat, (tag b ≠ 19 ∨ j ≠ 0) → (tag b ≠ 19 ∨ j ≠ 1) → (tag b ≠ 23 ∨ j ≠ 2) → (tag b ≠ 23 ∨ j ≠ 3) → (tag b ≠ 26 ∨ j ≠ 13) → fld F b j = fld Fo b j := fun b j n19_0 n19_1 n23_2 n23_3 n26_13 => (yz70715 b j n19_0 n19_1).trans (hfr b j n19_0 n19_1 n23_2 n23_3 n26_13)
        obtain ⟨z70716, ez70716⟩ : ∃ y : Int32, y = z70702 + 1 := ⟨_, rfl⟩
        have hz70716 : z70716.toInt = z70702.toInt + 1 := ar_add ez70716 rfl (by decide : (1 : Int32).toInt = 1) (by omega) (by omega)
        refine lv_iinc (v := z70716) (lv' := [(2, .int z70716), (0, .ref p0), (1, .int p1)]) hx hb dX11_years_83 hl (k := 2) rfl (by rw [ez70716]; rfl) (by decide) rfl (fun ls hl => ?_)
        refine lv_goto (tgt := 64) hx hb dX11_years_86 (by decide) ?_
        exact ih64 z70716 z70703 _ _ _ _ (by omega) (by omega) (by omega) (by omega) hT hfr qz70703 (lv_sub hl [1, 2, 0] rfl)
  refine lv_aload_n hx hb dX11_years_0 rfl (lv_at hl 0 rfl) ?_
  refine t_get (C := RX11) (T := TX11) (N := 16) X hT m0 g0 rfl rfl 2 (by decide) qw_150 inlX11 rfl dX11_years_1 (fun v70717 hv70717 ov70717 => ?_)
  obtain ⟨z70718, rfl, rz70718⟩ := okV_i ov70717
  refine lv_if_ne (tgt := 13) hx hb dX11_years_4 (by decide) (fun c70719 => ?_) (fun c70719 => ?_)
  · have w70720 := cv_ne (rfl : z70718.toInt = z70718.toInt) (by decide : (0 : Int32).toInt = 0) c70719
    refine lv_iload_n hx hb dX11_years_13 rfl (lv_at hl 1 rfl) ?_
    refine lv_iconst (v := 1) hx hb dX11_years_14 (by decide) ?_
    refine lv_icmp_lt (tgt := 24) hx hb dX11_years_15 (by decide) (fun c70721 => ?_) (fun c70721 => ?_)
    · have w70722 := cv_lt (rfl : p1.toInt = p1.toInt) (by decide : (1 : Int32).toInt = 1) c70721
      exact K24 z70718 _ _ _ _ (by omega) hT hfr hv70717 (lv_sub hl [0, 1] rfl)
    · have w70723 := cv_nlt (rfl : p1.toInt = p1.toInt) (by decide : (1 : Int32).toInt = 1) c70721
      refine lv_iload_n hx hb dX11_years_18 rfl (lv_at hl 1 rfl) ?_
      refine lv_bipush (v := 20) hx hb dX11_years_19 (by decide) ?_
      refine lv_icmp_le (tgt := 30) hx hb dX11_years_21 (by decide) (fun c70724 => ?_) (fun c70724 => ?_)
      · have w70725 := cv_le (rfl : p1.toInt = p1.toInt) (by decide : (20 : Int32).toInt = 20) c70724
        refine lv_aload_n hx hb dX11_years_30 rfl (lv_at hl 0 rfl) ?_
        refine t_get (C := RX11) (T := TX11) (N := 16) X hT m0 g0 rfl rfl 5 (by decide) qw_23 inlX11 rfl dX11_years_31 (fun v70726 hv70726 ov70726 => ?_)
        obtain ⟨b70727, rfl, mb70727, gb70727⟩ := okV_r ov70726
        have gb70727 : tag b70727 = 19 := tg_of gb70727
        refine t_get (C := RX7) (T := TX7) (N := 7) X hT mb70727 gb70727 rfl rfl 0 (by decide) qw_1225 inlX7 rfl dX11_years_34 (fun v70728 hv70728 ov70728 => ?_)
        obtain ⟨z70729, rfl, rz70729⟩ := okV_i ov70728
        refine lv_iload_n hx hb dX11_years_37 rfl (lv_at hl 1 rfl) ?_
        refine lv_iadd hx hb dX11_years_38 ?_
        refine lv_topi (fun z70730 ez70730 => ?_)
        have rz70730 := rg_all z70730
        refine lv_sipush (v := 999) hx hb dX11_years_39 (by decide) ?_
        refine lv_icmp_le (tgt := 51) hx hb dX11_years_42 (by decide) (fun c70731 => ?_) (fun c70731 => ?_)
        · have w70732 := cv_le (rfl : z70730.toInt = z70730.toInt) (by decide : (999 : Int32).toInt = 999) c70731
          refine lv_aload_n hx hb dX11_years_51 rfl (lv_at hl 0 rfl) ?_
          refine t_get (C := RX11) (T := TX11) (N := 16) X hT m0 g0 rfl rfl 12 (by decide) qw_45 inlX11 rfl dX11_years_52 (fun v70733 hv70733 ov70733 => ?_)
          obtain ⟨b70734, rfl, mb70734, gb70734⟩ := okV_r ov70733
          have gb70734 : tag b70734 = 23 := tg_of gb70734
          refine lv_aload_n hx hb dX11_years_55 rfl (lv_at hl 0 rfl) ?_
          refine t_get (C := RX11) (T := TX11) (N := 16) X hT m0 g0 rfl rfl 5 (by decide) qw_23 inlX11 rfl dX11_years_56 (fun v70735 hv70735 ov70735 => ?_)
          obtain rfl : v70735 = .ref b70727 := hv70735.symm.trans hv70726
          refine t_cVv (n := 1) (C := RX2) (T := TX2) (N := 5) (As := [.ref b70727]) (rest := []) X hT (kt100_X2_keep l G tag L F hT.2.2.2 b70734 b70727 mb70734 gb70734 mb70727 gb70727) mb70734 gb70734 rfl rfl qw_1427 qw_1428 qw_1429 qw_44 qw_1430 ⟨rfl, by decide +kernel, by decide +kernel, by decide +kernel⟩ ⟨Nat.le_of_ble_eq_true rfl, Nat.le_of_ble_eq_true rfl⟩ hl rfl rfl (Nat.le_of_ble_eq_true rfl) dX11_years_59 ⟨Nat.le_of_ble_eq_true rfl, Nat.le_of_ble_eq_true rfl⟩ (fun F H locs hT hz70736 => ?_)
          have yz70736 := hz70736
          have hv70717 := (yz70736 _ 2 (Or.inr (by decide)) (Or.inr (by decide)) (Or.inl (by rw [g0]; decide)) (Or.inr (by decide))).trans hv70717
          have hv70726 := (yz70736 _ 5 (Or.inr (by decide)) (Or.inr (by decide)) (Or.inr (by decide)) (Or.inr (by decide))).trans hv70726
          have hv70733 := (yz70736 _ 12 (Or.inr (by decide)) (Or.inr (by decide)) (Or.inr (by decide)) (Or.inr (by decide))).trans hv70733
          have hfr : ∀ b j : Nat, (tag b ≠ 19 ∨ j ≠ 0) → (tag b ≠ 19 ∨ j ≠ 1) → (tag b ≠ 23 ∨ j ≠ 2) → (tag b ≠ 23 ∨ j ≠ 3) → (tag b ≠ 26 ∨ j ≠ 13) → fld F b j = fld Fo b j := fun b j n19_0 n19_1 n23_2 n23_3 n26_13 => (yz70736 b j n19_0 n19_1 n23_2 n23_3).trans (hfr b j n19_0 n19_1 n23_2 n23_3 n26_13)
          refine lv_iconst (v := 0) hx hb dX11_years_62 (by decide) ?_
          refine lv_istore_n (lv' := [(2, .int 0), (0, .ref p0), (1, .int p1)]) hx hb dX11_years_63 rfl hl (by decide) rfl (fun ls hl => ?_)
          have kk70737 : (0 : Int32).toInt = 0 := by decide
          exact K64 21 0 z70718 _ _ _ _ (by omega) (by decide) (by omega) (by omega) hT hfr hv70717 (lv_sub hl [1, 2, 0] rfl)
        · have w70738 := cv_nle (rfl : z70730.toInt = z70730.toInt) (by decide : (999 : Int32).toInt = 999) c70731
          refine lv_aload_n hx hb dX11_years_45 rfl (lv_at hl 0 rfl) ?_
          refine lv_iconst (v := 3) hx hb dX11_years_46 (by decide) ?_
          refine t_cVi (n := 1) (C := RX11) (T := TX11) (N := 16) (As := [.int 3]) (rest := []) X hT (kt97_X11_refuse l G tag L F hT.2.2.2 p0 3 m0 g0) m0 g0 rfl rfl qw_152 qw_153 qw_154 qw_2 qw_155 ⟨rfl, by decide +kernel, by decide +kernel, by decide +kernel⟩ ⟨Nat.le_of_ble_eq_true rfl, Nat.le_of_ble_eq_true rfl⟩ hl rfl rfl (Nat.le_of_ble_eq_true rfl) dX11_years_47 ⟨Nat.le_of_ble_eq_true rfl, Nat.le_of_ble_eq_true rfl⟩ (fun z70739 F H locs hT hz70739 => ?_)
          obtain ⟨hz70739, yz70739⟩ := hz70739
          have hv70717 := (yz70739 _ 2 (Or.inr (by decide))).trans hv70717
          have hv70726 := (yz70739 _ 5 (Or.inr (by decide))).trans hv70726
          have hv70728 := (yz70739 _ 0 (Or.inr (by decide))).trans hv70728
          have hfr : ∀ b j : Nat, (tag b ≠ 19 ∨ j ≠ 0) → (tag b ≠ 19 ∨ j ≠ 1) → (tag b ≠ 23 ∨ j ≠ 2) → (tag b ≠ 23 ∨ j ≠ 3) → (tag b ≠ 26 ∨ j ≠ 13) → fld F b j = fld Fo b j := fun b j n19_0 n19_1 n23_2 n23_3 n26_13 => (yz70739 b j n26_13).trans (hfr b j n19_0 n19_1 n23_2 n23_3 n26_13)
          exact t_iret hQ X hT (⟨rg_all _, hfr⟩) (Nat.le_of_ble_eq_true rfl) (Nat.le_of_ble_eq_true rfl) dX11_years_50
      · have w70740 := cv_nle (rfl : p1.toInt = p1.toInt) (by decide : (20 : Int32).toInt = 20) c70724
        exact K24 z70718 _ _ _ _ (by omega) hT hfr hv70717 (lv_sub hl [0, 1] rfl)
  · have w70741 := cv_eq (rfl : z70718.toInt = z70718.toInt) (by decide : (0 : Int32).toInt = 0) c70719
    refine lv_aload_n hx hb dX11_years_7 rfl (lv_at hl 0 rfl) ?_
    refine lv_iconst (v := 1) hx hb dX11_years_8 (by decide) ?_
    refine t_cVi (n := 1) (C := RX11) (T := TX11) (N := 16) (As := [.int 1]) (rest := []) X hT (kt97_X11_refuse l G tag L F hT.2.2.2 p0 1 m0 g0) m0 g0 rfl rfl qw_152 qw_153 qw_154 qw_2 qw_155 ⟨rfl, by decide +kernel, by decide +kernel, by decide +kernel⟩ ⟨Nat.le_of_ble_eq_true rfl, Nat.le_of_ble_eq_true rfl⟩ hl rfl rfl (Nat.le_of_ble_eq_true rfl) dX11_years_9 ⟨Nat.le_of_ble_eq_true rfl, Nat.le_of_ble_eq_true rfl⟩ (fun z70742 F H locs hT hz70742 => ?_)
    obtain ⟨hz70742, yz70742⟩ := hz70742
    have hv70717 := (yz70742 _ 2 (Or.inr (by decide))).trans hv70717
    have hfr : ∀ b j : Nat, (tag b ≠ 19 ∨ j ≠ 0) → (tag b ≠ 19 ∨ j ≠ 1) → (tag b ≠ 23 ∨ j ≠ 2) → (tag b ≠ 23 ∨ j ≠ 3) → (tag b ≠ 26 ∨ j ≠ 13) → fld F b j = fld Fo b j := fun b j n19_0 n19_1 n23_2 n23_3 n26_13 => (yz70742 b j n26_13).trans (hfr b j n19_0 n19_1 n23_2 n23_3 n26_13)
    exact t_iret hQ X hT (⟨rg_all _, hfr⟩) (Nat.le_of_ble_eq_true rfl) (Nat.le_of_ble_eq_true rfl) dX11_years_12
set_option maxHeartbeats 4000000 in
set_option maxRecDepth 100000 in
theorem kt199_X11_yes (l : Launch) (G : KG) (tag : Nat → Nat) (L : List Nat) (Fo : Nat → va_E) (ho : okT G ttC tag L Fo) (p0 : Nat) (m0 : p0 ∈ L) (g0 : tag p0 = 26) : TMi l yX11_yes cX11_yes 1 (some .boolean) { frames := 0, cells := 0, slots := 0, locals := 0 } G ttC tag L Fo [.ref p0] (fun r F1 => (1 ≤ r.toInt ∧ r.toInt ≤ 1) ∧ (∀ b j : Nat, (tag b ≠ 26 ∨ j ≠ 13) → fld F1 b j = fld Fo b j)) := by
  refine t_bodyi (y := yX11_yes) (cd := cX11_yes) (mL := 1) (rt := (some .boolean)) (rm := { frames := 0, cells := 0, slots := 0, locals := 0 }) (av := [.ref p0]) (by decide) (Nat.le_of_ble_eq_true rfl) ho ?_
  intro p e s m args below meth c ls A Q hQ X hT hl
  have hx := X.1.1
  have hb := X.1.2.1
  have hl : lv_has ls 1 [(0, .ref p0)] := hl
  obtain ⟨F, hFo⟩ : ∃ F : Nat → va_E, F = Fo := ⟨_, rfl⟩
  rw [← hFo] at hT
  have hfr : ∀ b j : Nat, (tag b ≠ 26 ∨ j ≠ 13) → fld F b j = fld Fo b j := by
    rw [hFo]
    intros
    rfl
  refine lv_aload_n hx hb dX11_yes_0 rfl (lv_at hl 0 rfl) ?_
  refine lv_iconst (v := 0) hx hb dX11_yes_1 (by decide) ?_
  refine t_put (C := RX11) (T := TX11) (N := 16) (v := .int 0) X hT m0 g0 rfl tyX11 tyX11_ok nmX11 rfl 13 (by decide) qw_156 inlX11 rfl (by first | rfl | decide) (by first | rfl | decide) rfl (⟨_, rfl, (by decide), (by decide)⟩) dX11_yes_2 (fun F H locs hT v70754 h1v70754 h2v70754 => ?_)
  have hfr : ∀ b j : Nat, (tag b ≠ 26 ∨ j ≠ 13) → fld F b j = fld Fo b j := fun b j n26_13 => (h1v70754 b j (fr_ne g0 n26_13)).trans (hfr b j n26_13)
  refine lv_iconst (v := 1) hx hb dX11_yes_5 (by decide) ?_
  exact t_zret hQ X hT (by decide) (⟨(by decide), hfr⟩) (Nat.le_of_ble_eq_true rfl) (Nat.le_of_ble_eq_true rfl) dX11_yes_6
set_option maxHeartbeats 4000000 in
set_option maxRecDepth 100000 in
theorem kt200_X2_addMark (l : Launch) (G : KG) (tag : Nat → Nat) (L : List Nat) (Fo : Nat → va_E) (ho : okT G ttC tag L Fo) (p0 : Nat) (p1 : Nat) (m0 : p0 ∈ L) (g0 : tag p0 = 23) (m1 : p1 ∈ L) (g1 : tag p1 = 19) : TMi l yX2_addMark cX2_addMark 2 (some .int) { frames := 2, cells := 0, slots := 0, locals := 45 } G ttC tag L Fo [.ref p0, .ref p1] (fun r F1 => ((-1) ≤ r.toInt ∧ r.toInt ≤ 2) ∧ (∀ b j : Nat, (tag b ≠ 19 ∨ j ≠ 0) → (tag b ≠ 19 ∨ j ≠ 1) → (tag b ≠ 23 ∨ j ≠ 4) → fld F1 b j = fld Fo b j)) := by
  refine t_bodyi (y := yX2_addMark) (cd := cX2_addMark) (mL := 2) (rt := (some .int)) (rm := { frames := 2, cells := 0, slots := 0, locals := 45 }) (av := [.ref p0, .ref p1]) (by decide) (Nat.le_of_ble_eq_true rfl) ho ?_
  intro p e s m args below meth c ls A Q hQ X hT hl
  have hx := X.1.1
  have hb := X.1.2.1
  have hl : lv_has ls 2 [(0, .ref p0), (1, .ref p1)] := hl
  obtain ⟨F, hFo⟩ : ∃ F : Nat → va_E, F = Fo := ⟨_, rfl⟩
  rw [← hFo] at hT
  have hfr : ∀ b j : Nat, (tag b ≠ 19 ∨ j ≠ 0) → (tag b ≠ 19 ∨ j ≠ 1) → (tag b ≠ 23 ∨ j ≠ 4) → fld F b j = fld Fo b j := by
    rw [hFo]
    intros
    rfl
  refine lv_aload_n hx hb dX2_addMark_0 rfl (lv_at hl 0 rfl) ?_
  refine t_get (C := RX2) (T := TX2) (N := 5) X hT m0 g0 rfl rfl 4 (by decide) qw_462 inlX2 rfl dX2_addMark_1 (fun v70920 hv70920 ov70920 => ?_)
  obtain ⟨z70921, rfl, rz70921⟩ := okV_i ov70920
  refine lv_iconst (v := 3) hx hb dX2_addMark_4 (by decide) ?_
  refine lv_icmp_lt (tgt := 10) hx hb dX2_addMark_5 (by decide) (fun c70922 => ?_) (fun c70922 => ?_)
  · have w70923 := cv_lt (rfl : z70921.toInt = z70921.toInt) (by decide : (3 : Int32).toInt = 3) c70922
    refine lv_aload_n hx hb dX2_addMark_10 rfl (lv_at hl 0 rfl) ?_
    refine t_get (C := RX2) (T := TX2) (N := 5) X hT m0 g0 rfl rfl 1 (by decide) qw_104 inlX2 rfl dX2_addMark_11 (fun v70924 hv70924 ov70924 => ?_)
    obtain ⟨b70925, rfl, mb70925, gb70925⟩ := okV_r ov70924
    have gb70925 : tag b70925 = 17 := tg_of gb70925
    refine lv_aload_n hx hb dX2_addMark_14 rfl (lv_at hl 0 rfl) ?_
    refine t_get (C := RX2) (T := TX2) (N := 5) X hT m0 g0 rfl rfl 4 (by decide) qw_462 inlX2 rfl dX2_addMark_15 (fun v70926 hv70926 ov70926 => ?_)
    obtain rfl : v70926 = .int z70921 := hv70926.symm.trans hv70920
    refine t_ald X hT mb70925 gb70925 rfl (by omega) dX2_addMark_18 (fun b70927 mb70927 gb70927 => ?_)
    have gb70927 : tag b70927 = 19 := tg_of gb70927
    refine lv_aload_n hx hb dX2_addMark_19 rfl (lv_at hl 1 rfl) ?_
    refine t_cVv (n := 1) (C := RX7) (T := TX7) (N := 7) (As := [.ref p1]) (rest := []) X hT (kt77_X7_copyFrom l G tag L F hT.2.2.2 b70927 p1 mb70927 gb70927 m1 g1) mb70927 gb70927 rfl rfl qw_1432 qw_450 qw_451 qw_22 qw_452 ⟨rfl, by decide +kernel, by decide +kernel, by decide +kernel⟩ ⟨Nat.le_of_ble_eq_true rfl, Nat.le_of_ble_eq_true rfl⟩ hl rfl rfl (Nat.le_of_ble_eq_true rfl) dX2_addMark_20 ⟨Nat.le_of_ble_eq_true rfl, Nat.le_of_ble_eq_true rfl⟩ (fun F H locs hT hz70928 => ?_)
    have yz70928 := hz70928
    have hv70920 := (yz70928 _ 4 (Or.inr (by decide)) (Or.inr (by decide))).trans hv70920
    have hv70924 := (yz70928 _ 1 (Or.inr (by decide)) (Or.inl (by rw [g0]; decide))).trans hv70924
    have hfr : ∀ b j : Nat, (tag b ≠ 19 ∨ j ≠ 0) → (tag b ≠ 19 ∨ j ≠ 1) → (tag b ≠ 23 ∨ j ≠ 4) → fld F b j = fld Fo b j := fun b j n19_0 n19_1 n23_4 => (yz70928 b j n19_0 n19_1).trans (hfr b j n19_0 n19_1 n23_4)
    refine lv_aload_n hx hb dX2_addMark_23 rfl (lv_at hl 0 rfl) ?_
    refine lv_dup hx hb dX2_addMark_24 rfl ?_
    refine t_get (C := RX2) (T := TX2) (N := 5) X hT m0 g0 rfl rfl 4 (by decide) qw_462 inlX2 rfl dX2_addMark_25 (fun v70929 hv70929 ov70929 => ?_)
    obtain rfl : v70929 = .int z70921 := hv70929.symm.trans hv70920
    refine lv_iconst (v := 1) hx hb dX2_addMark_28 (by decide) ?_
    refine lv_iadd hx hb dX2_addMark_29 ?_
    refine lv_topi (fun z70930 ez70930 => ?_)
    have hz70930 : z70930.toInt = z70921.toInt + 1 := ar_add ez70930 (rfl : z70921.toInt = z70921.toInt) (by decide : (1 : Int32).toInt = 1) (by omega) (by omega)
    have rz70930 : 1 ≤ z70930.toInt ∧ z70930.toInt ≤ 3 := by omega
    refine t_put (C := RX2) (T := TX2) (N := 5) (v := .int z70930) X hT m0 g0 rfl tyX2 tyX2_ok nmX2 rfl 4 (by decide) qw_462 inlX2 rfl (by first | rfl | decide) (by first | rfl | decide) rfl (⟨_, rfl, (by omega), (by omega)⟩) dX2_addMark_30 (fun F H locs hT v70931 h1v70931 h2v70931 => ?_)
    have hv70924 := (h1v70931 _ _ (Or.inr (by decide))).trans hv70924
    have hfr : ∀ b j : Nat, (tag b ≠ 19 ∨ j ≠ 0) → (tag b ≠ 19 ∨ j ≠ 1) → (tag b ≠ 23 ∨ j ≠ 4) → fld F b j = fld Fo b j := fun b j n19_0 n19_1 n23_4 => (h1v70931 b j (fr_ne g0 n23_4)).trans (hfr b j n19_0 n19_1 n23_4)
    refine lv_aload_n hx hb dX2_addMark_33 rfl (lv_at hl 0 rfl) ?_
    refine t_get (C := RX2) (T := TX2) (N := 5) X hT m0 g0 rfl rfl 4 (by decide) qw_462 inlX2 rfl dX2_addMark_34 (fun v70932 hv70932 ov70932 => ?_)
    obtain rfl : v70932 = .int z70930 := hv70932.symm.trans v70931
    refine lv_iconst (v := 1) hx hb dX2_addMark_37 (by decide) ?_
    refine lv_isub hx hb dX2_addMark_38 ?_
    refine lv_topi (fun z70933 ez70933 => ?_)
    have hz70933 : z70933.toInt = z70930.toInt - 1 := ar_sub ez70933 (rfl : z70930.toInt = z70930.toInt) (by decide : (1 : Int32).toInt = 1) (by omega) (by omega)
    have rz70933 : 0 ≤ z70933.toInt ∧ z70933.toInt ≤ 2 := by omega
    exact t_iret hQ X hT (⟨(by omega), hfr⟩) (Nat.le_of_ble_eq_true rfl) (Nat.le_of_ble_eq_true rfl) dX2_addMark_39
  · have w70934 := cv_nlt (rfl : z70921.toInt = z70921.toInt) (by decide : (3 : Int32).toInt = 3) c70922
    refine lv_iconst (v := (-1)) hx hb dX2_addMark_8 (by decide) ?_
    exact t_iret hQ X hT (⟨(by decide), hfr⟩) (Nat.le_of_ble_eq_true rfl) (Nat.le_of_ble_eq_true rfl) dX2_addMark_9
set_option maxHeartbeats 4000000 in
set_option maxRecDepth 100000 in
theorem kt201_X2_forget (l : Launch) (G : KG) (tag : Nat → Nat) (L : List Nat) (Fo : Nat → va_E) (ho : okT G ttC tag L Fo) (p0 : Nat) (m0 : p0 ∈ L) (g0 : tag p0 = 23) : TMv l yX2_forget cX2_forget 1 { frames := 0, cells := 0, slots := 0, locals := 0 } G ttC tag L Fo [.ref p0] (fun F1 => ∀ b j : Nat, (tag b ≠ 23 ∨ j ≠ 3) → (tag b ≠ 23 ∨ j ≠ 4) → fld F1 b j = fld Fo b j) := by
  refine t_bodyv (y := yX2_forget) (cd := cX2_forget) (mL := 1) (rm := { frames := 0, cells := 0, slots := 0, locals := 0 }) (av := [.ref p0]) (by decide) (Nat.le_of_ble_eq_true rfl) ho ?_
  intro p e s m args below meth c ls A Q hQ X hT hl
  have hx := X.1.1
  have hb := X.1.2.1
  have hl : lv_has ls 1 [(0, .ref p0)] := hl
  obtain ⟨F, hFo⟩ : ∃ F : Nat → va_E, F = Fo := ⟨_, rfl⟩
  rw [← hFo] at hT
  have hfr : ∀ b j : Nat, (tag b ≠ 23 ∨ j ≠ 3) → (tag b ≠ 23 ∨ j ≠ 4) → fld F b j = fld Fo b j := by
    rw [hFo]
    intros
    rfl
  refine lv_aload_n hx hb dX2_forget_0 rfl (lv_at hl 0 rfl) ?_
  refine lv_iconst (v := 0) hx hb dX2_forget_1 (by decide) ?_
  refine t_put (C := RX2) (T := TX2) (N := 5) (v := .int 0) X hT m0 g0 rfl tyX2 tyX2_ok nmX2 rfl 3 (by decide) qw_461 inlX2 rfl (by first | rfl | decide) (by first | rfl | decide) rfl (⟨_, rfl, (by decide), (by decide)⟩) dX2_forget_2 (fun F H locs hT v70957 h1v70957 h2v70957 => ?_)
  have hfr : ∀ b j : Nat, (tag b ≠ 23 ∨ j ≠ 3) → (tag b ≠ 23 ∨ j ≠ 4) → fld F b j = fld Fo b j := fun b j n23_3 n23_4 => (h1v70957 b j (fr_ne g0 n23_3)).trans (hfr b j n23_3 n23_4)
  refine lv_aload_n hx hb dX2_forget_5 rfl (lv_at hl 0 rfl) ?_
  refine lv_iconst (v := 0) hx hb dX2_forget_6 (by decide) ?_
  refine t_put (C := RX2) (T := TX2) (N := 5) (v := .int 0) X hT m0 g0 rfl tyX2 tyX2_ok nmX2 rfl 4 (by decide) qw_462 inlX2 rfl (by first | rfl | decide) (by first | rfl | decide) rfl (⟨_, rfl, (by decide), (by decide)⟩) dX2_forget_7 (fun F H locs hT v70958 h1v70958 h2v70958 => ?_)
  have v70957 := (h1v70958 _ _ (Or.inr (by decide))).trans v70957
  have hfr : ∀ b j : Nat, (tag b ≠ 23 ∨ j ≠ 3) → (tag b ≠ 23 ∨ j ≠ 4) → fld F b j = fld Fo b j := fun b j n23_3 n23_4 => (h1v70958 b j (fr_ne g0 n23_4)).trans (hfr b j n23_3 n23_4)
  exact t_vret hQ X hT hfr (Nat.le_of_ble_eq_true rfl) (Nat.le_of_ble_eq_true rfl) dX2_forget_10
set_option maxHeartbeats 4000000 in
set_option maxRecDepth 100000 in
theorem kt202_X2_goToMark (l : Launch) (G : KG) (tag : Nat → Nat) (L : List Nat) (Fo : Nat → va_E) (ho : okT G ttC tag L Fo) (p0 : Nat) (p1 : Nat) (p2 : Int32) (m0 : p0 ∈ L) (g0 : tag p0 = 23) (m1 : p1 ∈ L) (g1 : tag p1 = 19) : TMi l yX2_goToMark cX2_goToMark 3 (some .boolean) { frames := 2, cells := 0, slots := 0, locals := 45 } G ttC tag L Fo [.ref p0, .ref p1, .int p2] (fun r F1 => (0 ≤ r.toInt ∧ r.toInt ≤ 1) ∧ (∀ b j : Nat, (tag b ≠ 19 ∨ j ≠ 0) → (tag b ≠ 19 ∨ j ≠ 1) → (tag b ≠ 23 ∨ j ≠ 3) → fld F1 b j = fld Fo b j)) := by
  refine t_bodyi (y := yX2_goToMark) (cd := cX2_goToMark) (mL := 3) (rt := (some .boolean)) (rm := { frames := 2, cells := 0, slots := 0, locals := 45 }) (av := [.ref p0, .ref p1, .int p2]) (by decide) (Nat.le_of_ble_eq_true rfl) ho ?_
  intro p e s m args below meth c ls A Q hQ X hT hl
  have hx := X.1.1
  have hb := X.1.2.1
  have hl : lv_has ls 3 [(0, .ref p0), (1, .ref p1), (2, .int p2)] := hl
  have rp2 := rg_all p2
  obtain ⟨F, hFo⟩ : ∃ F : Nat → va_E, F = Fo := ⟨_, rfl⟩
  rw [← hFo] at hT
  have hfr : ∀ b j : Nat, (tag b ≠ 19 ∨ j ≠ 0) → (tag b ≠ 19 ∨ j ≠ 1) → (tag b ≠ 23 ∨ j ≠ 3) → fld F b j = fld Fo b j := by
    rw [hFo]
    intros
    rfl
  refine lv_iload_n hx hb dX2_goToMark_0 rfl (lv_at hl 2 rfl) ?_
  refine lv_if_lt (tgt := 12) hx hb dX2_goToMark_1 (by decide) (fun c71102 => ?_) (fun c71102 => ?_)
  · have w71103 := cv_lt (rfl : p2.toInt = p2.toInt) (by decide : (0 : Int32).toInt = 0) c71102
    refine lv_iconst (v := 0) hx hb dX2_goToMark_12 (by decide) ?_
    exact t_zret hQ X hT (by decide) (⟨(by decide), hfr⟩) (Nat.le_of_ble_eq_true rfl) (Nat.le_of_ble_eq_true rfl) dX2_goToMark_13
  · have w71104 := cv_nlt (rfl : p2.toInt = p2.toInt) (by decide : (0 : Int32).toInt = 0) c71102
    refine lv_iload_n hx hb dX2_goToMark_4 rfl (lv_at hl 2 rfl) ?_
    refine lv_aload_n hx hb dX2_goToMark_5 rfl (lv_at hl 0 rfl) ?_
    refine t_get (C := RX2) (T := TX2) (N := 5) X hT m0 g0 rfl rfl 4 (by decide) qw_462 inlX2 rfl dX2_goToMark_6 (fun v71105 hv71105 ov71105 => ?_)
    obtain ⟨z71106, rfl, rz71106⟩ := okV_i ov71105
    refine lv_icmp_lt (tgt := 14) hx hb dX2_goToMark_9 (by decide) (fun c71107 => ?_) (fun c71107 => ?_)
    · have w71108 := cv_lt (rfl : p2.toInt = p2.toInt) (rfl : z71106.toInt = z71106.toInt) c71107
      refine lv_aload_n hx hb dX2_goToMark_14 rfl (lv_at hl 1 rfl) ?_
      refine lv_aload_n hx hb dX2_goToMark_15 rfl (lv_at hl 0 rfl) ?_
      refine t_get (C := RX2) (T := TX2) (N := 5) X hT m0 g0 rfl rfl 1 (by decide) qw_104 inlX2 rfl dX2_goToMark_16 (fun v71109 hv71109 ov71109 => ?_)
      obtain ⟨b71110, rfl, mb71110, gb71110⟩ := okV_r ov71109
      have gb71110 : tag b71110 = 17 := tg_of gb71110
      refine lv_iload_n hx hb dX2_goToMark_19 rfl (lv_at hl 2 rfl) ?_
      refine t_ald X hT mb71110 gb71110 rfl (by omega) dX2_goToMark_20 (fun b71111 mb71111 gb71111 => ?_)
      have gb71111 : tag b71111 = 19 := tg_of gb71111
      refine t_cVv (n := 1) (C := RX7) (T := TX7) (N := 7) (As := [.ref b71111]) (rest := []) X hT (kt77_X7_copyFrom l G tag L F hT.2.2.2 p1 b71111 m1 g1 mb71111 gb71111) m1 g1 rfl rfl qw_1432 qw_450 qw_451 qw_22 qw_452 ⟨rfl, by decide +kernel, by decide +kernel, by decide +kernel⟩ ⟨Nat.le_of_ble_eq_true rfl, Nat.le_of_ble_eq_true rfl⟩ hl rfl rfl (Nat.le_of_ble_eq_true rfl) dX2_goToMark_21 ⟨Nat.le_of_ble_eq_true rfl, Nat.le_of_ble_eq_true rfl⟩ (fun F H locs hT hz71112 => ?_)
      have yz71112 := hz71112
      have hv71105 := (yz71112 _ 4 (Or.inr (by decide)) (Or.inr (by decide))).trans hv71105
      have hv71109 := (yz71112 _ 1 (Or.inr (by decide)) (Or.inl (by rw [g0]; decide))).trans hv71109
      have hfr : ∀ b j : Nat, (tag b ≠ 19 ∨ j ≠ 0) → (tag b ≠ 19 ∨ j ≠ 1) → (tag b ≠ 23 ∨ j ≠ 3) → fld F b j = fld Fo b j := fun b j n19_0 n19_1 n23_3 => (yz71112 b j n19_0 n19_1).trans (hfr b j n19_0 n19_1 n23_3)
      refine lv_aload_n hx hb dX2_goToMark_24 rfl (lv_at hl 0 rfl) ?_
      refine lv_iconst (v := 0) hx hb dX2_goToMark_25 (by decide) ?_
      refine t_put (C := RX2) (T := TX2) (N := 5) (v := .int 0) X hT m0 g0 rfl tyX2 tyX2_ok nmX2 rfl 3 (by decide) qw_461 inlX2 rfl (by first | rfl | decide) (by first | rfl | decide) rfl (⟨_, rfl, (by decide), (by decide)⟩) dX2_goToMark_26 (fun F H locs hT v71113 h1v71113 h2v71113 => ?_)
      have hv71105 := (h1v71113 _ _ (Or.inr (by decide))).trans hv71105
      have hv71109 := (h1v71113 _ _ (Or.inr (by decide))).trans hv71109
      have hfr : ∀ b j : Nat, (tag b ≠ 19 ∨ j ≠ 0) → (tag b ≠ 19 ∨ j ≠ 1) → (tag b ≠ 23 ∨ j ≠ 3) → fld F b j = fld Fo b j := fun b j n19_0 n19_1 n23_3 => (h1v71113 b j (fr_ne g0 n23_3)).trans (hfr b j n19_0 n19_1 n23_3)
      refine lv_iconst (v := 1) hx hb dX2_goToMark_29 (by decide) ?_
      exact t_zret hQ X hT (by decide) (⟨(by decide), hfr⟩) (Nat.le_of_ble_eq_true rfl) (Nat.le_of_ble_eq_true rfl) dX2_goToMark_30
    · have w71114 := cv_nlt (rfl : p2.toInt = p2.toInt) (rfl : z71106.toInt = z71106.toInt) c71107
      refine lv_iconst (v := 0) hx hb dX2_goToMark_12 (by decide) ?_
      exact t_zret hQ X hT (by decide) (⟨(by decide), hfr⟩) (Nat.le_of_ble_eq_true rfl) (Nat.le_of_ble_eq_true rfl) dX2_goToMark_13
set_option maxHeartbeats 4000000 in
set_option maxRecDepth 100000 in
theorem kt203_X2_keep (l : Launch) (G : KG) (tag : Nat → Nat) (L : List Nat) (Fo : Nat → va_E) (ho : okT G ttC tag L Fo) (p0 : Nat) (p1 : Nat) (m0 : p0 ∈ L) (g0 : tag p0 = 23) (m1 : p1 ∈ L) (g1 : tag p1 = 19) : TMv l yX2_keep cX2_keep 2 { frames := 2, cells := 0, slots := 0, locals := 45 } G ttC tag L Fo [.ref p0, .ref p1] (fun F1 => ∀ b j : Nat, (tag b ≠ 19 ∨ j ≠ 0) → (tag b ≠ 19 ∨ j ≠ 1) → (tag b ≠ 23 ∨ j ≠ 2) → (tag b ≠ 23 ∨ j ≠ 3) → fld F1 b j = fld Fo b j) := by
  refine t_bodyv (y := yX2_keep) (cd := cX2_keep) (mL := 2) (rm := { frames := 2, cells := 0, slots := 0, locals := 45 }) (av := [.ref p0, .ref p1]) (by decide) (Nat.le_of_ble_eq_true rfl) ho ?_
  intro p e s m args below meth c ls A Q hQ X hT hl
  have hx := X.1.1
  have hb := X.1.2.1
  have hl : lv_has ls 2 [(0, .ref p0), (1, .ref p1)] := hl
  obtain ⟨F, hFo⟩ : ∃ F : Nat → va_E, F = Fo := ⟨_, rfl⟩
  rw [← hFo] at hT
  have hfr : ∀ b j : Nat, (tag b ≠ 19 ∨ j ≠ 0) → (tag b ≠ 19 ∨ j ≠ 1) → (tag b ≠ 23 ∨ j ≠ 2) → (tag b ≠ 23 ∨ j ≠ 3) → fld F b j = fld Fo b j := by
    rw [hFo]
    intros
    rfl
  have K32 : ∀ (z71412 : Int32) (F : Nat → va_E) (H : Heap) (locs : List Loc) (ls : Array Slot), (0 ≤ z71412.toInt ∧ z71412.toInt ≤ 9) → TH G ttC A s tag L F H locs → (∀ b j : Nat, (tag b ≠ 19 ∨ j ≠ 0) → (tag b ≠ 19 ∨ j ≠ 1) → (tag b ≠ 23 ∨ j ≠ 2) → (tag b ≠ 23 ∨ j ≠ 3) → fld F b j = fld Fo b j) → fld F p0 3 = .int z71412 → lv_has ls 2 [(0, .ref p0), (1, .ref p1)] → W p l e { frames := 2, cells := 0, slots := 0, locals := 45 } s m args below meth c H locs 0 0 Q (F0 m 32 ls []) := by
    intro z71412 F H locs ls rz71412 hT hfr qz71412 hl
    refine lv_aload_n hx hb dX2_keep_32 rfl (lv_at hl 0 rfl) ?_
    refine t_get (C := RX2) (T := TX2) (N := 5) X hT m0 g0 rfl rfl 0 (by decide) qw_103 inlX2 rfl dX2_keep_33 (fun v71413 hv71413 ov71413 => ?_)
    obtain ⟨b71414, rfl, mb71414, gb71414⟩ := okV_r ov71413
    have gb71414 : tag b71414 = 16 := tg_of gb71414
    refine lv_aload_n hx hb dX2_keep_36 rfl (lv_at hl 0 rfl) ?_
    refine t_get (C := RX2) (T := TX2) (N := 5) X hT m0 g0 rfl rfl 2 (by decide) qw_1431 inlX2 rfl dX2_keep_37 (fun v71415 hv71415 ov71415 => ?_)
    obtain ⟨z71416, rfl, rz71416⟩ := okV_i ov71415
    refine lv_aload_n hx hb dX2_keep_40 rfl (lv_at hl 0 rfl) ?_
    refine t_get (C := RX2) (T := TX2) (N := 5) X hT m0 g0 rfl rfl 3 (by decide) qw_461 inlX2 rfl dX2_keep_41 (fun v71417 hv71417 ov71417 => ?_)
    obtain rfl : v71417 = .int z71412 := hv71417.symm.trans qz71412
    refine lv_iadd hx hb dX2_keep_44 ?_
    refine lv_topi (fun z71418 ez71418 => ?_)
    have hz71418 : z71418.toInt = z71416.toInt + z71412.toInt := ar_add ez71418 (rfl : z71416.toInt = z71416.toInt) (rfl : z71412.toInt = z71412.toInt) (by omega) (by omega)
    have rz71418 : 0 ≤ z71418.toInt ∧ z71418.toInt ≤ 18 := by omega
    refine lv_bipush (v := 10) hx hb dX2_keep_45 (by decide) ?_
    refine lv_irem hx hb dX2_keep_47 (by decide) ?_
    refine lv_topi (fun z71419 ez71419 => ?_)
    have hz71419 : z71419.toInt = z71418.toInt % 10 := ar_rem ez71419 (rfl : z71418.toInt = z71418.toInt) (by decide : (10 : Int32).toInt = 10) (by omega) (by omega)
    have rz71419 : 0 ≤ z71419.toInt ∧ z71419.toInt ≤ 9 := by omega
    refine t_ald X hT mb71414 gb71414 rfl (by omega) dX2_keep_48 (fun b71420 mb71420 gb71420 => ?_)
    have gb71420 : tag b71420 = 19 := tg_of gb71420
    refine lv_aload_n hx hb dX2_keep_49 rfl (lv_at hl 1 rfl) ?_
    refine t_cVv (n := 1) (C := RX7) (T := TX7) (N := 7) (As := [.ref p1]) (rest := []) X hT (kt77_X7_copyFrom l G tag L F hT.2.2.2 b71420 p1 mb71420 gb71420 m1 g1) mb71420 gb71420 rfl rfl qw_1432 qw_450 qw_451 qw_22 qw_452 ⟨rfl, by decide +kernel, by decide +kernel, by decide +kernel⟩ ⟨Nat.le_of_ble_eq_true rfl, Nat.le_of_ble_eq_true rfl⟩ hl rfl rfl (Nat.le_of_ble_eq_true rfl) dX2_keep_50 ⟨Nat.le_of_ble_eq_true rfl, Nat.le_of_ble_eq_true rfl⟩ (fun F H locs hT hz71421 => ?_)
    have yz71421 := hz71421
    have qz71412 := (yz71421 _ 3 (Or.inr (by decide)) (Or.inr (by decide))).trans qz71412
    have hv71413 := (yz71421 _ 0 (Or.inl (by rw [g0]; decide)) (Or.inr (by decide))).trans hv71413
    have hv71415 := (yz71421 _ 2 (Or.inr (by decide)) (Or.inr (by decide))).trans hv71415
    have hfr : ∀ b j : Nat, (tag b ≠ 19 ∨ j ≠ 0) → (tag b ≠ 19 ∨ j ≠ 1) → (tag b ≠ 23 ∨ j ≠ 2) → (tag b ≠ 23 ∨ j ≠ 3) → fld F b j = fld Fo b j := fun b j n19_0 n19_1 n23_2 n23_3 => (yz71421 b j n19_0 n19_1).trans (hfr b j n19_0 n19_1 n23_2 n23_3)
    refine lv_aload_n hx hb dX2_keep_53 rfl (lv_at hl 0 rfl) ?_
    refine lv_dup hx hb dX2_keep_54 rfl ?_
    refine t_get (C := RX2) (T := TX2) (N := 5) X hT m0 g0 rfl rfl 3 (by decide) qw_461 inlX2 rfl dX2_keep_55 (fun v71422 hv71422 ov71422 => ?_)
    obtain rfl : v71422 = .int z71412 := hv71422.symm.trans qz71412
    refine lv_iconst (v := 1) hx hb dX2_keep_58 (by decide) ?_
    refine lv_iadd hx hb dX2_keep_59 ?_
    refine lv_topi (fun z71423 ez71423 => ?_)
    have hz71423 : z71423.toInt = z71412.toInt + 1 := ar_add ez71423 (rfl : z71412.toInt = z71412.toInt) (by decide : (1 : Int32).toInt = 1) (by omega) (by omega)
    have rz71423 : 1 ≤ z71423.toInt ∧ z71423.toInt ≤ 10 := by omega
    refine t_put (C := RX2) (T := TX2) (N := 5) (v := .int z71423) X hT m0 g0 rfl tyX2 tyX2_ok nmX2 rfl 3 (by decide) qw_461 inlX2 rfl (by first | rfl | decide) (by first | rfl | decide) rfl (⟨_, rfl, (by omega), (by omega)⟩) dX2_keep_60 (fun F H locs hT v71424 h1v71424 h2v71424 => ?_)
    have hv71413 := (h1v71424 _ _ (Or.inr (by decide))).trans hv71413
    have hv71415 := (h1v71424 _ _ (Or.inr (by decide))).trans hv71415
    have hfr : ∀ b j : Nat, (tag b ≠ 19 ∨ j ≠ 0) → (tag b ≠ 19 ∨ j ≠ 1) → (tag b ≠ 23 ∨ j ≠ 2) → (tag b ≠ 23 ∨ j ≠ 3) → fld F b j = fld Fo b j := fun b j n19_0 n19_1 n23_2 n23_3 => (h1v71424 b j (fr_ne g0 n23_3)).trans (hfr b j n19_0 n19_1 n23_2 n23_3)
    exact t_vret hQ X hT hfr (Nat.le_of_ble_eq_true rfl) (Nat.le_of_ble_eq_true rfl) dX2_keep_63
  refine lv_aload_n hx hb dX2_keep_0 rfl (lv_at hl 0 rfl) ?_
  refine t_get (C := RX2) (T := TX2) (N := 5) X hT m0 g0 rfl rfl 3 (by decide) qw_461 inlX2 rfl dX2_keep_1 (fun v71425 hv71425 ov71425 => ?_)
  obtain ⟨z71426, rfl, rz71426⟩ := okV_i ov71425
  refine lv_bipush (v := 10) hx hb dX2_keep_4 (by decide) ?_
  refine lv_icmp_ne (tgt := 32) hx hb dX2_keep_6 (by decide) (fun c71427 => ?_) (fun c71427 => ?_)
  · have w71428 := cv_ne (rfl : z71426.toInt = z71426.toInt) (by decide : (10 : Int32).toInt = 10) c71427
    exact K32 z71426 _ _ _ _ (by omega) hT hfr hv71425 (lv_sub hl [0, 1] rfl)
  · have w71429 := cv_eq (rfl : z71426.toInt = z71426.toInt) (by decide : (10 : Int32).toInt = 10) c71427
    refine lv_aload_n hx hb dX2_keep_9 rfl (lv_at hl 0 rfl) ?_
    refine lv_aload_n hx hb dX2_keep_10 rfl (lv_at hl 0 rfl) ?_
    refine t_get (C := RX2) (T := TX2) (N := 5) X hT m0 g0 rfl rfl 2 (by decide) qw_1431 inlX2 rfl dX2_keep_11 (fun v71430 hv71430 ov71430 => ?_)
    obtain ⟨z71431, rfl, rz71431⟩ := okV_i ov71430
    refine lv_iconst (v := 1) hx hb dX2_keep_14 (by decide) ?_
    refine lv_iadd hx hb dX2_keep_15 ?_
    refine lv_topi (fun z71432 ez71432 => ?_)
    have hz71432 : z71432.toInt = z71431.toInt + 1 := ar_add ez71432 (rfl : z71431.toInt = z71431.toInt) (by decide : (1 : Int32).toInt = 1) (by omega) (by omega)
    have rz71432 : 1 ≤ z71432.toInt ∧ z71432.toInt ≤ 10 := by omega
    refine lv_bipush (v := 10) hx hb dX2_keep_16 (by decide) ?_
    refine lv_irem hx hb dX2_keep_18 (by decide) ?_
    refine lv_topi (fun z71433 ez71433 => ?_)
    have hz71433 : z71433.toInt = z71432.toInt % 10 := ar_rem ez71433 (rfl : z71432.toInt = z71432.toInt) (by decide : (10 : Int32).toInt = 10) (by omega) (by omega)
    have rz71433 : 0 ≤ z71433.toInt ∧ z71433.toInt ≤ 9 := by omega
    refine t_put (C := RX2) (T := TX2) (N := 5) (v := .int z71433) X hT m0 g0 rfl tyX2 tyX2_ok nmX2 rfl 2 (by decide) qw_1431 inlX2 rfl (by first | rfl | decide) (by first | rfl | decide) rfl (⟨_, rfl, (by omega), (by omega)⟩) dX2_keep_19 (fun F H locs hT v71434 h1v71434 h2v71434 => ?_)
    have hv71425 := (h1v71434 _ _ (Or.inr (by decide))).trans hv71425
    have hfr : ∀ b j : Nat, (tag b ≠ 19 ∨ j ≠ 0) → (tag b ≠ 19 ∨ j ≠ 1) → (tag b ≠ 23 ∨ j ≠ 2) → (tag b ≠ 23 ∨ j ≠ 3) → fld F b j = fld Fo b j := fun b j n19_0 n19_1 n23_2 n23_3 => (h1v71434 b j (fr_ne g0 n23_2)).trans (hfr b j n19_0 n19_1 n23_2 n23_3)
    refine lv_aload_n hx hb dX2_keep_22 rfl (lv_at hl 0 rfl) ?_
    refine lv_dup hx hb dX2_keep_23 rfl ?_
    refine t_get (C := RX2) (T := TX2) (N := 5) X hT m0 g0 rfl rfl 3 (by decide) qw_461 inlX2 rfl dX2_keep_24 (fun v71435 hv71435 ov71435 => ?_)
    obtain rfl : v71435 = .int z71426 := hv71435.symm.trans hv71425
    refine lv_iconst (v := 1) hx hb dX2_keep_27 (by decide) ?_
    refine lv_isub hx hb dX2_keep_28 ?_
    refine lv_topi (fun z71436 ez71436 => ?_)
    have hz71436 : z71436.toInt = z71426.toInt - 1 := ar_sub ez71436 (rfl : z71426.toInt = z71426.toInt) (by decide : (1 : Int32).toInt = 1) (by omega) (by omega)
    have rz71436 : 9 ≤ z71436.toInt ∧ z71436.toInt ≤ 9 := by omega
    refine t_put (C := RX2) (T := TX2) (N := 5) (v := .int z71436) X hT m0 g0 rfl tyX2 tyX2_ok nmX2 rfl 3 (by decide) qw_461 inlX2 rfl (by first | rfl | decide) (by first | rfl | decide) rfl (⟨_, rfl, (by omega), (by omega)⟩) dX2_keep_29 (fun F H locs hT v71437 h1v71437 h2v71437 => ?_)
    have v71434 := (h1v71437 _ _ (Or.inr (by decide))).trans v71434
    have hfr : ∀ b j : Nat, (tag b ≠ 19 ∨ j ≠ 0) → (tag b ≠ 19 ∨ j ≠ 1) → (tag b ≠ 23 ∨ j ≠ 2) → (tag b ≠ 23 ∨ j ≠ 3) → fld F b j = fld Fo b j := fun b j n19_0 n19_1 n23_2 n23_3 => (h1v71437 b j (fr_ne g0 n23_3)).trans (hfr b j n19_0 n19_1 n23_2 n23_3)
    exact K32 z71436 _ _ _ _ (by omega) hT hfr v71437 (lv_sub hl [0, 1] rfl)
set_option maxHeartbeats 4000000 in
set_option maxRecDepth 100000 in
theorem kt204_X2_stepBack (l : Launch) (G : KG) (tag : Nat → Nat) (L : List Nat) (Fo : Nat → va_E) (ho : okT G ttC tag L Fo) (p0 : Nat) (p1 : Nat) (m0 : p0 ∈ L) (g0 : tag p0 = 23) (m1 : p1 ∈ L) (g1 : tag p1 = 19) : TMi l yX2_stepBack cX2_stepBack 2 (some .boolean) { frames := 2, cells := 0, slots := 0, locals := 45 } G ttC tag L Fo [.ref p0, .ref p1] (fun r F1 => (0 ≤ r.toInt ∧ r.toInt ≤ 1) ∧ (∀ b j : Nat, (tag b ≠ 19 ∨ j ≠ 0) → (tag b ≠ 19 ∨ j ≠ 1) → (tag b ≠ 23 ∨ j ≠ 3) → fld F1 b j = fld Fo b j)) := by
  refine t_bodyi (y := yX2_stepBack) (cd := cX2_stepBack) (mL := 2) (rt := (some .boolean)) (rm := { frames := 2, cells := 0, slots := 0, locals := 45 }) (av := [.ref p0, .ref p1]) (by decide) (Nat.le_of_ble_eq_true rfl) ho ?_
  intro p e s m args below meth c ls A Q hQ X hT hl
  have hx := X.1.1
  have hb := X.1.2.1
  have hl : lv_has ls 2 [(0, .ref p0), (1, .ref p1)] := hl
  obtain ⟨F, hFo⟩ : ∃ F : Nat → va_E, F = Fo := ⟨_, rfl⟩
  rw [← hFo] at hT
  have hfr : ∀ b j : Nat, (tag b ≠ 19 ∨ j ≠ 0) → (tag b ≠ 19 ∨ j ≠ 1) → (tag b ≠ 23 ∨ j ≠ 3) → fld F b j = fld Fo b j := by
    rw [hFo]
    intros
    rfl
  refine lv_aload_n hx hb dX2_stepBack_0 rfl (lv_at hl 0 rfl) ?_
  refine t_get (C := RX2) (T := TX2) (N := 5) X hT m0 g0 rfl rfl 3 (by decide) qw_461 inlX2 rfl dX2_stepBack_1 (fun v71625 hv71625 ov71625 => ?_)
  obtain ⟨z71626, rfl, rz71626⟩ := okV_i ov71625
  refine lv_if_ne (tgt := 9) hx hb dX2_stepBack_4 (by decide) (fun c71627 => ?_) (fun c71627 => ?_)
  · have w71628 := cv_ne (rfl : z71626.toInt = z71626.toInt) (by decide : (0 : Int32).toInt = 0) c71627
    refine lv_aload_n hx hb dX2_stepBack_9 rfl (lv_at hl 0 rfl) ?_
    refine lv_dup hx hb dX2_stepBack_10 rfl ?_
    refine t_get (C := RX2) (T := TX2) (N := 5) X hT m0 g0 rfl rfl 3 (by decide) qw_461 inlX2 rfl dX2_stepBack_11 (fun v71629 hv71629 ov71629 => ?_)
    obtain rfl : v71629 = .int z71626 := hv71629.symm.trans hv71625
    refine lv_iconst (v := 1) hx hb dX2_stepBack_14 (by decide) ?_
    refine lv_isub hx hb dX2_stepBack_15 ?_
    refine lv_topi (fun z71630 ez71630 => ?_)
    have hz71630 : z71630.toInt = z71626.toInt - 1 := ar_sub ez71630 (rfl : z71626.toInt = z71626.toInt) (by decide : (1 : Int32).toInt = 1) (by omega) (by omega)
    have rz71630 : 0 ≤ z71630.toInt ∧ z71630.toInt ≤ 9 := by omega
    refine t_put (C := RX2) (T := TX2) (N := 5) (v := .int z71630) X hT m0 g0 rfl tyX2 tyX2_ok nmX2 rfl 3 (by decide) qw_461 inlX2 rfl (by first | rfl | decide) (by first | rfl | decide) rfl (⟨_, rfl, (by omega), (by omega)⟩) dX2_stepBack_16 (fun F H locs hT v71631 h1v71631 h2v71631 => ?_)
    have hfr : ∀ b j : Nat, (tag b ≠ 19 ∨ j ≠ 0) → (tag b ≠ 19 ∨ j ≠ 1) → (tag b ≠ 23 ∨ j ≠ 3) → fld F b j = fld Fo b j := fun b j n19_0 n19_1 n23_3 => (h1v71631 b j (fr_ne g0 n23_3)).trans (hfr b j n19_0 n19_1 n23_3)
    refine lv_aload_n hx hb dX2_stepBack_19 rfl (lv_at hl 1 rfl) ?_
    refine lv_aload_n hx hb dX2_stepBack_20 rfl (lv_at hl 0 rfl) ?_
    refine t_get (C := RX2) (T := TX2) (N := 5) X hT m0 g0 rfl rfl 0 (by decide) qw_103 inlX2 rfl dX2_stepBack_21 (fun v71632 hv71632 ov71632 => ?_)
    obtain ⟨b71633, rfl, mb71633, gb71633⟩ := okV_r ov71632
    have gb71633 : tag b71633 = 16 := tg_of gb71633
    refine lv_aload_n hx hb dX2_stepBack_24 rfl (lv_at hl 0 rfl) ?_
    refine t_get (C := RX2) (T := TX2) (N := 5) X hT m0 g0 rfl rfl 2 (by decide) qw_1431 inlX2 rfl dX2_stepBack_25 (fun v71634 hv71634 ov71634 => ?_)
    obtain ⟨z71635, rfl, rz71635⟩ := okV_i ov71634
    refine lv_aload_n hx hb dX2_stepBack_28 rfl (lv_at hl 0 rfl) ?_
    refine t_get (C := RX2) (T := TX2) (N := 5) X hT m0 g0 rfl rfl 3 (by decide) qw_461 inlX2 rfl dX2_stepBack_29 (fun v71636 hv71636 ov71636 => ?_)
    obtain rfl : v71636 = .int z71630 := hv71636.symm.trans v71631
    refine lv_iadd hx hb dX2_stepBack_32 ?_
    refine lv_topi (fun z71637 ez71637 => ?_)
    have hz71637 : z71637.toInt = z71635.toInt + z71630.toInt := ar_add ez71637 (rfl : z71635.toInt = z71635.toInt) (rfl : z71630.toInt = z71630.toInt) (by omega) (by omega)
    have rz71637 : 0 ≤ z71637.toInt ∧ z71637.toInt ≤ 18 := by omega
    refine lv_bipush (v := 10) hx hb dX2_stepBack_33 (by decide) ?_
    refine lv_irem hx hb dX2_stepBack_35 (by decide) ?_
    refine lv_topi (fun z71638 ez71638 => ?_)
    have hz71638 : z71638.toInt = z71637.toInt % 10 := ar_rem ez71638 (rfl : z71637.toInt = z71637.toInt) (by decide : (10 : Int32).toInt = 10) (by omega) (by omega)
    have rz71638 : 0 ≤ z71638.toInt ∧ z71638.toInt ≤ 9 := by omega
    refine t_ald X hT mb71633 gb71633 rfl (by omega) dX2_stepBack_36 (fun b71639 mb71639 gb71639 => ?_)
    have gb71639 : tag b71639 = 19 := tg_of gb71639
    refine t_cVv (n := 1) (C := RX7) (T := TX7) (N := 7) (As := [.ref b71639]) (rest := []) X hT (kt77_X7_copyFrom l G tag L F hT.2.2.2 p1 b71639 m1 g1 mb71639 gb71639) m1 g1 rfl rfl qw_1432 qw_450 qw_451 qw_22 qw_452 ⟨rfl, by decide +kernel, by decide +kernel, by decide +kernel⟩ ⟨Nat.le_of_ble_eq_true rfl, Nat.le_of_ble_eq_true rfl⟩ hl rfl rfl (Nat.le_of_ble_eq_true rfl) dX2_stepBack_37 ⟨Nat.le_of_ble_eq_true rfl, Nat.le_of_ble_eq_true rfl⟩ (fun F H locs hT hz71640 => ?_)
    have yz71640 := hz71640
    have v71631 := (yz71640 _ 3 (Or.inr (by decide)) (Or.inr (by decide))).trans v71631
    have hv71632 := (yz71640 _ 0 (Or.inl (by rw [g0]; decide)) (Or.inr (by decide))).trans hv71632
    have hv71634 := (yz71640 _ 2 (Or.inr (by decide)) (Or.inr (by decide))).trans hv71634
    have hfr : ∀ b j : Nat, (tag b ≠ 19 ∨ j ≠ 0) → (tag b ≠ 19 ∨ j ≠ 1) → (tag b ≠ 23 ∨ j ≠ 3) → fld F b j = fld Fo b j := fun b j n19_0 n19_1 n23_3 => (yz71640 b j n19_0 n19_1).trans (hfr b j n19_0 n19_1 n23_3)
    refine lv_iconst (v := 1) hx hb dX2_stepBack_40 (by decide) ?_
    exact t_zret hQ X hT (by decide) (⟨(by decide), hfr⟩) (Nat.le_of_ble_eq_true rfl) (Nat.le_of_ble_eq_true rfl) dX2_stepBack_41
  · have w71641 := cv_eq (rfl : z71626.toInt = z71626.toInt) (by decide : (0 : Int32).toInt = 0) c71627
    refine lv_iconst (v := 0) hx hb dX2_stepBack_7 (by decide) ?_
    exact t_zret hQ X hT (by decide) (⟨(by decide), hfr⟩) (Nat.le_of_ble_eq_true rfl) (Nat.le_of_ble_eq_true rfl) dX2_stepBack_8
