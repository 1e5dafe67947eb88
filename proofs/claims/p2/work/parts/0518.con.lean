set_option maxHeartbeats 4000000 in
set_option maxRecDepth 100000 in
theorem kt139_X11_worth (l : Launch) (G : KG) (tag : Nat → Nat) (L : List Nat) (Fo : Nat → va_E) (ho : okT G ttC tag L Fo) (p0 : Nat) (p1 : Int32) (m0 : p0 ∈ L) (g0 : tag p0 = 26) : TMi l yX11_worth cX11_worth 4 (some .int) { frames := 2, cells := 0, slots := 0, locals := 46 } G ttC tag L Fo [.ref p0, .int p1] (fun r F1 => ((-2147483648) ≤ r.toInt ∧ r.toInt ≤ 2147483647) ∧ (∀ b j : Nat, (tag b ≠ 26 ∨ j ≠ 13) → fld F1 b j = fld Fo b j)) := by
  refine t_bodyi (y := yX11_worth) (cd := cX11_worth) (mL := 4) (rt := (some .int)) (rm := { frames := 2, cells := 0, slots := 0, locals := 46 }) (av := [.ref p0, .int p1]) (by decide) (Nat.le_of_ble_eq_true rfl) ho ?_
  intro p e s m args below meth c ls A Q hQ X hT hl
  have hx := X.1.1
  have hb := X.1.2.1
  have hl : lv_has ls 4 [(0, .ref p0), (1, .int p1)] := hl
  have rp1 := rg_all p1
  obtain ⟨F, hFo⟩ : ∃ F : Nat → va_E, F = Fo := ⟨_, rfl⟩
  rw [← hFo] at hT
  have hfr : ∀ b j : Nat, (tag b ≠ 26 ∨ j ≠ 13) → fld F b j = fld Fo b j := by
    rw [hFo]
    intros
    rfl
  have K18 : ∀ (n : Nat) (z51069 : Int32) (z51070 : Int32) (F : Nat → va_E) (H : Heap) (locs : List Loc) (ls : Array Slot), (6 - z51070.toInt < (n : Int)) → (1 ≤ z51070.toInt ∧ z51070.toInt ≤ 6) → (0 ≤ p1.toInt ∧ p1.toInt ≤ 3) → TH G ttC A s tag L F H locs → (∀ b j : Nat, (tag b ≠ 26 ∨ j ≠ 13) → fld F b j = fld Fo b j) → lv_has ls 4 [(0, .ref p0), (1, .int p1), (2, .int z51069), (3, .int z51070)] → W p l e { frames := 2, cells := 0, slots := 0, locals := 46 } s m args below meth c H locs 0 0 Q (F0 m 18 ls []) := by
    intro n
    induction n with
    | zero =>
      intro z51069 z51070 F H locs ls hn rz51070 r9s51068 hT hfr hl
      have rz51069 := rg_all z51069
      exfalso
      omega
    | succ n ih18 =>
      intro z51069 z51070 F H locs ls hn rz51070 r9s51068 hT hfr hl
      have rz51069 := rg_all z51069
      have K67 : ∀ (z51071 : Int32) (F : Nat → va_E) (H : Heap) (locs : List Loc) (ls : Array Slot), (1 ≤ z51070.toInt ∧ z51070.toInt ≤ 5) → TH G ttC A s tag L F H locs → (∀ b j : Nat, (tag b ≠ 26 ∨ j ≠ 13) → fld F b j = fld Fo b j) → lv_has ls 4 [(0, .ref p0), (1, .int p1), (2, .int z51071), (3, .int z51070)] → W p l e { frames := 2, cells := 0, slots := 0, locals := 46 } s m args below meth c H locs 0 0 Q (F0 m 67 ls []) := by
        intro z51071 F H locs ls r9s51072 hT hfr hl
        have rz51071 := rg_all z51071
        obtain ⟨z51073, ez51073⟩ : ∃ y : Int32, y = z51070 + 1 := ⟨_, rfl⟩
        have hz51073 : z51073.toInt = z51070.toInt + 1 := ar_add ez51073 rfl (by decide : (1 : Int32).toInt = 1) (by omega) (by omega)
        refine lv_iinc (v := z51073) (lv' := [(3, .int z51073), (0, .ref p0), (1, .int p1), (2, .int z51071)]) hx hb dX11_worth_67 hl (k := 3) rfl (by rw [ez51073]; rfl) (by decide) rfl (fun ls hl => ?_)
        refine lv_goto (tgt := 18) hx hb dX11_worth_70 (by decide) ?_
        exact ih18 z51071 z51073 _ _ _ _ (by omega) (by omega) (by omega) hT hfr  (lv_sub hl [1, 2, 3, 0] rfl)
      refine lv_iload_n hx hb dX11_worth_18 rfl (lv_at hl 3 rfl) ?_
      refine lv_aload_n hx hb dX11_worth_19 rfl (lv_at hl 0 rfl) ?_
      refine t_get (C := RX11) (T := TX11) (N := 16) X hT m0 g0 rfl rfl 5 (by decide) qw_23 inlX11 rfl dX11_worth_20 (fun v51074 hv51074 ov51074 => ?_)
      obtain ⟨b51075, rfl, mb51075, gb51075⟩ := okV_r ov51074
      have gb51075 : tag b51075 = 19 := tg_of gb51075
      refine t_get (C := RX7) (T := TX7) (N := 7) X hT mb51075 gb51075 rfl rfl 2 (by decide) qw_766 inlX7 rfl dX11_worth_23 (fun v51076 hv51076 ov51076 => ?_)
      obtain ⟨b51077, rfl, mb51077, gb51077⟩ := okV_r ov51076
      have gb51077 : tag b51077 = 8 := tg_of gb51077
      refine lv_iload_n hx hb dX11_worth_26 rfl (lv_at hl 1 rfl) ?_
      refine t_ild X hT mb51077 gb51077 rfl (by omega) dX11_worth_27 (fun z51078 vz51078 rz51078 => ?_)
      have rz51078 : 0 ≤ z51078.toInt ∧ z51078.toInt ≤ 6 := rz51078
      refine lv_icmp_ge (tgt := 73) hx hb dX11_worth_28 (by decide) (fun c51079 => ?_) (fun c51079 => ?_)
      · have w51080 := cv_le (rfl : z51078.toInt = z51078.toInt) (rfl : z51070.toInt = z51070.toInt) c51079
        refine lv_aload_n hx hb dX11_worth_73 rfl (lv_at hl 0 rfl) ?_
        refine lv_iload_n hx hb dX11_worth_74 rfl (lv_at hl 2 rfl) ?_
        refine t_cVi (n := 1) (C := RX11) (T := TX11) (N := 16) (As := [.int z51069]) (rest := []) X hT (kt56_X11_answer l G tag L F hT.2.2.2 p0 z51069 m0 g0) m0 g0 rfl rfl qw_463 qw_464 qw_465 qw_2 qw_466 ⟨rfl, by decide +kernel, by decide +kernel, by decide +kernel⟩ ⟨Nat.le_of_ble_eq_true rfl, Nat.le_of_ble_eq_true rfl⟩ hl rfl rfl (Nat.le_of_ble_eq_true rfl) dX11_worth_75 ⟨Nat.le_of_ble_eq_true rfl, Nat.le_of_ble_eq_true rfl⟩ (fun z51081 F H locs hT hz51081 => ?_)
        obtain ⟨hz51081, yz51081⟩ := hz51081
        have hv51074 := (yz51081 _ 5 (Or.inr (by decide))).trans hv51074
        have hv51076 := (yz51081 _ 2 (Or.inr (by decide))).trans hv51076
        have hfr : ∀ b j : Nat, (tag b ≠ 26 ∨ j ≠ 13) → fld F b j = fld Fo b j := fun b j n26_13 => (yz51081 b j n26_13).trans (hfr b j n26_13)
        exact t_iret hQ X hT (⟨rg_all _, hfr⟩) (Nat.le_of_ble_eq_true rfl) (Nat.le_of_ble_eq_true rfl) dX11_worth_78
      · have w51082 := cv_nle (rfl : z51078.toInt = z51078.toInt) (rfl : z51070.toInt = z51070.toInt) c51079
        refine lv_aload_n hx hb dX11_worth_31 rfl (lv_at hl 0 rfl) ?_
        refine t_get (C := RX11) (T := TX11) (N := 16) X hT m0 g0 rfl rfl 5 (by decide) qw_23 inlX11 rfl dX11_worth_32 (fun v51083 hv51083 ov51083 => ?_)
        obtain rfl : v51083 = .ref b51075 := hv51083.symm.trans hv51074
        refine lv_iload_n hx hb dX11_worth_35 rfl (lv_at hl 1 rfl) ?_
        refine lv_iload_n hx hb dX11_worth_36 rfl (lv_at hl 3 rfl) ?_
        refine t_cVi (n := 2) (C := RX7) (T := TX7) (N := 7) (As := [.int p1, .int z51070]) (rest := []) X hT (kt18_X7_stands l G tag L F hT.2.2.2 b51075 p1 z51070 mb51075 gb51075) mb51075 gb51075 rfl rfl qw_852 qw_853 qw_854 qw_22 qw_855 ⟨rfl, by decide +kernel, by decide +kernel, by decide +kernel⟩ ⟨Nat.le_of_ble_eq_true rfl, Nat.le_of_ble_eq_true rfl⟩ hl rfl rfl (Nat.le_of_ble_eq_true rfl) dX11_worth_37 ⟨Nat.le_of_ble_eq_true rfl, Nat.le_of_ble_eq_true rfl⟩ (fun z51084 F9 H locs hT hz51084 => ?_)
        obtain ⟨fz51084, hz51084⟩ := hz51084
        rw [fz51084] at hT
        refine lv_if_eq (tgt := 67) hx hb dX11_worth_40 (by decide) (fun c51085 => ?_) (fun c51085 => ?_)
        · have w51086 := cv_eq (rfl : z51084.toInt = z51084.toInt) (by decide : (0 : Int32).toInt = 0) c51085
          exact K67 z51069 _ _ _ _ (by omega) hT hfr  (lv_sub hl [0, 1, 2, 3] rfl)
        · have w51087 := cv_ne (rfl : z51084.toInt = z51084.toInt) (by decide : (0 : Int32).toInt = 0) c51085
          refine lv_aload_n hx hb dX11_worth_43 rfl (lv_at hl 0 rfl) ?_
          refine lv_iload_n hx hb dX11_worth_44 rfl (lv_at hl 1 rfl) ?_
          refine lv_iload_n hx hb dX11_worth_45 rfl (lv_at hl 3 rfl) ?_
          refine t_cVi (n := 2) (C := RX11) (T := TX11) (N := 16) (As := [.int p1, .int z51070]) (rest := []) X hT (kt76_X11_isLivedIn l G tag L F hT.2.2.2 p0 p1 z51070 m0 g0) m0 g0 rfl rfl qw_1316 qw_1317 qw_1318 qw_2 qw_1319 ⟨rfl, by decide +kernel, by decide +kernel, by decide +kernel⟩ ⟨Nat.le_of_ble_eq_true rfl, Nat.le_of_ble_eq_true rfl⟩ hl rfl rfl (Nat.le_of_ble_eq_true rfl) dX11_worth_46 ⟨Nat.le_of_ble_eq_true rfl, Nat.le_of_ble_eq_true rfl⟩ (fun z51088 F9 H locs hT hz51088 => ?_)
          obtain ⟨fz51088, hz51088⟩ := hz51088
          rw [fz51088] at hT
          refine lv_if_eq (tgt := 58) hx hb dX11_worth_49 (by decide) (fun c51089 => ?_) (fun c51089 => ?_)
          · have w51090 := cv_eq (rfl : z51088.toInt = z51088.toInt) (by decide : (0 : Int32).toInt = 0) c51089
            refine lv_iload_n hx hb dX11_worth_58 rfl (lv_at hl 2 rfl) ?_
            refine lv_aload_n hx hb dX11_worth_59 rfl (lv_at hl 0 rfl) ?_
            refine lv_iload_n hx hb dX11_worth_60 rfl (lv_at hl 1 rfl) ?_
            refine lv_iload_n hx hb dX11_worth_61 rfl (lv_at hl 3 rfl) ?_
            refine t_cVi (n := 2) (C := RX11) (T := TX11) (N := 16) (As := [.int p1, .int z51070]) (rest := [.int z51069]) X hT (kt84_X11_goldIn l G tag L F hT.2.2.2 p0 p1 z51070 m0 g0) m0 g0 rfl rfl qw_1296 qw_1297 qw_1298 qw_2 qw_1299 ⟨rfl, by decide +kernel, by decide +kernel, by decide +kernel⟩ ⟨Nat.le_of_ble_eq_true rfl, Nat.le_of_ble_eq_true rfl⟩ hl rfl rfl (Nat.le_of_ble_eq_true rfl) dX11_worth_62 ⟨Nat.le_of_ble_eq_true rfl, Nat.le_of_ble_eq_true rfl⟩ (fun z51091 F9 H locs hT hz51091 => ?_)
            obtain ⟨fz51091, hz51091⟩ := hz51091
            rw [fz51091] at hT
            refine lv_iadd hx hb dX11_worth_65 ?_
            refine lv_topi (fun z51092 ez51092 => ?_)
            have rz51092 := rg_all z51092
            refine lv_istore_n (lv' := [(2, .int z51092), (0, .ref p0), (1, .int p1), (3, .int z51070)]) hx hb dX11_worth_66 rfl hl (by decide) rfl (fun ls hl => ?_)
            exact K67 z51092 _ _ _ _ (by omega) hT hfr  (lv_sub hl [1, 2, 0, 3] rfl)
          · have w51093 := cv_ne (rfl : z51088.toInt = z51088.toInt) (by decide : (0 : Int32).toInt = 0) c51089
            refine lv_aload_n hx hb dX11_worth_52 rfl (lv_at hl 0 rfl) ?_
            refine lv_iload_n hx hb dX11_worth_53 rfl (lv_at hl 2 rfl) ?_
            refine t_cVi (n := 1) (C := RX11) (T := TX11) (N := 16) (As := [.int z51069]) (rest := []) X hT (kt56_X11_answer l G tag L F hT.2.2.2 p0 z51069 m0 g0) m0 g0 rfl rfl qw_463 qw_464 qw_465 qw_2 qw_466 ⟨rfl, by decide +kernel, by decide +kernel, by decide +kernel⟩ ⟨Nat.le_of_ble_eq_true rfl, Nat.le_of_ble_eq_true rfl⟩ hl rfl rfl (Nat.le_of_ble_eq_true rfl) dX11_worth_54 ⟨Nat.le_of_ble_eq_true rfl, Nat.le_of_ble_eq_true rfl⟩ (fun z51094 F H locs hT hz51094 => ?_)
            obtain ⟨hz51094, yz51094⟩ := hz51094
            have hv51074 := (yz51094 _ 5 (Or.inr (by decide))).trans hv51074
            have hv51076 := (yz51094 _ 2 (Or.inr (by decide))).trans hv51076
            have hfr : ∀ b j : Nat, (tag b ≠ 26 ∨ j ≠ 13) → fld F b j = fld Fo b j := fun b j n26_13 => (yz51094 b j n26_13).trans (hfr b j n26_13)
            exact t_iret hQ X hT (⟨rg_all _, hfr⟩) (Nat.le_of_ble_eq_true rfl) (Nat.le_of_ble_eq_true rfl) dX11_worth_57
  refine lv_aload_n hx hb dX11_worth_0 rfl (lv_at hl 0 rfl) ?_
  refine lv_iload_n hx hb dX11_worth_1 rfl (lv_at hl 1 rfl) ?_
  refine t_cVi (n := 1) (C := RX11) (T := TX11) (N := 16) (As := [.int p1]) (rest := []) X hT (kt61_X11_isHouse l G tag L F hT.2.2.2 p0 p1 m0 g0) m0 g0 rfl rfl qw_770 qw_771 qw_772 qw_2 qw_773 ⟨rfl, by decide +kernel, by decide +kernel, by decide +kernel⟩ ⟨Nat.le_of_ble_eq_true rfl, Nat.le_of_ble_eq_true rfl⟩ hl rfl rfl (Nat.le_of_ble_eq_true rfl) dX11_worth_2 ⟨Nat.le_of_ble_eq_true rfl, Nat.le_of_ble_eq_true rfl⟩ (fun z51095 F9 H locs hT hz51095 => ?_)
  obtain ⟨fz51095, hz51095⟩ := hz51095
  rw [fz51095] at hT
  obtain ⟨hz51095, iz51095⟩ := hz51095
  refine lv_if_ne (tgt := 14) hx hb dX11_worth_5 (by decide) (fun c51096 => ?_) (fun c51096 => ?_)
  · have w51097 := cv_ne (rfl : z51095.toInt = z51095.toInt) (by decide : (0 : Int32).toInt = 0) c51096
    have w51098 := (fun h => (iz51095 h)) (by omega)
    refine lv_iconst (v := 0) hx hb dX11_worth_14 (by decide) ?_
    refine lv_istore_n (lv' := [(2, .int 0), (0, .ref p0), (1, .int p1)]) hx hb dX11_worth_15 rfl hl (by decide) rfl (fun ls hl => ?_)
    refine lv_iconst (v := 1) hx hb dX11_worth_16 (by decide) ?_
    refine lv_istore_n (lv' := [(3, .int 1), (2, .int 0), (0, .ref p0), (1, .int p1)]) hx hb dX11_worth_17 rfl hl (by decide) rfl (fun ls hl => ?_)
    have kk51099 : (0 : Int32).toInt = 0 := by decide
    have kk51100 : (1 : Int32).toInt = 1 := by decide
    exact K18 6 0 1 _ _ _ _ (by omega) (by decide) (by omega) hT hfr  (lv_sub hl [2, 3, 1, 0] rfl)
  · have w51101 := cv_eq (rfl : z51095.toInt = z51095.toInt) (by decide : (0 : Int32).toInt = 0) c51096
    refine lv_aload_n hx hb dX11_worth_8 rfl (lv_at hl 0 rfl) ?_
    refine lv_iconst (v := 1) hx hb dX11_worth_9 (by decide) ?_
    refine t_cVi (n := 1) (C := RX11) (T := TX11) (N := 16) (As := [.int 1]) (rest := []) X hT (kt63_X11_refuse l G tag L F hT.2.2.2 p0 1 m0 g0) m0 g0 rfl rfl qw_152 qw_153 qw_154 qw_2 qw_155 ⟨rfl, by decide +kernel, by decide +kernel, by decide +kernel⟩ ⟨Nat.le_of_ble_eq_true rfl, Nat.le_of_ble_eq_true rfl⟩ hl rfl rfl (Nat.le_of_ble_eq_true rfl) dX11_worth_10 ⟨Nat.le_of_ble_eq_true rfl, Nat.le_of_ble_eq_true rfl⟩ (fun z51102 F H locs hT hz51102 => ?_)
    obtain ⟨hz51102, yz51102⟩ := hz51102
    have hfr : ∀ b j : Nat, (tag b ≠ 26 ∨ j ≠ 13) → fld F b j = fld Fo b j := fun b j n26_13 => (yz51102 b j n26_13).trans (hfr b j n26_13)
    exact t_iret hQ X hT (⟨rg_all _, hfr⟩) (Nat.le_of_ble_eq_true rfl) (Nat.le_of_ble_eq_true rfl) dX11_worth_13
set_option maxHeartbeats 4000000 in
set_option maxRecDepth 100000 in
theorem kt140_X11_years (l : Launch) (G : KG) (tag : Nat → Nat) (L : List Nat) (Fo : Nat → va_E) (ho : okT G ttC tag L Fo) (p0 : Nat) (p1 : Int32) (m0 : p0 ∈ L) (g0 : tag p0 = 26) : TMi l yX11_years cX11_years 3 (some .int) { frames := 6, cells := 0, slots := 0, locals := 157 } G ttC tag L Fo [.ref p0, .int p1] (fun r F1 => ((-2147483648) ≤ r.toInt ∧ r.toInt ≤ 2147483647) ∧ (∀ b j : Nat, (tag b ≠ 19 ∨ j ≠ 0) → (tag b ≠ 19 ∨ j ≠ 1) → (tag b ≠ 23 ∨ j ≠ 2) → (tag b ≠ 23 ∨ j ≠ 3) → (tag b ≠ 26 ∨ j ≠ 13) → fld F1 b j = fld Fo b j)) := by
  refine t_bodyi (y := yX11_years) (cd := cX11_years) (mL := 3) (rt := (some .int)) (rm := { frames := 6, cells := 0, slots := 0, locals := 157 }) (av := [.ref p0, .int p1]) (by decide) (Nat.le_of_ble_eq_true rfl) ho ?_
  intro p e s m args below meth c ls A Q hQ X hT hl
  have hx := X.1.1
  have hb := X.1.2.1
  have hl : lv_has ls 3 [(0, .ref p0), (1, .int p1)] := hl
  have rp1 := rg_all p1
  obtain ⟨F, hFo⟩ : ∃ F : Nat → va_E, F = Fo := ⟨_, rfl⟩
  rw [← hFo] at hT
  have hfr : ∀ b j : Nat, (tag b ≠ 19 ∨ j ≠ 0) → (tag b ≠ 19 ∨ j ≠ 1) → (tag b ≠ 23 ∨ j ≠ 2) → (tag b ≠ 23 ∨ j ≠ 3) → (tag b ≠ 26 ∨ j ≠ 13) → fld F b j = fld Fo b j := by
    rw [hFo]
    intros
    rfl
  have K24 : ∀ (z51758 : Int32) (F : Nat → va_E) (H : Heap) (locs : List Loc) (ls : Array Slot), (1 ≤ z51758.toInt ∧ z51758.toInt ≤ 1) → TH G ttC A s tag L F H locs → (∀ b j : Nat, (tag b ≠ 19 ∨ j ≠ 0) → (tag b ≠ 19 ∨ j ≠ 1) → (tag b ≠ 23 ∨ j ≠ 2) → (tag b ≠ 23 ∨ j ≠ 3) → (tag b ≠ 26 ∨ j ≠ 13) → fld F b j = fld Fo b j) → fld F p0 2 = .int z51758 → lv_has ls 3 [(0, .ref p0), (1, .int p1)] → W p l e { frames := 6, cells := 0, slots := 0, locals := 157 } s m args below meth c H locs 0 0 Q (F0 m 24 ls []) := by
    intro z51758 F H locs ls rz51758 hT hfr qz51758 hl
    refine lv_aload_n hx hb dX11_years_24 rfl (lv_at hl 0 rfl) ?_
    refine lv_iconst (v := 2) hx hb dX11_years_25 (by decide) ?_
    refine t_cVi (n := 1) (C := RX11) (T := TX11) (N := 16) (As := [.int 2]) (rest := []) X hT (kt63_X11_refuse l G tag L F hT.2.2.2 p0 2 m0 g0) m0 g0 rfl rfl qw_152 qw_153 qw_154 qw_2 qw_155 ⟨rfl, by decide +kernel, by decide +kernel, by decide +kernel⟩ ⟨Nat.le_of_ble_eq_true rfl, Nat.le_of_ble_eq_true rfl⟩ hl rfl rfl (Nat.le_of_ble_eq_true rfl) dX11_years_26 ⟨Nat.le_of_ble_eq_true rfl, Nat.le_of_ble_eq_true rfl⟩ (fun z51759 F H locs hT hz51759 => ?_)
    obtain ⟨hz51759, yz51759⟩ := hz51759
    have qz51758 := (yz51759 _ 2 (Or.inr (by decide))).trans qz51758
    have hfr : ∀ b j : Nat, (tag b ≠ 19 ∨ j ≠ 0) → (tag b ≠ 19 ∨ j ≠ 1) → (tag b ≠ 23 ∨ j ≠ 2) → (tag b ≠ 23 ∨ j ≠ 3) → (tag b ≠ 26 ∨ j ≠ 13) → fld F b j = fld Fo b j := fun b j n19_0 n19_1 n23_2 n23_3 n26_13 => (yz51759 b j n26_13).trans (hfr b j n19_0 n19_1 n23_2 n23_3 n26_13)
    exact t_iret hQ X hT (⟨rg_all _, hfr⟩) (Nat.le_of_ble_eq_true rfl) (Nat.le_of_ble_eq_true rfl) dX11_years_29
  have K64 : ∀ (n : Nat) (z51761 : Int32) (z51762 : Int32) (F : Nat → va_E) (H : Heap) (locs : List Loc) (ls : Array Slot), (20 - z51761.toInt < (n : Int)) → (0 ≤ z51761.toInt ∧ z51761.toInt ≤ 20) → (1 ≤ z51762.toInt ∧ z51762.toInt ≤ 1) → (1 ≤ p1.toInt ∧ p1.toInt ≤ 20) → TH G ttC A s tag L F H locs → (∀ b j : Nat, (tag b ≠ 19 ∨ j ≠ 0) → (tag b ≠ 19 ∨ j ≠ 1) → (tag b ≠ 23 ∨ j ≠ 2) → (tag b ≠ 23 ∨ j ≠ 3) → (tag b ≠ 26 ∨ j ≠ 13) → fld F b j = fld Fo b j) → fld F p0 2 = .int z51762 → lv_has ls 3 [(0, .ref p0), (1, .int p1), (2, .int z51761)] → W p l e { frames := 6, cells := 0, slots := 0, locals := 157 } s m args below meth c H locs 0 0 Q (F0 m 64 ls []) := by
    intro n
    induction n with
    | zero =>
      intro z51761 z51762 F H locs ls hn rz51761 rz51762 r9s51760 hT hfr qz51762 hl
      exfalso
      omega
    | succ n ih64 =>
      intro z51761 z51762 F H locs ls hn rz51761 rz51762 r9s51760 hT hfr qz51762 hl
      refine lv_iload_n hx hb dX11_years_64 rfl (lv_at hl 2 rfl) ?_
      refine lv_iload_n hx hb dX11_years_65 rfl (lv_at hl 1 rfl) ?_
      refine lv_icmp_ge (tgt := 89) hx hb dX11_years_66 (by decide) (fun c51763 => ?_) (fun c51763 => ?_)
      · have w51764 := cv_le (rfl : p1.toInt = p1.toInt) (rfl : z51761.toInt = z51761.toInt) c51763
        refine lv_aload_n hx hb dX11_years_89 rfl (lv_at hl 0 rfl) ?_
        refine lv_aload_n hx hb dX11_years_90 rfl (lv_at hl 0 rfl) ?_
        refine t_get (C := RX11) (T := TX11) (N := 16) X hT m0 g0 rfl rfl 5 (by decide) qw_23 inlX11 rfl dX11_years_91 (fun v51765 hv51765 ov51765 => ?_)
        obtain ⟨b51766, rfl, mb51766, gb51766⟩ := okV_r ov51765
        have gb51766 : tag b51766 = 19 := tg_of gb51766
        refine t_cVi (n := 0) (C := RX7) (T := TX7) (N := 7) (As := []) (rest := [.ref p0]) X hT (kt23_X7_skinsOfAll l G tag L F hT.2.2.2 b51766 mb51766 gb51766) mb51766 gb51766 rfl rfl qw_1182 qw_1183 qw_1184 qw_22 qw_1185 ⟨rfl, by decide +kernel, by decide +kernel, by decide +kernel⟩ ⟨Nat.le_of_ble_eq_true rfl, Nat.le_of_ble_eq_true rfl⟩ hl rfl rfl (Nat.le_of_ble_eq_true rfl) dX11_years_94 ⟨Nat.le_of_ble_eq_true rfl, Nat.le_of_ble_eq_true rfl⟩ (fun z51767 F9 H locs hT hz51767 => ?_)
        obtain ⟨fz51767, hz51767⟩ := hz51767
        rw [fz51767] at hT
        refine t_cVi (n := 1) (C := RX11) (T := TX11) (N := 16) (As := [.int z51767]) (rest := []) X hT (kt56_X11_answer l G tag L F hT.2.2.2 p0 z51767 m0 g0) m0 g0 rfl rfl qw_463 qw_464 qw_465 qw_2 qw_466 ⟨rfl, by decide +kernel, by decide +kernel, by decide +kernel⟩ ⟨Nat.le_of_ble_eq_true rfl, Nat.le_of_ble_eq_true rfl⟩ hl rfl rfl (Nat.le_of_ble_eq_true rfl) dX11_years_97 ⟨Nat.le_of_ble_eq_true rfl, Nat.le_of_ble_eq_true rfl⟩ (fun z51768 F H locs hT hz51768 => ?_)
        obtain ⟨hz51768, yz51768⟩ := hz51768
        have qz51762 := (yz51768 _ 2 (Or.inr (by decide))).trans qz51762
        have hv51765 := (yz51768 _ 5 (Or.inr (by decide))).trans hv51765
        have hfr : ∀ b j : Nat, (tag b ≠ 19 ∨ j ≠ 0) → (tag b ≠ 19 ∨ j ≠ 1) → (tag b ≠ 23 ∨ j ≠ 2) → (tag b ≠ 23 ∨ j ≠ 3) → (tag b ≠ 26 ∨ j ≠ 13) → fld F b j = fld Fo b j := fun b j n19_0 n19_1 n23_2 n23_3 n26_13 => (yz51768 b j n26_13).trans (hfr b j n19_0 n19_1 n23_2 n23_3 n26_13)
        exact t_iret hQ X hT (⟨rg_all _, hfr⟩) (Nat.le_of_ble_eq_true rfl) (Nat.le_of_ble_eq_true rfl) dX11_years_100
      · have w51769 := cv_nle (rfl : p1.toInt = p1.toInt) (rfl : z51761.toInt = z51761.toInt) c51763
        refine lv_aload_n hx hb dX11_years_69 rfl (lv_at hl 0 rfl) ?_
        refine t_get (C := RX11) (T := TX11) (N := 16) X hT m0 g0 rfl rfl 3 (by decide) qw_18 inlX11 rfl dX11_years_70 (fun v51770 hv51770 ov51770 => ?_)
        obtain ⟨b51771, rfl, mb51771, gb51771⟩ := okV_r ov51770
        have gb51771 : tag b51771 = 18 := tg_of gb51771
        refine lv_aload_n hx hb dX11_years_73 rfl (lv_at hl 0 rfl) ?_
        refine t_get (C := RX11) (T := TX11) (N := 16) X hT m0 g0 rfl rfl 5 (by decide) qw_23 inlX11 rfl dX11_years_74 (fun v51772 hv51772 ov51772 => ?_)
        obtain ⟨b51773, rfl, mb51773, gb51773⟩ := okV_r ov51772
        have gb51773 : tag b51773 = 19 := tg_of gb51773
        refine t_gets X hT X.2.2.2.1.2.2.2.2 qw_1096 dX11_years_77 ?_
        refine t_cSv (n := 3) (As := [.ref b51771, .ref b51773, .ref (G.2 13)]) (rest := []) X hT (kt71_X10_pass l G tag L F hT.2.2.2 b51771 b51773 mb51771 gb51771 mb51773 gb51773) qw_1097 qw_1098 qw_32 qw_1099 ⟨by decide +kernel, by decide +kernel, by decide +kernel⟩ ⟨Nat.le_of_ble_eq_true rfl, Nat.le_of_ble_eq_true rfl⟩ hl rfl rfl (Nat.le_of_ble_eq_true rfl) dX11_years_80 ⟨Nat.le_of_ble_eq_true rfl, Nat.le_of_ble_eq_true rfl⟩ (fun F H locs hT hz51774 => ?_)
        have yz51774 := hz51774
        have qz51762 := (yz51774 _ 2 (Or.inr (by decide)) (Or.inr (by decide))).trans qz51762
        have hv51770 := (yz51774 _ 3 (Or.inr (by decide)) (Or.inr (by decide))).trans hv51770
        have hv51772 := (yz51774 _ 5 (Or.inr (by decide)) (Or.inr (by decide))).trans hv51772
        have hfr : ∀ b j : Nat, (tag b ≠ 19 ∨ j ≠ 0) → (tag b ≠ 19 ∨ j ≠ 1) → (tag b ≠ 23 ∨ j ≠ 2) → (tag b ≠ 23 ∨ j ≠ 3) → (tag b ≠ 26 ∨ j ≠ 13) → fld F b j = fld Fo b j := fun b j n19_0 n19_1 n23_2 n23_3 n26_13 => (yz51774 b j n19_0 n19_1).trans (hfr b j n19_0 n19_1 n23_2 n23_3 n26_13)
        obtain ⟨z51775, ez51775⟩ : ∃ y : Int32, y = z51761 + 1 := ⟨_, rfl⟩
        have hz51775 : z51775.toInt = z51761.toInt + 1 := ar_add ez51775 rfl (by decide : (1 : Int32).toInt = 1) (by omega) (by omega)
        refine lv_iinc (v := z51775) (lv' := [(2, .int z51775), (0, .ref p0), (1, .int p1)]) hx hb dX11_years_83 hl (k := 2) rfl (by rw [ez51775]; rfl) (by decide) rfl (fun ls hl => ?_)
        refine lv_goto (tgt := 64) hx hb dX11_years_86 (by decide) ?_
        exact ih64 z51775 z51762 _ _ _ _ (by omega) (by omega) (by omega) (by omega) hT hfr qz51762 (lv_sub hl [1, 2, 0] rfl)
  refine lv_aload_n hx hb dX11_years_0 rfl (lv_at hl 0 rfl) ?_
  refine t_get (C := RX11) (T := TX11) (N := 16) X hT m0 g0 rfl rfl 2 (by decide) qw_150 inlX11 rfl dX11_years_1 (fun v51776 hv51776 ov51776 => ?_)
  obtain ⟨z51777, rfl, rz51777⟩ := okV_i ov51776
  refine lv_if_ne (tgt := 13) hx hb dX11_years_4 (by decide) (fun c51778 => ?_) (fun c51778 => ?_)
  · have w51779 := cv_ne (rfl : z51777.toInt = z51777.toInt) (by decide : (0 : Int32).toInt = 0) c51778
    refine lv_iload_n hx hb dX11_years_13 rfl (lv_at hl 1 rfl) ?_
    refine lv_iconst (v := 1) hx hb dX11_years_14 (by decide) ?_
    refine lv_icmp_lt (tgt := 24) hx hb dX11_years_15 (by decide) (fun c51780 => ?_) (fun c51780 => ?_)
    · have w51781 := cv_lt (rfl : p1.toInt = p1.toInt) (by decide : (1 : Int32).toInt = 1) c51780
      exact K24 z51777 _ _ _ _ (by omega) hT hfr hv51776 (lv_sub hl [0, 1] rfl)
    · have w51782 := cv_nlt (rfl : p1.toInt = p1.toInt) (by decide : (1 : Int32).toInt = 1) c51780
      refine lv_iload_n hx hb dX11_years_18 rfl (lv_at hl 1 rfl) ?_
      refine lv_bipush (v := 20) hx hb dX11_years_19 (by decide) ?_
      refine lv_icmp_le (tgt := 30) hx hb dX11_years_21 (by decide) (fun c51783 => ?_) (fun c51783 => ?_)
      · have w51784 := cv_le (rfl : p1.toInt = p1.toInt) (by decide : (20 : Int32).toInt = 20) c51783
        refine lv_aload_n hx hb dX11_years_30 rfl (lv_at hl 0 rfl) ?_
        refine t_get (C := RX11) (T := TX11) (N := 16) X hT m0 g0 rfl rfl 5 (by decide) qw_23 inlX11 rfl dX11_years_31 (fun v51785 hv51785 ov51785 => ?_)
        obtain ⟨b51786, rfl, mb51786, gb51786⟩ := okV_r ov51785
        have gb51786 : tag b51786 = 19 := tg_of gb51786
        refine t_get (C := RX7) (T := TX7) (N := 7) X hT mb51786 gb51786 rfl rfl 0 (by decide) qw_1225 inlX7 rfl dX11_years_34 (fun v51787 hv51787 ov51787 => ?_)
        obtain ⟨z51788, rfl, rz51788⟩ := okV_i ov51787
        refine lv_iload_n hx hb dX11_years_37 rfl (lv_at hl 1 rfl) ?_
        refine lv_iadd hx hb dX11_years_38 ?_
        refine lv_topi (fun z51789 ez51789 => ?_)
        have rz51789 := rg_all z51789
        refine lv_sipush (v := 999) hx hb dX11_years_39 (by decide) ?_
        refine lv_icmp_le (tgt := 51) hx hb dX11_years_42 (by decide) (fun c51790 => ?_) (fun c51790 => ?_)
        · have w51791 := cv_le (rfl : z51789.toInt = z51789.toInt) (by decide : (999 : Int32).toInt = 999) c51790
          refine lv_aload_n hx hb dX11_years_51 rfl (lv_at hl 0 rfl) ?_
          refine t_get (C := RX11) (T := TX11) (N := 16) X hT m0 g0 rfl rfl 12 (by decide) qw_45 inlX11 rfl dX11_years_52 (fun v51792 hv51792 ov51792 => ?_)
          obtain ⟨b51793, rfl, mb51793, gb51793⟩ := okV_r ov51792
          have gb51793 : tag b51793 = 23 := tg_of gb51793
          refine lv_aload_n hx hb dX11_years_55 rfl (lv_at hl 0 rfl) ?_
          refine t_get (C := RX11) (T := TX11) (N := 16) X hT m0 g0 rfl rfl 5 (by decide) qw_23 inlX11 rfl dX11_years_56 (fun v51794 hv51794 ov51794 => ?_)
          obtain rfl : v51794 = .ref b51786 := hv51794.symm.trans hv51785
          refine t_cVv (n := 1) (C := RX2) (T := TX2) (N := 5) (As := [.ref b51786]) (rest := []) X hT (kt66_X2_keep l G tag L F hT.2.2.2 b51793 b51786 mb51793 gb51793 mb51786 gb51786) mb51793 gb51793 rfl rfl qw_1427 qw_1428 qw_1429 qw_44 qw_1430 ⟨rfl, by decide +kernel, by decide +kernel, by decide +kernel⟩ ⟨Nat.le_of_ble_eq_true rfl, Nat.le_of_ble_eq_true rfl⟩ hl rfl rfl (Nat.le_of_ble_eq_true rfl) dX11_years_59 ⟨Nat.le_of_ble_eq_true rfl, Nat.le_of_ble_eq_true rfl⟩ (fun F H locs hT hz51795 => ?_)
          have yz51795 := hz51795
          have hv51776 := (yz51795 _ 2 (Or.inr (by decide)) (Or.inr (by decide)) (Or.inl (by rw [g0]; decide)) (Or.inr (by decide))).trans hv51776
          have hv51785 := (yz51795 _ 5 (Or.inr (by decide)) (Or.inr (by decide)) (Or.inr (by decide)) (Or.inr (by decide))).trans hv51785
          have hv51792 := (yz51795 _ 12 (Or.inr (by decide)) (Or.inr (by decide)) (Or.inr (by decide)) (Or.inr (by decide))).trans hv51792
          have hfr : ∀ b j : Nat, (tag b ≠ 19 ∨ j ≠ 0) → (tag b ≠ 19 ∨ j ≠ 1) → (tag b ≠ 23 ∨ j ≠ 2) → (tag b ≠ 23 ∨ j ≠ 3) → (tag b ≠ 26 ∨ j ≠ 13) → fld F b j = fld Fo b j := fun b j n19_0 n19_1 n23_2 n23_3 n26_13 => (yz51795 b j n19_0 n19_1 n23_2 n23_3).trans (hfr b j n19_0 n19_1 n23_2 n23_3 n26_13)
          refine lv_iconst (v := 0) hx hb dX11_years_62 (by decide) ?_
          refine lv_istore_n (lv' := [(2, .int 0), (0, .ref p0), (1, .int p1)]) hx hb dX11_years_63 rfl hl (by decide) rfl (fun ls hl => ?_)
          have kk51796 : (0 : Int32).toInt = 0 := by decide
          exact K64 21 0 z51777 _ _ _ _ (by omega) (by decide) (by omega) (by omega) hT hfr hv51776 (lv_sub hl [1, 2, 0] rfl)
        · have w51797 := cv_nle (rfl : z51789.toInt = z51789.toInt) (by decide : (999 : Int32).toInt = 999) c51790
          refine lv_aload_n hx hb dX11_years_45 rfl (lv_at hl 0 rfl) ?_
          refine lv_iconst (v := 3) hx hb dX11_years_46 (by decide) ?_
          refine t_cVi (n := 1) (C := RX11) (T := TX11) (N := 16) (As := [.int 3]) (rest := []) X hT (kt63_X11_refuse l G tag L F hT.2.2.2 p0 3 m0 g0) m0 g0 rfl rfl qw_152 qw_153 qw_154 qw_2 qw_155 ⟨rfl, by decide +kernel, by decide +kernel, by decide +kernel⟩ ⟨Nat.le_of_ble_eq_true rfl, Nat.le_of_ble_eq_true rfl⟩ hl rfl rfl (Nat.le_of_ble_eq_true rfl) dX11_years_47 ⟨Nat.le_of_ble_eq_true rfl, Nat.le_of_ble_eq_true rfl⟩ (fun z51798 F H locs hT hz51798 => ?_)
          obtain ⟨hz51798, yz51798⟩ := hz51798
          have hv51776 := (yz51798 _ 2 (Or.inr (by decide))).trans hv51776
          have hv51785 := (yz51798 _ 5 (Or.inr (by decide))).trans hv51785
          have hv51787 := (yz51798 _ 0 (Or.inr (by decide))).trans hv51787
          have hfr : ∀ b j : Nat, (tag b ≠ 19 ∨ j ≠ 0) → (tag b ≠ 19 ∨ j ≠ 1) → (tag b ≠ 23 ∨ j ≠ 2) → (tag b ≠ 23 ∨ j ≠ 3) → (tag b ≠ 26 ∨ j ≠ 13) → fld F b j = fld Fo b j := fun b j n19_0 n19_1 n23_2 n23_3 n26_13 => (yz51798 b j n26_13).trans (hfr b j n19_0 n19_1 n23_2 n23_3 n26_13)
          exact t_iret hQ X hT (⟨rg_all _, hfr⟩) (Nat.le_of_ble_eq_true rfl) (Nat.le_of_ble_eq_true rfl) dX11_years_50
      · have w51799 := cv_nle (rfl : p1.toInt = p1.toInt) (by decide : (20 : Int32).toInt = 20) c51783
        exact K24 z51777 _ _ _ _ (by omega) hT hfr hv51776 (lv_sub hl [0, 1] rfl)
  · have w51800 := cv_eq (rfl : z51777.toInt = z51777.toInt) (by decide : (0 : Int32).toInt = 0) c51778
    refine lv_aload_n hx hb dX11_years_7 rfl (lv_at hl 0 rfl) ?_
    refine lv_iconst (v := 1) hx hb dX11_years_8 (by decide) ?_
    refine t_cVi (n := 1) (C := RX11) (T := TX11) (N := 16) (As := [.int 1]) (rest := []) X hT (kt63_X11_refuse l G tag L F hT.2.2.2 p0 1 m0 g0) m0 g0 rfl rfl qw_152 qw_153 qw_154 qw_2 qw_155 ⟨rfl, by decide +kernel, by decide +kernel, by decide +kernel⟩ ⟨Nat.le_of_ble_eq_true rfl, Nat.le_of_ble_eq_true rfl⟩ hl rfl rfl (Nat.le_of_ble_eq_true rfl) dX11_years_9 ⟨Nat.le_of_ble_eq_true rfl, Nat.le_of_ble_eq_true rfl⟩ (fun z51801 F H locs hT hz51801 => ?_)
    obtain ⟨hz51801, yz51801⟩ := hz51801
    have hv51776 := (yz51801 _ 2 (Or.inr (by decide))).trans hv51776
    have hfr : ∀ b j : Nat, (tag b ≠ 19 ∨ j ≠ 0) → (tag b ≠ 19 ∨ j ≠ 1) → (tag b ≠ 23 ∨ j ≠ 2) → (tag b ≠ 23 ∨ j ≠ 3) → (tag b ≠ 26 ∨ j ≠ 13) → fld F b j = fld Fo b j := fun b j n19_0 n19_1 n23_2 n23_3 n26_13 => (yz51801 b j n26_13).trans (hfr b j n19_0 n19_1 n23_2 n23_3 n26_13)
    exact t_iret hQ X hT (⟨rg_all _, hfr⟩) (Nat.le_of_ble_eq_true rfl) (Nat.le_of_ble_eq_true rfl) dX11_years_12
set_option maxHeartbeats 4000000 in
set_option maxRecDepth 100000 in
theorem kt141_X2_forget (l : Launch) (G : KG) (tag : Nat → Nat) (L : List Nat) (Fo : Nat → va_E) (ho : okT G ttC tag L Fo) (p0 : Nat) (m0 : p0 ∈ L) (g0 : tag p0 = 23) : TMv l yX2_forget cX2_forget 1 { frames := 0, cells := 0, slots := 0, locals := 0 } G ttC tag L Fo [.ref p0] (fun F1 => ∀ b j : Nat, (tag b ≠ 23 ∨ j ≠ 3) → (tag b ≠ 23 ∨ j ≠ 4) → fld F1 b j = fld Fo b j) := by
  refine t_bodyv (y := yX2_forget) (cd := cX2_forget) (mL := 1) (rm := { frames := 0, cells := 0, slots := 0, locals := 0 }) (av := [.ref p0]) (by decide) (Nat.le_of_ble_eq_true rfl) ho ?_
  intro p e s m args below meth c ls A Q hQ X hT hl
  have hx := X.1.1
  have hb := X.1.2.1
  have hl : lv_has ls 1 [(0, .ref p0)] := hl
  obtain ⟨F, hFo⟩ : ∃ F : Nat → va_E, F = Fo := ⟨_, rfl⟩
  rw [← hFo] at hT
  have hfr : ∀ b j : Nat, (tag b ≠ 23 ∨ j ≠ 3) → (tag b ≠ 23 ∨ j ≠ 4) → fld F b j = fld Fo b j := by
    rw [hFo]
    intros
    rfl
  refine lv_aload_n hx hb dX2_forget_0 rfl (lv_at hl 0 rfl) ?_
  refine lv_iconst (v := 0) hx hb dX2_forget_1 (by decide) ?_
  refine t_put (C := RX2) (T := TX2) (N := 5) (v := .int 0) X hT m0 g0 rfl tyX2 tyX2_ok nmX2 rfl 3 (by decide) qw_461 inlX2 rfl (by first | rfl | decide) (by first | rfl | decide) rfl (⟨_, rfl, (by decide), (by decide)⟩) dX2_forget_2 (fun F H locs hT v51824 h1v51824 h2v51824 => ?_)
  have hfr : ∀ b j : Nat, (tag b ≠ 23 ∨ j ≠ 3) → (tag b ≠ 23 ∨ j ≠ 4) → fld F b j = fld Fo b j := fun b j n23_3 n23_4 => (h1v51824 b j (fr_ne g0 n23_3)).trans (hfr b j n23_3 n23_4)
  refine lv_aload_n hx hb dX2_forget_5 rfl (lv_at hl 0 rfl) ?_
  refine lv_iconst (v := 0) hx hb dX2_forget_6 (by decide) ?_
  refine t_put (C := RX2) (T := TX2) (N := 5) (v := .int 0) X hT m0 g0 rfl tyX2 tyX2_ok nmX2 rfl 4 (by decide) qw_462 inlX2 rfl (by first | rfl | decide) (by first | rfl | decide) rfl (⟨_, rfl, (by decide), (by decide)⟩) dX2_forget_7 (fun F H locs hT v51825 h1v51825 h2v51825 => ?_)
  have v51824 := (h1v51825 _ _ (Or.inr (by decide))).trans v51824
  have hfr : ∀ b j : Nat, (tag b ≠ 23 ∨ j ≠ 3) → (tag b ≠ 23 ∨ j ≠ 4) → fld F b j = fld Fo b j := fun b j n23_3 n23_4 => (h1v51825 b j (fr_ne g0 n23_4)).trans (hfr b j n23_3 n23_4)
  exact t_vret hQ X hT hfr (Nat.le_of_ble_eq_true rfl) (Nat.le_of_ble_eq_true rfl) dX2_forget_10
set_option maxHeartbeats 4000000 in
set_option maxRecDepth 100000 in
theorem kt142_X3_isLineAgain (l : Launch) (G : KG) (tag : Nat → Nat) (L : List Nat) (F : Nat → va_E) (ho : okT G ttC tag L F) (p0 : Nat) (p1 : Int32) (m0 : p0 ∈ L) (g0 : tag p0 = 25) : TMi l yX3_isLineAgain cX3_isLineAgain 2 (some .boolean) { frames := 0, cells := 0, slots := 0, locals := 0 } G ttC tag L F [.ref p0, .int p1] (fun r F1 => F1 = F ∧ (0 ≤ r.toInt ∧ r.toInt ≤ 1)) := by
  refine t_bodyi (y := yX3_isLineAgain) (cd := cX3_isLineAgain) (mL := 2) (rt := (some .boolean)) (rm := { frames := 0, cells := 0, slots := 0, locals := 0 }) (av := [.ref p0, .int p1]) (by decide) (Nat.le_of_ble_eq_true rfl) ho ?_
  intro p e s m args below meth c ls A Q hQ X hT hl
  have hx := X.1.1
  have hb := X.1.2.1
  have hl : lv_has ls 2 [(0, .ref p0), (1, .int p1)] := hl
  have rp1 := rg_all p1
  have K23 : ∀  (H : Heap) (locs : List Loc) (ls : Array Slot), (0 ≤ p1.toInt ∧ p1.toInt ≤ 1) → TH G ttC A s tag L F H locs → lv_has ls 2 [(0, .ref p0), (1, .int p1)] → W p l e { frames := 0, cells := 0, slots := 0, locals := 0 } s m args below meth c H locs 0 0 Q (F0 m 23 ls []) := by
    intro H locs ls r9s52034 hT hl
    refine lv_iconst (v := 1) hx hb dX3_isLineAgain_23 (by decide) ?_
    refine lv_goto (tgt := 28) hx hb dX3_isLineAgain_24 (by decide) ?_
    exact t_zret hQ X hT (by decide) (⟨rfl, (by decide)⟩) (Nat.le_of_ble_eq_true rfl) (Nat.le_of_ble_eq_true rfl) dX3_isLineAgain_28
  have K11 : ∀  (H : Heap) (locs : List Loc) (ls : Array Slot), TH G ttC A s tag L F H locs → lv_has ls 2 [(0, .ref p0), (1, .int p1)] → W p l e { frames := 0, cells := 0, slots := 0, locals := 0 } s m args below meth c H locs 0 0 Q (F0 m 11 ls []) := by
    intro H locs ls hT hl
    refine lv_iload_n hx hb dX3_isLineAgain_11 rfl (lv_at hl 1 rfl) ?_
    refine lv_iconst (v := 1) hx hb dX3_isLineAgain_12 (by decide) ?_
    refine lv_icmp_ne (tgt := 27) hx hb dX3_isLineAgain_13 (by decide) (fun c52035 => ?_) (fun c52035 => ?_)
    · have w52036 := cv_ne (rfl : p1.toInt = p1.toInt) (by decide : (1 : Int32).toInt = 1) c52035
      refine lv_iconst (v := 0) hx hb dX3_isLineAgain_27 (by decide) ?_
      exact t_zret hQ X hT (by decide) (⟨rfl, (by decide)⟩) (Nat.le_of_ble_eq_true rfl) (Nat.le_of_ble_eq_true rfl) dX3_isLineAgain_28
    · have w52037 := cv_eq (rfl : p1.toInt = p1.toInt) (by decide : (1 : Int32).toInt = 1) c52035
      refine lv_aload_n hx hb dX3_isLineAgain_16 rfl (lv_at hl 0 rfl) ?_
      refine t_get (C := RX3) (T := TX3) (N := 13) X hT m0 g0 rfl rfl 6 (by decide) qw_166 inlX3 rfl dX3_isLineAgain_17 (fun v52038 hv52038 ov52038 => ?_)
      obtain ⟨z52039, rfl, rz52039⟩ := okV_i ov52038
      refine lv_if_eq (tgt := 27) hx hb dX3_isLineAgain_20 (by decide) (fun c52040 => ?_) (fun c52040 => ?_)
      · have w52041 := cv_eq (rfl : z52039.toInt = z52039.toInt) (by decide : (0 : Int32).toInt = 0) c52040
        refine lv_iconst (v := 0) hx hb dX3_isLineAgain_27 (by decide) ?_
        exact t_zret hQ X hT (by decide) (⟨rfl, (by decide)⟩) (Nat.le_of_ble_eq_true rfl) (Nat.le_of_ble_eq_true rfl) dX3_isLineAgain_28
      · have w52042 := cv_ne (rfl : z52039.toInt = z52039.toInt) (by decide : (0 : Int32).toInt = 0) c52040
        exact K23  _ _ _ (by omega) hT  (lv_sub hl [0, 1] rfl)
  refine lv_iload_n hx hb dX3_isLineAgain_0 rfl (lv_at hl 1 rfl) ?_
  refine lv_if_ne (tgt := 11) hx hb dX3_isLineAgain_1 (by decide) (fun c52043 => ?_) (fun c52043 => ?_)
  · have w52044 := cv_ne (rfl : p1.toInt = p1.toInt) (by decide : (0 : Int32).toInt = 0) c52043
    exact K11  _ _ _  hT  (lv_sub hl [0, 1] rfl)
  · have w52045 := cv_eq (rfl : p1.toInt = p1.toInt) (by decide : (0 : Int32).toInt = 0) c52043
    refine lv_aload_n hx hb dX3_isLineAgain_4 rfl (lv_at hl 0 rfl) ?_
    refine t_get (C := RX3) (T := TX3) (N := 13) X hT m0 g0 rfl rfl 5 (by decide) qw_165 inlX3 rfl dX3_isLineAgain_5 (fun v52046 hv52046 ov52046 => ?_)
    obtain ⟨z52047, rfl, rz52047⟩ := okV_i ov52046
    refine lv_if_ne (tgt := 23) hx hb dX3_isLineAgain_8 (by decide) (fun c52048 => ?_) (fun c52048 => ?_)
    · have w52049 := cv_ne (rfl : z52047.toInt = z52047.toInt) (by decide : (0 : Int32).toInt = 0) c52048
      exact K23  _ _ _ (by omega) hT  (lv_sub hl [0, 1] rfl)
    · have w52050 := cv_eq (rfl : z52047.toInt = z52047.toInt) (by decide : (0 : Int32).toInt = 0) c52048
      exact K11  _ _ _  hT  (lv_sub hl [0, 1] rfl)
set_option maxHeartbeats 4000000 in
set_option maxRecDepth 100000 in
theorem kt143_X3_isLineTooMany (l : Launch) (G : KG) (tag : Nat → Nat) (L : List Nat) (F : Nat → va_E) (ho : okT G ttC tag L F) (p0 : Nat) (p1 : Int32) (x0 : Nat) (x1 : Nat) (x2 : Nat) (x3 : Nat) (m0 : p0 ∈ L) (g0 : tag p0 = 25) (mx0 : x0 ∈ L) (gx0 : tag x0 = 24) (pf0 : fld F p0 0 = .ref x0) (mx1 : x1 ∈ L) (gx1 : tag x1 = 18) (pf1 : fld F p0 1 = .ref x1) (mx2 : x2 ∈ L) (gx2 : tag x2 = 19) (pf2 : fld F p0 2 = .ref x2) (mx3 : x3 ∈ L) (gx3 : tag x3 = 1) (pf3 : fld F x0 0 = .ref x3) : TMi l yX3_isLineTooMany cX3_isLineTooMany 2 (some .boolean) { frames := 0, cells := 0, slots := 0, locals := 0 } G ttC tag L F [.ref p0, .int p1] (fun r F1 => F1 = F ∧ (0 ≤ r.toInt ∧ r.toInt ≤ 1)) := by
  refine t_bodyi (y := yX3_isLineTooMany) (cd := cX3_isLineTooMany) (mL := 2) (rt := (some .boolean)) (rm := { frames := 0, cells := 0, slots := 0, locals := 0 }) (av := [.ref p0, .int p1]) (by decide) (Nat.le_of_ble_eq_true rfl) ho ?_
  intro p e s m args below meth c ls A Q hQ X hT hl
  have hx := X.1.1
  have hb := X.1.2.1
  have hl : lv_has ls 2 [(0, .ref p0), (1, .int p1)] := hl
  have rp1 := rg_all p1
  refine lv_iload_n hx hb dX3_isLineTooMany_0 rfl (lv_at hl 1 rfl) ?_
  by_cases c52659 : p1 = 2
  · have w52660 := cv_eq (rfl : p1.toInt = p1.toInt) (by decide : (2 : Int32).toInt = 2) c52659
    refine lv_tableIn (off := 43) (tgt := 44) hx hb dX3_isLineTooMany_1 (by rw [c52659]; decide) (by rw [c52659]; decide) (by rw [c52659]; decide) (by decide) ?_
    refine lv_aload_n hx hb dX3_isLineTooMany_44 rfl (lv_at hl 0 rfl) ?_
    refine t_get (C := RX3) (T := TX3) (N := 13) X hT m0 g0 rfl rfl 7 (by decide) qw_167 inlX3 rfl dX3_isLineTooMany_45 (fun v52661 hv52661 ov52661 => ?_)
    obtain ⟨z52662, rfl, rz52662⟩ := okV_i ov52661
    refine lv_bipush (v := 10) hx hb dX3_isLineTooMany_48 (by decide) ?_
    refine lv_icmp_lt (tgt := 57) hx hb dX3_isLineTooMany_50 (by decide) (fun c52663 => ?_) (fun c52663 => ?_)
    · have w52664 := cv_lt (rfl : z52662.toInt = z52662.toInt) (by decide : (10 : Int32).toInt = 10) c52663
      refine lv_iconst (v := 0) hx hb dX3_isLineTooMany_57 (by decide) ?_
      exact t_zret hQ X hT (by decide) (⟨rfl, (by decide)⟩) (Nat.le_of_ble_eq_true rfl) (Nat.le_of_ble_eq_true rfl) dX3_isLineTooMany_58
    · have w52665 := cv_nlt (rfl : z52662.toInt = z52662.toInt) (by decide : (10 : Int32).toInt = 10) c52663
      refine lv_iconst (v := 1) hx hb dX3_isLineTooMany_53 (by decide) ?_
      refine lv_goto (tgt := 58) hx hb dX3_isLineTooMany_54 (by decide) ?_
      exact t_zret hQ X hT (by decide) (⟨rfl, (by decide)⟩) (Nat.le_of_ble_eq_true rfl) (Nat.le_of_ble_eq_true rfl) dX3_isLineTooMany_58
  have w52666 := cv_ne (rfl : p1.toInt = p1.toInt) (by decide : (2 : Int32).toInt = 2) c52659
  by_cases c52667 : p1 = 3
  · have w52668 := cv_eq (rfl : p1.toInt = p1.toInt) (by decide : (3 : Int32).toInt = 3) c52667
    refine lv_tableIn (off := 58) (tgt := 59) hx hb dX3_isLineTooMany_1 (by rw [c52667]; decide) (by rw [c52667]; decide) (by rw [c52667]; decide) (by decide) ?_
    refine lv_aload_n hx hb dX3_isLineTooMany_59 rfl (lv_at hl 0 rfl) ?_
    refine t_get (C := RX3) (T := TX3) (N := 13) X hT m0 g0 rfl rfl 1 (by decide) qw_161 inlX3 rfl dX3_isLineTooMany_60 (fun v52669 hv52669 ov52669 => ?_)
    obtain rfl : v52669 = .ref x1 := hv52669.symm.trans pf1
    refine t_get (C := RX1) (T := TX1) (N := 20) X hT mx1 gx1 rfl rfl 8 (by decide) qw_171 inlX1 rfl dX3_isLineTooMany_63 (fun v52670 hv52670 ov52670 => ?_)
    obtain ⟨z52671, rfl, rz52671⟩ := okV_i ov52670
    refine lv_iconst (v := 4) hx hb dX3_isLineTooMany_66 (by decide) ?_
    refine lv_icmp_lt (tgt := 74) hx hb dX3_isLineTooMany_67 (by decide) (fun c52672 => ?_) (fun c52672 => ?_)
    · have w52673 := cv_lt (rfl : z52671.toInt = z52671.toInt) (by decide : (4 : Int32).toInt = 4) c52672
      refine lv_iconst (v := 0) hx hb dX3_isLineTooMany_74 (by decide) ?_
      exact t_zret hQ X hT (by decide) (⟨rfl, (by decide)⟩) (Nat.le_of_ble_eq_true rfl) (Nat.le_of_ble_eq_true rfl) dX3_isLineTooMany_75
    · have w52674 := cv_nlt (rfl : z52671.toInt = z52671.toInt) (by decide : (4 : Int32).toInt = 4) c52672
      refine lv_iconst (v := 1) hx hb dX3_isLineTooMany_70 (by decide) ?_
      refine lv_goto (tgt := 75) hx hb dX3_isLineTooMany_71 (by decide) ?_
      exact t_zret hQ X hT (by decide) (⟨rfl, (by decide)⟩) (Nat.le_of_ble_eq_true rfl) (Nat.le_of_ble_eq_true rfl) dX3_isLineTooMany_75
  have w52675 := cv_ne (rfl : p1.toInt = p1.toInt) (by decide : (3 : Int32).toInt = 3) c52667
  by_cases c52676 : p1 = 4
  · have w52677 := cv_eq (rfl : p1.toInt = p1.toInt) (by decide : (4 : Int32).toInt = 4) c52676
    refine lv_tableIn (off := 75) (tgt := 76) hx hb dX3_isLineTooMany_1 (by rw [c52676]; decide) (by rw [c52676]; decide) (by rw [c52676]; decide) (by decide) ?_
    refine lv_aload_n hx hb dX3_isLineTooMany_76 rfl (lv_at hl 0 rfl) ?_
    refine t_get (C := RX3) (T := TX3) (N := 13) X hT m0 g0 rfl rfl 1 (by decide) qw_161 inlX3 rfl dX3_isLineTooMany_77 (fun v52678 hv52678 ov52678 => ?_)
    obtain rfl : v52678 = .ref x1 := hv52678.symm.trans pf1
    refine t_get (C := RX1) (T := TX1) (N := 20) X hT mx1 gx1 rfl rfl 10 (by decide) qw_172 inlX1 rfl dX3_isLineTooMany_80 (fun v52679 hv52679 ov52679 => ?_)
    obtain ⟨z52680, rfl, rz52680⟩ := okV_i ov52679
    refine lv_iconst (v := 4) hx hb dX3_isLineTooMany_83 (by decide) ?_
    refine lv_icmp_lt (tgt := 91) hx hb dX3_isLineTooMany_84 (by decide) (fun c52681 => ?_) (fun c52681 => ?_)
    · have w52682 := cv_lt (rfl : z52680.toInt = z52680.toInt) (by decide : (4 : Int32).toInt = 4) c52681
      refine lv_iconst (v := 0) hx hb dX3_isLineTooMany_91 (by decide) ?_
      exact t_zret hQ X hT (by decide) (⟨rfl, (by decide)⟩) (Nat.le_of_ble_eq_true rfl) (Nat.le_of_ble_eq_true rfl) dX3_isLineTooMany_92
    · have w52683 := cv_nlt (rfl : z52680.toInt = z52680.toInt) (by decide : (4 : Int32).toInt = 4) c52681
      refine lv_iconst (v := 1) hx hb dX3_isLineTooMany_87 (by decide) ?_
      refine lv_goto (tgt := 92) hx hb dX3_isLineTooMany_88 (by decide) ?_
      exact t_zret hQ X hT (by decide) (⟨rfl, (by decide)⟩) (Nat.le_of_ble_eq_true rfl) (Nat.le_of_ble_eq_true rfl) dX3_isLineTooMany_92
  have w52684 := cv_ne (rfl : p1.toInt = p1.toInt) (by decide : (4 : Int32).toInt = 4) c52676
  by_cases c52685 : p1 = 5
  · have w52686 := cv_eq (rfl : p1.toInt = p1.toInt) (by decide : (5 : Int32).toInt = 5) c52685
    refine lv_tableIn (off := 143) (tgt := 144) hx hb dX3_isLineTooMany_1 (by rw [c52685]; decide) (by rw [c52685]; decide) (by rw [c52685]; decide) (by decide) ?_
    refine lv_iconst (v := 0) hx hb dX3_isLineTooMany_144 (by decide) ?_
    exact t_zret hQ X hT (by decide) (⟨rfl, (by decide)⟩) (Nat.le_of_ble_eq_true rfl) (Nat.le_of_ble_eq_true rfl) dX3_isLineTooMany_145
  have w52687 := cv_ne (rfl : p1.toInt = p1.toInt) (by decide : (5 : Int32).toInt = 5) c52685
  by_cases c52688 : p1 = 6
  · have w52689 := cv_eq (rfl : p1.toInt = p1.toInt) (by decide : (6 : Int32).toInt = 6) c52688
    refine lv_tableIn (off := 92) (tgt := 93) hx hb dX3_isLineTooMany_1 (by rw [c52688]; decide) (by rw [c52688]; decide) (by rw [c52688]; decide) (by decide) ?_
    refine lv_aload_n hx hb dX3_isLineTooMany_93 rfl (lv_at hl 0 rfl) ?_
    refine t_get (C := RX3) (T := TX3) (N := 13) X hT m0 g0 rfl rfl 1 (by decide) qw_161 inlX3 rfl dX3_isLineTooMany_94 (fun v52690 hv52690 ov52690 => ?_)
    obtain rfl : v52690 = .ref x1 := hv52690.symm.trans pf1
    refine t_get (C := RX1) (T := TX1) (N := 20) X hT mx1 gx1 rfl rfl 14 (by decide) qw_303 inlX1 rfl dX3_isLineTooMany_97 (fun v52691 hv52691 ov52691 => ?_)
    obtain ⟨z52692, rfl, rz52692⟩ := okV_i ov52691
    refine lv_bipush (v := 6) hx hb dX3_isLineTooMany_100 (by decide) ?_
    refine lv_icmp_lt (tgt := 109) hx hb dX3_isLineTooMany_102 (by decide) (fun c52693 => ?_) (fun c52693 => ?_)
    · have w52694 := cv_lt (rfl : z52692.toInt = z52692.toInt) (by decide : (6 : Int32).toInt = 6) c52693
      refine lv_iconst (v := 0) hx hb dX3_isLineTooMany_109 (by decide) ?_
      exact t_zret hQ X hT (by decide) (⟨rfl, (by decide)⟩) (Nat.le_of_ble_eq_true rfl) (Nat.le_of_ble_eq_true rfl) dX3_isLineTooMany_110
    · have w52695 := cv_nlt (rfl : z52692.toInt = z52692.toInt) (by decide : (6 : Int32).toInt = 6) c52693
      refine lv_iconst (v := 1) hx hb dX3_isLineTooMany_105 (by decide) ?_
      refine lv_goto (tgt := 110) hx hb dX3_isLineTooMany_106 (by decide) ?_
      exact t_zret hQ X hT (by decide) (⟨rfl, (by decide)⟩) (Nat.le_of_ble_eq_true rfl) (Nat.le_of_ble_eq_true rfl) dX3_isLineTooMany_110
  have w52696 := cv_ne (rfl : p1.toInt = p1.toInt) (by decide : (6 : Int32).toInt = 6) c52688
  by_cases c52697 : p1 = 7
  · have w52698 := cv_eq (rfl : p1.toInt = p1.toInt) (by decide : (7 : Int32).toInt = 7) c52697
    refine lv_tableIn (off := 110) (tgt := 111) hx hb dX3_isLineTooMany_1 (by rw [c52697]; decide) (by rw [c52697]; decide) (by rw [c52697]; decide) (by decide) ?_
    refine lv_aload_n hx hb dX3_isLineTooMany_111 rfl (lv_at hl 0 rfl) ?_
    refine t_get (C := RX3) (T := TX3) (N := 13) X hT m0 g0 rfl rfl 1 (by decide) qw_161 inlX3 rfl dX3_isLineTooMany_112 (fun v52699 hv52699 ov52699 => ?_)
    obtain rfl : v52699 = .ref x1 := hv52699.symm.trans pf1
    refine t_get (C := RX1) (T := TX1) (N := 20) X hT mx1 gx1 rfl rfl 16 (by decide) qw_304 inlX1 rfl dX3_isLineTooMany_115 (fun v52700 hv52700 ov52700 => ?_)
    obtain ⟨z52701, rfl, rz52701⟩ := okV_i ov52700
    refine lv_bipush (v := 6) hx hb dX3_isLineTooMany_118 (by decide) ?_
    refine lv_icmp_lt (tgt := 127) hx hb dX3_isLineTooMany_120 (by decide) (fun c52702 => ?_) (fun c52702 => ?_)
    · have w52703 := cv_lt (rfl : z52701.toInt = z52701.toInt) (by decide : (6 : Int32).toInt = 6) c52702
      refine lv_iconst (v := 0) hx hb dX3_isLineTooMany_127 (by decide) ?_
      exact t_zret hQ X hT (by decide) (⟨rfl, (by decide)⟩) (Nat.le_of_ble_eq_true rfl) (Nat.le_of_ble_eq_true rfl) dX3_isLineTooMany_128
    · have w52704 := cv_nlt (rfl : z52701.toInt = z52701.toInt) (by decide : (6 : Int32).toInt = 6) c52702
      refine lv_iconst (v := 1) hx hb dX3_isLineTooMany_123 (by decide) ?_
      refine lv_goto (tgt := 128) hx hb dX3_isLineTooMany_124 (by decide) ?_
      exact t_zret hQ X hT (by decide) (⟨rfl, (by decide)⟩) (Nat.le_of_ble_eq_true rfl) (Nat.le_of_ble_eq_true rfl) dX3_isLineTooMany_128
  have w52705 := cv_ne (rfl : p1.toInt = p1.toInt) (by decide : (7 : Int32).toInt = 7) c52697
  by_cases c52706 : p1 = 8
  · have w52707 := cv_eq (rfl : p1.toInt = p1.toInt) (by decide : (8 : Int32).toInt = 8) c52706
    refine lv_tableIn (off := 128) (tgt := 129) hx hb dX3_isLineTooMany_1 (by rw [c52706]; decide) (by rw [c52706]; decide) (by rw [c52706]; decide) (by decide) ?_
    refine lv_aload_n hx hb dX3_isLineTooMany_129 rfl (lv_at hl 0 rfl) ?_
    refine t_get (C := RX3) (T := TX3) (N := 13) X hT m0 g0 rfl rfl 8 (by decide) qw_168 inlX3 rfl dX3_isLineTooMany_130 (fun v52708 hv52708 ov52708 => ?_)
    obtain ⟨z52709, rfl, rz52709⟩ := okV_i ov52708
    refine lv_bipush (v := 8) hx hb dX3_isLineTooMany_133 (by decide) ?_
    refine lv_icmp_lt (tgt := 142) hx hb dX3_isLineTooMany_135 (by decide) (fun c52710 => ?_) (fun c52710 => ?_)
    · have w52711 := cv_lt (rfl : z52709.toInt = z52709.toInt) (by decide : (8 : Int32).toInt = 8) c52710
      refine lv_iconst (v := 0) hx hb dX3_isLineTooMany_142 (by decide) ?_
      exact t_zret hQ X hT (by decide) (⟨rfl, (by decide)⟩) (Nat.le_of_ble_eq_true rfl) (Nat.le_of_ble_eq_true rfl) dX3_isLineTooMany_143
    · have w52712 := cv_nlt (rfl : z52709.toInt = z52709.toInt) (by decide : (8 : Int32).toInt = 8) c52710
      refine lv_iconst (v := 1) hx hb dX3_isLineTooMany_138 (by decide) ?_
      refine lv_goto (tgt := 143) hx hb dX3_isLineTooMany_139 (by decide) ?_
      exact t_zret hQ X hT (by decide) (⟨rfl, (by decide)⟩) (Nat.le_of_ble_eq_true rfl) (Nat.le_of_ble_eq_true rfl) dX3_isLineTooMany_143
  have w52713 := cv_ne (rfl : p1.toInt = p1.toInt) (by decide : (8 : Int32).toInt = 8) c52706
  refine lv_tableOut (tgt := 144) hx hb dX3_isLineTooMany_1 (by omega) (by decide) ?_
  refine lv_iconst (v := 0) hx hb dX3_isLineTooMany_144 (by decide) ?_
  exact t_zret hQ X hT (by decide) (⟨rfl, (by decide)⟩) (Nat.le_of_ble_eq_true rfl) (Nat.le_of_ble_eq_true rfl) dX3_isLineTooMany_145
set_option maxHeartbeats 4000000 in
set_option maxRecDepth 100000 in
theorem kt144_X3_fail (l : Launch) (G : KG) (tag : Nat → Nat) (L : List Nat) (Fo : Nat → va_E) (ho : okT G ttC tag L Fo) (p0 : Nat) (p1 : Int32) (p2 : Int32) (m0 : p0 ∈ L) (g0 : tag p0 = 25) : TMv l yX3_fail cX3_fail 3 { frames := 0, cells := 0, slots := 0, locals := 0 } G ttC tag L Fo [.ref p0, .int p1, .int p2] (fun F1 => ∀ b j : Nat, (tag b ≠ 25 ∨ j ≠ 3) → (tag b ≠ 25 ∨ j ≠ 4) → fld F1 b j = fld Fo b j) := by
  refine t_bodyv (y := yX3_fail) (cd := cX3_fail) (mL := 3) (rm := { frames := 0, cells := 0, slots := 0, locals := 0 }) (av := [.ref p0, .int p1, .int p2]) (by decide) (Nat.le_of_ble_eq_true rfl) ho ?_
  intro p e s m args below meth c ls A Q hQ X hT hl
  have hx := X.1.1
  have hb := X.1.2.1
  have hl : lv_has ls 3 [(0, .ref p0), (1, .int p1), (2, .int p2)] := hl
  have rp1 := rg_all p1
  have rp2 := rg_all p2
  obtain ⟨F, hFo⟩ : ∃ F : Nat → va_E, F = Fo := ⟨_, rfl⟩
  rw [← hFo] at hT
  have hfr : ∀ b j : Nat, (tag b ≠ 25 ∨ j ≠ 3) → (tag b ≠ 25 ∨ j ≠ 4) → fld F b j = fld Fo b j := by
    rw [hFo]
    intros
    rfl
  refine lv_aload_n hx hb dX3_fail_0 rfl (lv_at hl 0 rfl) ?_
  refine t_get (C := RX3) (T := TX3) (N := 13) X hT m0 g0 rfl rfl 3 (by decide) qw_163 inlX3 rfl dX3_fail_1 (fun v52806 hv52806 ov52806 => ?_)
  obtain ⟨z52807, rfl, rz52807⟩ := okV_i ov52806
  refine lv_if_ne (tgt := 17) hx hb dX3_fail_4 (by decide) (fun c52808 => ?_) (fun c52808 => ?_)
  · have w52809 := cv_ne (rfl : z52807.toInt = z52807.toInt) (by decide : (0 : Int32).toInt = 0) c52808
    exact t_vret hQ X hT hfr (Nat.le_of_ble_eq_true rfl) (Nat.le_of_ble_eq_true rfl) dX3_fail_17
  · have w52810 := cv_eq (rfl : z52807.toInt = z52807.toInt) (by decide : (0 : Int32).toInt = 0) c52808
    refine lv_aload_n hx hb dX3_fail_7 rfl (lv_at hl 0 rfl) ?_
    refine lv_iload_n hx hb dX3_fail_8 rfl (lv_at hl 1 rfl) ?_
    refine t_put (C := RX3) (T := TX3) (N := 13) (v := .int p1) X hT m0 g0 rfl tyX3 tyX3_ok nmX3 rfl 3 (by decide) qw_163 inlX3 rfl (by first | rfl | decide) (by first | rfl | decide) rfl (⟨_, rfl, (by omega), (by omega)⟩) dX3_fail_9 (fun F H locs hT v52811 h1v52811 h2v52811 => ?_)
    have hfr : ∀ b j : Nat, (tag b ≠ 25 ∨ j ≠ 3) → (tag b ≠ 25 ∨ j ≠ 4) → fld F b j = fld Fo b j := fun b j n25_3 n25_4 => (h1v52811 b j (fr_ne g0 n25_3)).trans (hfr b j n25_3 n25_4)
    refine lv_aload_n hx hb dX3_fail_12 rfl (lv_at hl 0 rfl) ?_
    refine lv_iload_n hx hb dX3_fail_13 rfl (lv_at hl 2 rfl) ?_
    refine t_put (C := RX3) (T := TX3) (N := 13) (v := .int p2) X hT m0 g0 rfl tyX3 tyX3_ok nmX3 rfl 4 (by decide) qw_164 inlX3 rfl (by first | rfl | decide) (by first | rfl | decide) rfl (⟨_, rfl, (by omega), (by omega)⟩) dX3_fail_14 (fun F H locs hT v52812 h1v52812 h2v52812 => ?_)
    have v52811 := (h1v52812 _ _ (Or.inr (by decide))).trans v52811
    have hfr : ∀ b j : Nat, (tag b ≠ 25 ∨ j ≠ 3) → (tag b ≠ 25 ∨ j ≠ 4) → fld F b j = fld Fo b j := fun b j n25_3 n25_4 => (h1v52812 b j (fr_ne g0 n25_4)).trans (hfr b j n25_3 n25_4)
    exact t_vret hQ X hT hfr (Nat.le_of_ble_eq_true rfl) (Nat.le_of_ble_eq_true rfl) dX3_fail_17
set_option maxHeartbeats 4000000 in
set_option maxRecDepth 100000 in
theorem kt145_X3_checkLine (l : Launch) (G : KG) (tag : Nat → Nat) (L : List Nat) (Fo : Nat → va_E) (ho : okT G ttC tag L Fo) (p0 : Nat) (p1 : Int32) (x0 : Nat) (x1 : Nat) (x2 : Nat) (x3 : Nat) (m0 : p0 ∈ L) (g0 : tag p0 = 25) (mx0 : x0 ∈ L) (gx0 : tag x0 = 24) (pf0 : fld Fo p0 0 = .ref x0) (mx1 : x1 ∈ L) (gx1 : tag x1 = 18) (pf1 : fld Fo p0 1 = .ref x1) (mx2 : x2 ∈ L) (gx2 : tag x2 = 19) (pf2 : fld Fo p0 2 = .ref x2) (mx3 : x3 ∈ L) (gx3 : tag x3 = 1) (pf3 : fld Fo x0 0 = .ref x3) : TMv l yX3_checkLine cX3_checkLine 2 { frames := 1, cells := 0, slots := 0, locals := 22 } G ttC tag L Fo [.ref p0, .int p1] (fun F1 => ∀ b j : Nat, (tag b ≠ 25 ∨ j ≠ 3) → (tag b ≠ 25 ∨ j ≠ 4) → fld F1 b j = fld Fo b j) := by
  refine t_bodyv (y := yX3_checkLine) (cd := cX3_checkLine) (mL := 2) (rm := { frames := 1, cells := 0, slots := 0, locals := 22 }) (av := [.ref p0, .int p1]) (by decide) (Nat.le_of_ble_eq_true rfl) ho ?_
  intro p e s m args below meth c ls A Q hQ X hT hl
  have hx := X.1.1
  have hb := X.1.2.1
  have hl : lv_has ls 2 [(0, .ref p0), (1, .int p1)] := hl
  have rp1 := rg_all p1
  obtain ⟨F, hFo⟩ : ∃ F : Nat → va_E, F = Fo := ⟨_, rfl⟩
  rw [← hFo] at hT
  have hfr : ∀ b j : Nat, (tag b ≠ 25 ∨ j ≠ 3) → (tag b ≠ 25 ∨ j ≠ 4) → fld F b j = fld Fo b j := by
    rw [hFo]
    intros
    rfl
  have K72 : ∀  (F : Nat → va_E) (H : Heap) (locs : List Loc) (ls : Array Slot), TH G ttC A s tag L F H locs → (∀ b j : Nat, (tag b ≠ 25 ∨ j ≠ 3) → (tag b ≠ 25 ∨ j ≠ 4) → fld F b j = fld Fo b j) → fld F p0 0 = .ref x0 → fld F p0 1 = .ref x1 → fld F p0 2 = .ref x2 → fld F x0 0 = .ref x3 → lv_has ls 2 [(0, .ref p0), (1, .int p1)] → W p l e { frames := 1, cells := 0, slots := 0, locals := 22 } s m args below meth c H locs 0 0 Q (F0 m 72 ls []) := by
    intro F H locs ls hT hfr pf0 pf1 pf2 pf3 hl
    refine lv_aload_n hx hb dX3_checkLine_72 rfl (lv_at hl 0 rfl) ?_
    refine lv_bipush (v := 6) hx hb dX3_checkLine_73 (by decide) ?_
    refine lv_aload_n hx hb dX3_checkLine_75 rfl (lv_at hl 0 rfl) ?_
    refine t_get (C := RX3) (T := TX3) (N := 13) X hT m0 g0 rfl rfl 0 (by decide) qw_73 inlX3 rfl dX3_checkLine_76 (fun v53335 hv53335 ov53335 => ?_)
    obtain rfl : v53335 = .ref x0 := hv53335.symm.trans pf0
    refine t_get (C := RX8) (T := TX8) (N := 8) X hT mx0 gx0 rfl rfl 4 (by decide) qw_227 inlX8 rfl dX3_checkLine_79 (fun v53336 hv53336 ov53336 => ?_)
    obtain ⟨z53337, rfl, rz53337⟩ := okV_i ov53336
    refine t_cVv (n := 2) (C := RX3) (T := TX3) (N := 13) (As := [.int 6, .int z53337]) (rest := []) X hT (kt144_X3_fail l G tag L F hT.2.2.2 p0 6 z53337 m0 g0) m0 g0 rfl rfl qw_287 qw_288 qw_289 qw_28 qw_290 ⟨rfl, by decide +kernel, by decide +kernel, by decide +kernel⟩ ⟨Nat.le_of_ble_eq_true rfl, Nat.le_of_ble_eq_true rfl⟩ hl rfl rfl (Nat.le_of_ble_eq_true rfl) dX3_checkLine_82 ⟨Nat.le_of_ble_eq_true rfl, Nat.le_of_ble_eq_true rfl⟩ (fun F H locs hT hz53338 => ?_)
    have yz53338 := hz53338
    have pf0 := (yz53338 _ 0 (Or.inr (by decide)) (Or.inr (by decide))).trans pf0
    have pf1 := (yz53338 _ 1 (Or.inr (by decide)) (Or.inr (by decide))).trans pf1
    have pf2 := (yz53338 _ 2 (Or.inr (by decide)) (Or.inr (by decide))).trans pf2
    have pf3 := (yz53338 _ 0 (Or.inr (by decide)) (Or.inr (by decide))).trans pf3
    have hv53336 := (yz53338 _ 4 (Or.inr (by decide)) (Or.inl (by rw [gx0]; decide))).trans hv53336
    have hfr : ∀ b j : Nat, (tag b ≠ 25 ∨ j ≠ 3) → (tag b ≠ 25 ∨ j ≠ 4) → fld F b j = fld Fo b j := fun b j n25_3 n25_4 => (yz53338 b j n25_3 n25_4).trans (hfr b j n25_3 n25_4)
    exact t_vret hQ X hT hfr (Nat.le_of_ble_eq_true rfl) (Nat.le_of_ble_eq_true rfl) dX3_checkLine_85
  have K57 : ∀  (F : Nat → va_E) (H : Heap) (locs : List Loc) (ls : Array Slot), TH G ttC A s tag L F H locs → (∀ b j : Nat, (tag b ≠ 25 ∨ j ≠ 3) → (tag b ≠ 25 ∨ j ≠ 4) → fld F b j = fld Fo b j) → fld F p0 0 = .ref x0 → fld F p0 1 = .ref x1 → fld F p0 2 = .ref x2 → fld F x0 0 = .ref x3 → lv_has ls 2 [(0, .ref p0), (1, .int p1)] → W p l e { frames := 1, cells := 0, slots := 0, locals := 22 } s m args below meth c H locs 0 0 Q (F0 m 57 ls []) := by
    intro F H locs ls hT hfr pf0 pf1 pf2 pf3 hl
    refine lv_iload_n hx hb dX3_checkLine_57 rfl (lv_at hl 1 rfl) ?_
    refine lv_iconst (v := 2) hx hb dX3_checkLine_58 (by decide) ?_
    refine lv_icmp_ne (tgt := 85) hx hb dX3_checkLine_59 (by decide) (fun c53339 => ?_) (fun c53339 => ?_)
    · have w53340 := cv_ne (rfl : p1.toInt = p1.toInt) (by decide : (2 : Int32).toInt = 2) c53339
      exact t_vret hQ X hT hfr (Nat.le_of_ble_eq_true rfl) (Nat.le_of_ble_eq_true rfl) dX3_checkLine_85
    · have w53341 := cv_eq (rfl : p1.toInt = p1.toInt) (by decide : (2 : Int32).toInt = 2) c53339
      refine lv_aload_n hx hb dX3_checkLine_62 rfl (lv_at hl 0 rfl) ?_
      refine t_get (C := RX3) (T := TX3) (N := 13) X hT m0 g0 rfl rfl 1 (by decide) qw_161 inlX3 rfl dX3_checkLine_63 (fun v53342 hv53342 ov53342 => ?_)
      obtain rfl : v53342 = .ref x1 := hv53342.symm.trans pf1
      refine t_get (C := RX1) (T := TX1) (N := 20) X hT mx1 gx1 rfl rfl 10 (by decide) qw_172 inlX1 rfl dX3_checkLine_66 (fun v53343 hv53343 ov53343 => ?_)
      obtain ⟨z53344, rfl, rz53344⟩ := okV_i ov53343
      refine lv_if_le (tgt := 85) hx hb dX3_checkLine_69 (by decide) (fun c53345 => ?_) (fun c53345 => ?_)
      · have w53346 := cv_le (rfl : z53344.toInt = z53344.toInt) (by decide : (0 : Int32).toInt = 0) c53345
        exact t_vret hQ X hT hfr (Nat.le_of_ble_eq_true rfl) (Nat.le_of_ble_eq_true rfl) dX3_checkLine_85
      · have w53347 := cv_nle (rfl : z53344.toInt = z53344.toInt) (by decide : (0 : Int32).toInt = 0) c53345
        exact K72  _ _ _ _  hT hfr pf0 pf1 pf2 pf3 (lv_sub hl [0, 1] rfl)
  refine lv_aload_n hx hb dX3_checkLine_0 rfl (lv_at hl 0 rfl) ?_
  refine lv_iload_n hx hb dX3_checkLine_1 rfl (lv_at hl 1 rfl) ?_
  refine t_cVi (n := 1) (C := RX3) (T := TX3) (N := 13) (As := [.int p1]) (rest := []) X hT (kt142_X3_isLineAgain l G tag L F hT.2.2.2 p0 p1 m0 g0) m0 g0 rfl rfl qw_295 qw_296 qw_297 qw_28 qw_298 ⟨rfl, by decide +kernel, by decide +kernel, by decide +kernel⟩ ⟨Nat.le_of_ble_eq_true rfl, Nat.le_of_ble_eq_true rfl⟩ hl rfl rfl (Nat.le_of_ble_eq_true rfl) dX3_checkLine_2 ⟨Nat.le_of_ble_eq_true rfl, Nat.le_of_ble_eq_true rfl⟩ (fun z53348 F9 H locs hT hz53348 => ?_)
  obtain ⟨fz53348, hz53348⟩ := hz53348
  rw [fz53348] at hT
  refine lv_if_eq (tgt := 23) hx hb dX3_checkLine_5 (by decide) (fun c53349 => ?_) (fun c53349 => ?_)
  · have w53350 := cv_eq (rfl : z53348.toInt = z53348.toInt) (by decide : (0 : Int32).toInt = 0) c53349
    refine lv_aload_n hx hb dX3_checkLine_23 rfl (lv_at hl 0 rfl) ?_
    refine lv_iload_n hx hb dX3_checkLine_24 rfl (lv_at hl 1 rfl) ?_
    refine t_cVi (n := 1) (C := RX3) (T := TX3) (N := 13) (As := [.int p1]) (rest := []) X hT (kt143_X3_isLineTooMany l G tag L F hT.2.2.2 p0 p1 x0 x1 x2 x3 m0 g0 mx0 gx0 pf0 mx1 gx1 pf1 mx2 gx2 pf2 mx3 gx3 pf3) m0 g0 rfl rfl qw_299 qw_300 qw_301 qw_28 qw_302 ⟨rfl, by decide +kernel, by decide +kernel, by decide +kernel⟩ ⟨Nat.le_of_ble_eq_true rfl, Nat.le_of_ble_eq_true rfl⟩ hl rfl rfl (Nat.le_of_ble_eq_true rfl) dX3_checkLine_25 ⟨Nat.le_of_ble_eq_true rfl, Nat.le_of_ble_eq_true rfl⟩ (fun z53351 F9 H locs hT hz53351 => ?_)
    obtain ⟨fz53351, hz53351⟩ := hz53351
    rw [fz53351] at hT
    refine lv_if_eq (tgt := 46) hx hb dX3_checkLine_28 (by decide) (fun c53352 => ?_) (fun c53352 => ?_)
    · have w53353 := cv_eq (rfl : z53351.toInt = z53351.toInt) (by decide : (0 : Int32).toInt = 0) c53352
      refine lv_iload_n hx hb dX3_checkLine_46 rfl (lv_at hl 1 rfl) ?_
      refine lv_if_eq (tgt := 57) hx hb dX3_checkLine_47 (by decide) (fun c53354 => ?_) (fun c53354 => ?_)
      · have w53355 := cv_eq (rfl : p1.toInt = p1.toInt) (by decide : (0 : Int32).toInt = 0) c53354
        exact K57  _ _ _ _  hT hfr pf0 pf1 pf2 pf3 (lv_sub hl [0, 1] rfl)
      · have w53356 := cv_ne (rfl : p1.toInt = p1.toInt) (by decide : (0 : Int32).toInt = 0) c53354
        refine lv_aload_n hx hb dX3_checkLine_50 rfl (lv_at hl 0 rfl) ?_
        refine t_get (C := RX3) (T := TX3) (N := 13) X hT m0 g0 rfl rfl 5 (by decide) qw_165 inlX3 rfl dX3_checkLine_51 (fun v53357 hv53357 ov53357 => ?_)
        obtain ⟨z53358, rfl, rz53358⟩ := okV_i ov53357
        refine lv_if_eq (tgt := 72) hx hb dX3_checkLine_54 (by decide) (fun c53359 => ?_) (fun c53359 => ?_)
        · have w53360 := cv_eq (rfl : z53358.toInt = z53358.toInt) (by decide : (0 : Int32).toInt = 0) c53359
          exact K72  _ _ _ _  hT hfr pf0 pf1 pf2 pf3 (lv_sub hl [0, 1] rfl)
        · have w53361 := cv_ne (rfl : z53358.toInt = z53358.toInt) (by decide : (0 : Int32).toInt = 0) c53359
          exact K57  _ _ _ _  hT hfr pf0 pf1 pf2 pf3 (lv_sub hl [0, 1] rfl)
    · have w53362 := cv_ne (rfl : z53351.toInt = z53351.toInt) (by decide : (0 : Int32).toInt = 0) c53352
      refine lv_aload_n hx hb dX3_checkLine_31 rfl (lv_at hl 0 rfl) ?_
      refine lv_iconst (v := 5) hx hb dX3_checkLine_32 (by decide) ?_
      refine lv_aload_n hx hb dX3_checkLine_33 rfl (lv_at hl 0 rfl) ?_
      refine t_get (C := RX3) (T := TX3) (N := 13) X hT m0 g0 rfl rfl 0 (by decide) qw_73 inlX3 rfl dX3_checkLine_34 (fun v53363 hv53363 ov53363 => ?_)
      obtain rfl : v53363 = .ref x0 := hv53363.symm.trans pf0
      refine t_get (C := RX8) (T := TX8) (N := 8) X hT mx0 gx0 rfl rfl 4 (by decide) qw_227 inlX8 rfl dX3_checkLine_37 (fun v53364 hv53364 ov53364 => ?_)
      obtain ⟨z53365, rfl, rz53365⟩ := okV_i ov53364
      refine t_cVv (n := 2) (C := RX3) (T := TX3) (N := 13) (As := [.int 5, .int z53365]) (rest := []) X hT (kt144_X3_fail l G tag L F hT.2.2.2 p0 5 z53365 m0 g0) m0 g0 rfl rfl qw_287 qw_288 qw_289 qw_28 qw_290 ⟨rfl, by decide +kernel, by decide +kernel, by decide +kernel⟩ ⟨Nat.le_of_ble_eq_true rfl, Nat.le_of_ble_eq_true rfl⟩ hl rfl rfl (Nat.le_of_ble_eq_true rfl) dX3_checkLine_40 ⟨Nat.le_of_ble_eq_true rfl, Nat.le_of_ble_eq_true rfl⟩ (fun F H locs hT hz53366 => ?_)
      have yz53366 := hz53366
      have pf0 := (yz53366 _ 0 (Or.inr (by decide)) (Or.inr (by decide))).trans pf0
      have pf1 := (yz53366 _ 1 (Or.inr (by decide)) (Or.inr (by decide))).trans pf1
      have pf2 := (yz53366 _ 2 (Or.inr (by decide)) (Or.inr (by decide))).trans pf2
      have pf3 := (yz53366 _ 0 (Or.inr (by decide)) (Or.inr (by decide))).trans pf3
      have hv53364 := (yz53366 _ 4 (Or.inr (by decide)) (Or.inl (by rw [gx0]; decide))).trans hv53364
      have hfr : ∀ b j : Nat, (tag b ≠ 25 ∨ j ≠ 3) → (tag b ≠ 25 ∨ j ≠ 4) → fld F b j = fld Fo b j := fun b j n25_3 n25_4 => (yz53366 b j n25_3 n25_4).trans (hfr b j n25_3 n25_4)
      refine lv_goto (tgt := 85) hx hb dX3_checkLine_43 (by decide) ?_
      exact t_vret hQ X hT hfr (Nat.le_of_ble_eq_true rfl) (Nat.le_of_ble_eq_true rfl) dX3_checkLine_85
  · have w53367 := cv_ne (rfl : z53348.toInt = z53348.toInt) (by decide : (0 : Int32).toInt = 0) c53349
    refine lv_aload_n hx hb dX3_checkLine_8 rfl (lv_at hl 0 rfl) ?_
    refine lv_iconst (v := 3) hx hb dX3_checkLine_9 (by decide) ?_
    refine lv_aload_n hx hb dX3_checkLine_10 rfl (lv_at hl 0 rfl) ?_
    refine t_get (C := RX3) (T := TX3) (N := 13) X hT m0 g0 rfl rfl 0 (by decide) qw_73 inlX3 rfl dX3_checkLine_11 (fun v53368 hv53368 ov53368 => ?_)
    obtain rfl : v53368 = .ref x0 := hv53368.symm.trans pf0
    refine t_get (C := RX8) (T := TX8) (N := 8) X hT mx0 gx0 rfl rfl 4 (by decide) qw_227 inlX8 rfl dX3_checkLine_14 (fun v53369 hv53369 ov53369 => ?_)
    obtain ⟨z53370, rfl, rz53370⟩ := okV_i ov53369
    refine t_cVv (n := 2) (C := RX3) (T := TX3) (N := 13) (As := [.int 3, .int z53370]) (rest := []) X hT (kt144_X3_fail l G tag L F hT.2.2.2 p0 3 z53370 m0 g0) m0 g0 rfl rfl qw_287 qw_288 qw_289 qw_28 qw_290 ⟨rfl, by decide +kernel, by decide +kernel, by decide +kernel⟩ ⟨Nat.le_of_ble_eq_true rfl, Nat.le_of_ble_eq_true rfl⟩ hl rfl rfl (Nat.le_of_ble_eq_true rfl) dX3_checkLine_17 ⟨Nat.le_of_ble_eq_true rfl, Nat.le_of_ble_eq_true rfl⟩ (fun F H locs hT hz53371 => ?_)
    have yz53371 := hz53371
    have pf0 := (yz53371 _ 0 (Or.inr (by decide)) (Or.inr (by decide))).trans pf0
    have pf1 := (yz53371 _ 1 (Or.inr (by decide)) (Or.inr (by decide))).trans pf1
    have pf2 := (yz53371 _ 2 (Or.inr (by decide)) (Or.inr (by decide))).trans pf2
    have pf3 := (yz53371 _ 0 (Or.inr (by decide)) (Or.inr (by decide))).trans pf3
    have hv53369 := (yz53371 _ 4 (Or.inr (by decide)) (Or.inl (by rw [gx0]; decide))).trans hv53369
    have hfr : ∀ b j : Nat, (tag b ≠ 25 ∨ j ≠ 3) → (tag b ≠ 25 ∨ j ≠ 4) → fld F b j = fld Fo b j := fun b j n25_3 n25_4 => (yz53371 b j n25_3 n25_4).trans (hfr b j n25_3 n25_4)
    refine lv_goto (tgt := 85) hx hb dX3_checkLine_20 (by decide) ?_
    exact t_vret hQ X hT hfr (Nat.le_of_ble_eq_true rfl) (Nat.le_of_ble_eq_true rfl) dX3_checkLine_85
