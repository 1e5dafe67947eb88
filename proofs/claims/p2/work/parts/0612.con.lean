set_option maxHeartbeats 4000000 in
set_option maxRecDepth 100000 in
theorem kt383_X11_in (l : Launch) (G : KG) (tag : Nat → Nat) (L : List Nat) (Fo : Nat → va_E) (ho : okT G ttC tag L Fo) (p0 : Nat) (p1 : Int32) (p2 : Int32) (p3 : Int32) (m0 : p0 ∈ L) (g0 : tag p0 = 26) : TMi l yX11_in cX11_in 4 (some .int) { frames := 7, cells := 0, slots := 0, locals := 179 } G ttC tag L Fo [.ref p0, .int p1, .int p2, .int p3] (fun r F1 => ((-2147483648) ≤ r.toInt ∧ r.toInt ≤ 2147483647) ∧ ((∀ b j : Nat, (tag b ≠ 19 ∨ j ≠ 0) → (tag b ≠ 19 ∨ j ≠ 1) → (tag b ≠ 26 ∨ j ≠ 13) → fld F1 b j = fld Fo b j) ∧ EF tag F1 Fo)) := by
  refine t_bodyi (y := yX11_in) (cd := cX11_in) (mL := 4) (rt := (some .int)) (rm := { frames := 7, cells := 0, slots := 0, locals := 179 }) (av := [.ref p0, .int p1, .int p2, .int p3]) (by decide) (Nat.le_of_ble_eq_true rfl) ho ?_
  intro p e s m args below meth c ls A Q hQ X hT hl
  have hx := X.1.1
  have hb := X.1.2.1
  have hl : lv_has ls 4 [(0, .ref p0), (1, .int p1), (2, .int p2), (3, .int p3)] := hl
  have rp1 := rg_all p1
  have rp2 := rg_all p2
  have rp3 := rg_all p3
  obtain ⟨F, hFo⟩ : ∃ F : Nat → va_E, F = Fo := ⟨_, rfl⟩
  rw [← hFo] at hT
  have hfr : (∀ b j : Nat, (tag b ≠ 19 ∨ j ≠ 0) → (tag b ≠ 19 ∨ j ≠ 1) → (tag b ≠ 26 ∨ j ≠ 13) → fld F b j = fld Fo b j) ∧ EF tag F Fo := by
    rw [hFo]
    exact ⟨by intros; rfl, fun _ _ _ => rfl⟩
  have K17 : ∀  (F : Nat → va_E) (H : Heap) (locs : List Loc) (ls : Array Slot), TH G ttC A s tag L F H locs → ((∀ b j : Nat, (tag b ≠ 19 ∨ j ≠ 0) → (tag b ≠ 19 ∨ j ≠ 1) → (tag b ≠ 26 ∨ j ≠ 13) → fld F b j = fld Fo b j) ∧ EF tag F Fo) → lv_has ls 4 [(0, .ref p0), (1, .int p1), (2, .int p2), (3, .int p3)] → W p l e { frames := 7, cells := 0, slots := 0, locals := 179 } s m args below meth c H locs 0 0 Q (F0 m 17 ls []) := by
    intro F H locs ls hT hfr hl
    refine lv_aload_n hx hb dX11_in_17 rfl (lv_at hl 0 rfl) ?_
    refine lv_iconst (v := 1) hx hb dX11_in_18 (by decide) ?_
    refine t_cVi (n := 1) (C := RX11) (T := TX11) (N := 16) (As := [.int 1]) (rest := []) X hT (kt357_X11_refuse l G tag L F hT.2.2.2 p0 1 m0 g0) m0 g0 rfl rfl qw_152 qw_153 qw_154 qw_2 qw_155 ⟨rfl, by decide +kernel, by decide +kernel, by decide +kernel⟩ ⟨Nat.le_of_ble_eq_true rfl, Nat.le_of_ble_eq_true rfl⟩ hl rfl rfl (Nat.le_of_ble_eq_true rfl) dX11_in_19 ⟨Nat.le_of_ble_eq_true rfl, Nat.le_of_ble_eq_true rfl⟩ (fun z118039 F H locs hT hz118039 => ?_)
    obtain ⟨hz118039, yz118039⟩ := hz118039
    have hfr : (∀ b j : Nat, (tag b ≠ 19 ∨ j ≠ 0) → (tag b ≠ 19 ∨ j ≠ 1) → (tag b ≠ 26 ∨ j ≠ 13) → fld F b j = fld Fo b j) ∧ EF tag F Fo := ⟨fun b j n19_0 n19_1 n26_13 => (yz118039.1 b j n26_13).trans (hfr.1 b j n19_0 n19_1 n26_13), fun b j hb => (yz118039.2 b j hb).trans (hfr.2 b j hb)⟩
    exact t_iret hQ X hT (⟨rg_all _, hfr⟩) (Nat.le_of_ble_eq_true rfl) (Nat.le_of_ble_eq_true rfl) dX11_in_22
  have K33 : ∀  (F : Nat → va_E) (H : Heap) (locs : List Loc) (ls : Array Slot), (0 ≤ p1.toInt ∧ p1.toInt ≤ 3) → (0 ≤ p3.toInt ∧ p3.toInt ≤ 4) → TH G ttC A s tag L F H locs → ((∀ b j : Nat, (tag b ≠ 19 ∨ j ≠ 0) → (tag b ≠ 19 ∨ j ≠ 1) → (tag b ≠ 26 ∨ j ≠ 13) → fld F b j = fld Fo b j) ∧ EF tag F Fo) → lv_has ls 4 [(0, .ref p0), (1, .int p1), (2, .int p2), (3, .int p3)] → W p l e { frames := 7, cells := 0, slots := 0, locals := 179 } s m args below meth c H locs 0 0 Q (F0 m 33 ls []) := by
    intro F H locs ls r9s118040 r9s118041 hT hfr hl
    refine lv_aload_n hx hb dX11_in_33 rfl (lv_at hl 0 rfl) ?_
    refine lv_iconst (v := 2) hx hb dX11_in_34 (by decide) ?_
    refine t_cVi (n := 1) (C := RX11) (T := TX11) (N := 16) (As := [.int 2]) (rest := []) X hT (kt357_X11_refuse l G tag L F hT.2.2.2 p0 2 m0 g0) m0 g0 rfl rfl qw_152 qw_153 qw_154 qw_2 qw_155 ⟨rfl, by decide +kernel, by decide +kernel, by decide +kernel⟩ ⟨Nat.le_of_ble_eq_true rfl, Nat.le_of_ble_eq_true rfl⟩ hl rfl rfl (Nat.le_of_ble_eq_true rfl) dX11_in_35 ⟨Nat.le_of_ble_eq_true rfl, Nat.le_of_ble_eq_true rfl⟩ (fun z118042 F H locs hT hz118042 => ?_)
    obtain ⟨hz118042, yz118042⟩ := hz118042
    have hfr : (∀ b j : Nat, (tag b ≠ 19 ∨ j ≠ 0) → (tag b ≠ 19 ∨ j ≠ 1) → (tag b ≠ 26 ∨ j ≠ 13) → fld F b j = fld Fo b j) ∧ EF tag F Fo := ⟨fun b j n19_0 n19_1 n26_13 => (yz118042.1 b j n26_13).trans (hfr.1 b j n19_0 n19_1 n26_13), fun b j hb => (yz118042.2 b j hb).trans (hfr.2 b j hb)⟩
    exact t_iret hQ X hT (⟨rg_all _, hfr⟩) (Nat.le_of_ble_eq_true rfl) (Nat.le_of_ble_eq_true rfl) dX11_in_38
  have K152 : ∀ (z118046 : Int32) (b118047 : Nat) (F : Nat → va_E) (H : Heap) (locs : List Loc) (ls : Array Slot), (0 ≤ z118046.toInt ∧ z118046.toInt ≤ 1) → (b118047 ∈ L) → (tag b118047 = 26) → (0 ≤ p1.toInt ∧ p1.toInt ≤ 3) → (0 ≤ p2.toInt ∧ p2.toInt ≤ 60) → (4 ≤ p3.toInt ∧ p3.toInt ≤ 4) → TH G ttC A s tag L F H locs → ((∀ b j : Nat, (tag b ≠ 19 ∨ j ≠ 0) → (tag b ≠ 19 ∨ j ≠ 1) → (tag b ≠ 26 ∨ j ≠ 13) → fld F b j = fld Fo b j) ∧ EF tag F Fo) → lv_has ls 4 [(0, .ref p0), (1, .int p1), (2, .int p2), (3, .int p3)] → W p l e { frames := 7, cells := 0, slots := 0, locals := 179 } s m args below meth c H locs 0 0 Q (F0 m 152 ls [.int z118046, .ref b118047]) := by
    intro z118046 b118047 F H locs ls rz118046 mb118047 gb118047 r9s118043 r9s118044 r9s118045 hT hfr hl
    refine t_cVi (n := 1) (C := RX11) (T := TX11) (N := 16) (As := [.int z118046]) (rest := []) X hT (kt350_X11_answer l G tag L F hT.2.2.2 b118047 z118046 mb118047 gb118047) mb118047 gb118047 rfl rfl qw_463 qw_464 qw_465 qw_2 qw_466 ⟨rfl, by decide +kernel, by decide +kernel, by decide +kernel⟩ ⟨Nat.le_of_ble_eq_true rfl, Nat.le_of_ble_eq_true rfl⟩ hl rfl rfl (Nat.le_of_ble_eq_true rfl) dX11_in_152 ⟨Nat.le_of_ble_eq_true rfl, Nat.le_of_ble_eq_true rfl⟩ (fun z118048 F H locs hT hz118048 => ?_)
    obtain ⟨hz118048, yz118048⟩ := hz118048
    have hfr : (∀ b j : Nat, (tag b ≠ 19 ∨ j ≠ 0) → (tag b ≠ 19 ∨ j ≠ 1) → (tag b ≠ 26 ∨ j ≠ 13) → fld F b j = fld Fo b j) ∧ EF tag F Fo := ⟨fun b j n19_0 n19_1 n26_13 => (yz118048.1 b j n26_13).trans (hfr.1 b j n19_0 n19_1 n26_13), fun b j hb => (yz118048.2 b j hb).trans (hfr.2 b j hb)⟩
    exact t_iret hQ X hT (⟨rg_all _, hfr⟩) (Nat.le_of_ble_eq_true rfl) (Nat.le_of_ble_eq_true rfl) dX11_in_155
  refine lv_aload_n hx hb dX11_in_0 rfl (lv_at hl 0 rfl) ?_
  refine lv_iload_n hx hb dX11_in_1 rfl (lv_at hl 1 rfl) ?_
  refine t_cVi (n := 1) (C := RX11) (T := TX11) (N := 16) (As := [.int p1]) (rest := []) X hT (kt355_X11_isHouse l G tag L F hT.2.2.2 p0 p1 m0 g0) m0 g0 rfl rfl qw_770 qw_771 qw_772 qw_2 qw_773 ⟨rfl, by decide +kernel, by decide +kernel, by decide +kernel⟩ ⟨Nat.le_of_ble_eq_true rfl, Nat.le_of_ble_eq_true rfl⟩ hl rfl rfl (Nat.le_of_ble_eq_true rfl) dX11_in_2 ⟨Nat.le_of_ble_eq_true rfl, Nat.le_of_ble_eq_true rfl⟩ (fun z118049 F9 H locs hT hz118049 => ?_)
  obtain ⟨fz118049, hz118049⟩ := hz118049
  rw [fz118049] at hT
  obtain ⟨hz118049, iz118049⟩ := hz118049
  refine lv_if_eq (tgt := 17) hx hb dX11_in_5 (by decide) (fun c118050 => ?_) (fun c118050 => ?_)
  · have w118051 := cv_eq (rfl : z118049.toInt = z118049.toInt) (by decide : (0 : Int32).toInt = 0) c118050
    exact K17  _ _ _ _  hT hfr  (lv_sub hl [0, 1, 2, 3] rfl)
  · have w118052 := cv_ne (rfl : z118049.toInt = z118049.toInt) (by decide : (0 : Int32).toInt = 0) c118050
    have w118053 := (fun h => (iz118049 h)) (by omega)
    refine lv_iload_n hx hb dX11_in_8 rfl (lv_at hl 3 rfl) ?_
    refine lv_if_lt (tgt := 17) hx hb dX11_in_9 (by decide) (fun c118054 => ?_) (fun c118054 => ?_)
    · have w118055 := cv_lt (rfl : p3.toInt = p3.toInt) (by decide : (0 : Int32).toInt = 0) c118054
      exact K17  _ _ _ _  hT hfr  (lv_sub hl [0, 1, 2, 3] rfl)
    · have w118056 := cv_nlt (rfl : p3.toInt = p3.toInt) (by decide : (0 : Int32).toInt = 0) c118054
      refine lv_iload_n hx hb dX11_in_12 rfl (lv_at hl 3 rfl) ?_
      refine lv_iconst (v := 4) hx hb dX11_in_13 (by decide) ?_
      refine lv_icmp_le (tgt := 23) hx hb dX11_in_14 (by decide) (fun c118057 => ?_) (fun c118057 => ?_)
      · have w118058 := cv_le (rfl : p3.toInt = p3.toInt) (by decide : (4 : Int32).toInt = 4) c118057
        refine lv_iload_n hx hb dX11_in_23 rfl (lv_at hl 2 rfl) ?_
        refine lv_if_lt (tgt := 33) hx hb dX11_in_24 (by decide) (fun c118059 => ?_) (fun c118059 => ?_)
        · have w118060 := cv_lt (rfl : p2.toInt = p2.toInt) (by decide : (0 : Int32).toInt = 0) c118059
          exact K33  _ _ _ _ (by omega) (by omega) hT hfr  (lv_sub hl [0, 1, 2, 3] rfl)
        · have w118061 := cv_nlt (rfl : p2.toInt = p2.toInt) (by decide : (0 : Int32).toInt = 0) c118059
          refine lv_iload_n hx hb dX11_in_27 rfl (lv_at hl 2 rfl) ?_
          refine lv_bipush (v := 60) hx hb dX11_in_28 (by decide) ?_
          refine lv_icmp_le (tgt := 39) hx hb dX11_in_30 (by decide) (fun c118062 => ?_) (fun c118062 => ?_)
          · have w118063 := cv_le (rfl : p2.toInt = p2.toInt) (by decide : (60 : Int32).toInt = 60) c118062
            refine lv_aload_n hx hb dX11_in_39 rfl (lv_at hl 0 rfl) ?_
            refine lv_iload_n hx hb dX11_in_40 rfl (lv_at hl 2 rfl) ?_
            refine t_cVv (n := 1) (C := RX11) (T := TX11) (N := 16) (As := [.int p2]) (rest := []) X hT (kt375_X11_goTo l G tag L F hT.2.2.2 p0 p2 m0 g0 (by omega)) m0 g0 rfl rfl qw_1092 qw_1093 qw_1094 qw_2 qw_1095 ⟨rfl, by decide +kernel, by decide +kernel, by decide +kernel⟩ ⟨Nat.le_of_ble_eq_true rfl, Nat.le_of_ble_eq_true rfl⟩ hl rfl rfl (Nat.le_of_ble_eq_true rfl) dX11_in_41 ⟨Nat.le_of_ble_eq_true rfl, Nat.le_of_ble_eq_true rfl⟩ (fun F H locs hT hz118064 => ?_)
            have yz118064 := hz118064
            have hfr : (∀ b j : Nat, (tag b ≠ 19 ∨ j ≠ 0) → (tag b ≠ 19 ∨ j ≠ 1) → (tag b ≠ 26 ∨ j ≠ 13) → fld F b j = fld Fo b j) ∧ EF tag F Fo := ⟨fun b j n19_0 n19_1 n26_13 => (yz118064.1 b j n19_0 n19_1).trans (hfr.1 b j n19_0 n19_1 n26_13), fun b j hb => (yz118064.2 b j hb).trans (hfr.2 b j hb)⟩
            refine lv_iload_n hx hb dX11_in_44 rfl (lv_at hl 3 rfl) ?_
            by_cases c118065 : p3 = 0
            · have w118066 := cv_eq (rfl : p3.toInt = p3.toInt) (by decide : (0 : Int32).toInt = 0) c118065
              refine lv_tableIn (off := 31) (tgt := 76) hx hb dX11_in_45 (by rw [c118065]; decide) (by rw [c118065]; decide) (by rw [c118065]; decide) (by decide) ?_
              refine lv_aload_n hx hb dX11_in_76 rfl (lv_at hl 0 rfl) ?_
              refine lv_aload_n hx hb dX11_in_77 rfl (lv_at hl 0 rfl) ?_
              refine t_get (C := RX11) (T := TX11) (N := 16) X hT m0 g0 rfl rfl 7 (by decide) qw_25 inlX11 rfl dX11_in_78 (fun v118067 hv118067 ov118067 => ?_)
              obtain ⟨b118068, rfl, mb118068, gb118068⟩ := okV_r ov118067
              have gb118068 : tag b118068 = 19 := tg_of gb118068
              refine t_get (C := RX7) (T := TX7) (N := 7) X hT mb118068 gb118068 rfl rfl 2 (by decide) qw_766 inlX7 rfl dX11_in_81 (fun v118069 hv118069 ov118069 => ?_)
              obtain ⟨b118070, rfl, mb118070, gb118070⟩ := okV_r ov118069
              have gb118070 : tag b118070 = 8 := tg_of gb118070
              refine lv_iload_n hx hb dX11_in_84 rfl (lv_at hl 1 rfl) ?_
              refine t_ild X hT mb118070 gb118070 rfl (by omega) dX11_in_85 (fun z118071 vz118071 rz118071 => ?_)
              have rz118071 : 0 ≤ z118071.toInt ∧ z118071.toInt ≤ 6 := rz118071
              refine t_cVi (n := 1) (C := RX11) (T := TX11) (N := 16) (As := [.int z118071]) (rest := []) X hT (kt350_X11_answer l G tag L F hT.2.2.2 p0 z118071 m0 g0) m0 g0 rfl rfl qw_463 qw_464 qw_465 qw_2 qw_466 ⟨rfl, by decide +kernel, by decide +kernel, by decide +kernel⟩ ⟨Nat.le_of_ble_eq_true rfl, Nat.le_of_ble_eq_true rfl⟩ hl rfl rfl (Nat.le_of_ble_eq_true rfl) dX11_in_86 ⟨Nat.le_of_ble_eq_true rfl, Nat.le_of_ble_eq_true rfl⟩ (fun z118072 F H locs hT hz118072 => ?_)
              obtain ⟨hz118072, yz118072⟩ := hz118072
              have hv118067 := (yz118072.1 _ 7 (Or.inr (by decide))).trans hv118067
              have hv118069 := (yz118072.1 _ 2 (Or.inr (by decide))).trans hv118069
              have hfr : (∀ b j : Nat, (tag b ≠ 19 ∨ j ≠ 0) → (tag b ≠ 19 ∨ j ≠ 1) → (tag b ≠ 26 ∨ j ≠ 13) → fld F b j = fld Fo b j) ∧ EF tag F Fo := ⟨fun b j n19_0 n19_1 n26_13 => (yz118072.1 b j n26_13).trans (hfr.1 b j n19_0 n19_1 n26_13), fun b j hb => (yz118072.2 b j hb).trans (hfr.2 b j hb)⟩
              exact t_iret hQ X hT (⟨rg_all _, hfr⟩) (Nat.le_of_ble_eq_true rfl) (Nat.le_of_ble_eq_true rfl) dX11_in_89
            have w118073 := cv_ne (rfl : p3.toInt = p3.toInt) (by decide : (0 : Int32).toInt = 0) c118065
            by_cases c118074 : p3 = 1
            · have w118075 := cv_eq (rfl : p3.toInt = p3.toInt) (by decide : (1 : Int32).toInt = 1) c118074
              refine lv_tableIn (off := 45) (tgt := 90) hx hb dX11_in_45 (by rw [c118074]; decide) (by rw [c118074]; decide) (by rw [c118074]; decide) (by decide) ?_
              refine lv_aload_n hx hb dX11_in_90 rfl (lv_at hl 0 rfl) ?_
              refine lv_aload_n hx hb dX11_in_91 rfl (lv_at hl 0 rfl) ?_
              refine t_get (C := RX11) (T := TX11) (N := 16) X hT m0 g0 rfl rfl 7 (by decide) qw_25 inlX11 rfl dX11_in_92 (fun v118076 hv118076 ov118076 => ?_)
              obtain ⟨b118077, rfl, mb118077, gb118077⟩ := okV_r ov118076
              have gb118077 : tag b118077 = 19 := tg_of gb118077
              refine t_get (C := RX7) (T := TX7) (N := 7) X hT mb118077 gb118077 rfl rfl 3 (by decide) qw_767 inlX7 rfl dX11_in_95 (fun v118078 hv118078 ov118078 => ?_)
              obtain ⟨b118079, rfl, mb118079, gb118079⟩ := okV_r ov118078
              have gb118079 : tag b118079 = 5 := tg_of gb118079
              refine lv_iload_n hx hb dX11_in_98 rfl (lv_at hl 1 rfl) ?_
              refine t_ild X hT mb118079 gb118079 rfl (by omega) dX11_in_99 (fun z118080 vz118080 rz118080 => ?_)
              have rz118080 : (-2147483648) ≤ z118080.toInt ∧ z118080.toInt ≤ 2147483647 := rz118080
              refine t_cVi (n := 1) (C := RX11) (T := TX11) (N := 16) (As := [.int z118080]) (rest := []) X hT (kt350_X11_answer l G tag L F hT.2.2.2 p0 z118080 m0 g0) m0 g0 rfl rfl qw_463 qw_464 qw_465 qw_2 qw_466 ⟨rfl, by decide +kernel, by decide +kernel, by decide +kernel⟩ ⟨Nat.le_of_ble_eq_true rfl, Nat.le_of_ble_eq_true rfl⟩ hl rfl rfl (Nat.le_of_ble_eq_true rfl) dX11_in_100 ⟨Nat.le_of_ble_eq_true rfl, Nat.le_of_ble_eq_true rfl⟩ (fun z118081 F H locs hT hz118081 => ?_)
              obtain ⟨hz118081, yz118081⟩ := hz118081
              have hv118076 := (yz118081.1 _ 7 (Or.inr (by decide))).trans hv118076
              have hv118078 := (yz118081.1 _ 3 (Or.inr (by decide))).trans hv118078
              have hfr : (∀ b j : Nat, (tag b ≠ 19 ∨ j ≠ 0) → (tag b ≠ 19 ∨ j ≠ 1) → (tag b ≠ 26 ∨ j ≠ 13) → fld F b j = fld Fo b j) ∧ EF tag F Fo := ⟨fun b j n19_0 n19_1 n26_13 => (yz118081.1 b j n26_13).trans (hfr.1 b j n19_0 n19_1 n26_13), fun b j hb => (yz118081.2 b j hb).trans (hfr.2 b j hb)⟩
              exact t_iret hQ X hT (⟨rg_all _, hfr⟩) (Nat.le_of_ble_eq_true rfl) (Nat.le_of_ble_eq_true rfl) dX11_in_103
            have w118082 := cv_ne (rfl : p3.toInt = p3.toInt) (by decide : (1 : Int32).toInt = 1) c118074
            by_cases c118083 : p3 = 2
            · have w118084 := cv_eq (rfl : p3.toInt = p3.toInt) (by decide : (2 : Int32).toInt = 2) c118083
              refine lv_tableIn (off := 59) (tgt := 104) hx hb dX11_in_45 (by rw [c118083]; decide) (by rw [c118083]; decide) (by rw [c118083]; decide) (by decide) ?_
              refine lv_aload_n hx hb dX11_in_104 rfl (lv_at hl 0 rfl) ?_
              refine lv_aload_n hx hb dX11_in_105 rfl (lv_at hl 0 rfl) ?_
              refine t_get (C := RX11) (T := TX11) (N := 16) X hT m0 g0 rfl rfl 7 (by decide) qw_25 inlX11 rfl dX11_in_106 (fun v118085 hv118085 ov118085 => ?_)
              obtain ⟨b118086, rfl, mb118086, gb118086⟩ := okV_r ov118085
              have gb118086 : tag b118086 = 19 := tg_of gb118086
              refine t_get (C := RX7) (T := TX7) (N := 7) X hT mb118086 gb118086 rfl rfl 4 (by decide) qw_768 inlX7 rfl dX11_in_109 (fun v118087 hv118087 ov118087 => ?_)
              obtain ⟨b118088, rfl, mb118088, gb118088⟩ := okV_r ov118087
              have gb118088 : tag b118088 = 5 := tg_of gb118088
              refine lv_iload_n hx hb dX11_in_112 rfl (lv_at hl 1 rfl) ?_
              refine t_ild X hT mb118088 gb118088 rfl (by omega) dX11_in_113 (fun z118089 vz118089 rz118089 => ?_)
              have rz118089 : (-2147483648) ≤ z118089.toInt ∧ z118089.toInt ≤ 2147483647 := rz118089
              refine t_cVi (n := 1) (C := RX11) (T := TX11) (N := 16) (As := [.int z118089]) (rest := []) X hT (kt350_X11_answer l G tag L F hT.2.2.2 p0 z118089 m0 g0) m0 g0 rfl rfl qw_463 qw_464 qw_465 qw_2 qw_466 ⟨rfl, by decide +kernel, by decide +kernel, by decide +kernel⟩ ⟨Nat.le_of_ble_eq_true rfl, Nat.le_of_ble_eq_true rfl⟩ hl rfl rfl (Nat.le_of_ble_eq_true rfl) dX11_in_114 ⟨Nat.le_of_ble_eq_true rfl, Nat.le_of_ble_eq_true rfl⟩ (fun z118090 F H locs hT hz118090 => ?_)
              obtain ⟨hz118090, yz118090⟩ := hz118090
              have hv118085 := (yz118090.1 _ 7 (Or.inr (by decide))).trans hv118085
              have hv118087 := (yz118090.1 _ 4 (Or.inr (by decide))).trans hv118087
              have hfr : (∀ b j : Nat, (tag b ≠ 19 ∨ j ≠ 0) → (tag b ≠ 19 ∨ j ≠ 1) → (tag b ≠ 26 ∨ j ≠ 13) → fld F b j = fld Fo b j) ∧ EF tag F Fo := ⟨fun b j n19_0 n19_1 n26_13 => (yz118090.1 b j n26_13).trans (hfr.1 b j n19_0 n19_1 n26_13), fun b j hb => (yz118090.2 b j hb).trans (hfr.2 b j hb)⟩
              exact t_iret hQ X hT (⟨rg_all _, hfr⟩) (Nat.le_of_ble_eq_true rfl) (Nat.le_of_ble_eq_true rfl) dX11_in_117
            have w118091 := cv_ne (rfl : p3.toInt = p3.toInt) (by decide : (2 : Int32).toInt = 2) c118083
            by_cases c118092 : p3 = 3
            · have w118093 := cv_eq (rfl : p3.toInt = p3.toInt) (by decide : (3 : Int32).toInt = 3) c118092
              refine lv_tableIn (off := 73) (tgt := 118) hx hb dX11_in_45 (by rw [c118092]; decide) (by rw [c118092]; decide) (by rw [c118092]; decide) (by decide) ?_
              refine lv_aload_n hx hb dX11_in_118 rfl (lv_at hl 0 rfl) ?_
              refine lv_aload_n hx hb dX11_in_119 rfl (lv_at hl 0 rfl) ?_
              refine t_get (C := RX11) (T := TX11) (N := 16) X hT m0 g0 rfl rfl 7 (by decide) qw_25 inlX11 rfl dX11_in_120 (fun v118094 hv118094 ov118094 => ?_)
              obtain ⟨b118095, rfl, mb118095, gb118095⟩ := okV_r ov118094
              have gb118095 : tag b118095 = 19 := tg_of gb118095
              refine lv_iload_n hx hb dX11_in_123 rfl (lv_at hl 1 rfl) ?_
              refine t_cVi (n := 1) (C := RX7) (T := TX7) (N := 7) (As := [.int p1]) (rest := [.ref p0]) X hT (kt316_X7_fallen l G tag L F hT.2.2.2 b118095 p1 mb118095 gb118095 (by omega)) mb118095 gb118095 rfl rfl qw_1136 qw_1137 qw_1138 qw_22 qw_1139 ⟨rfl, by decide +kernel, by decide +kernel, by decide +kernel⟩ ⟨Nat.le_of_ble_eq_true rfl, Nat.le_of_ble_eq_true rfl⟩ hl rfl rfl (Nat.le_of_ble_eq_true rfl) dX11_in_124 ⟨Nat.le_of_ble_eq_true rfl, Nat.le_of_ble_eq_true rfl⟩ (fun z118096 F9 H locs hT hz118096 => ?_)
              obtain ⟨fz118096, hz118096⟩ := hz118096
              rw [fz118096] at hT
              refine t_cVi (n := 1) (C := RX11) (T := TX11) (N := 16) (As := [.int z118096]) (rest := []) X hT (kt350_X11_answer l G tag L F hT.2.2.2 p0 z118096 m0 g0) m0 g0 rfl rfl qw_463 qw_464 qw_465 qw_2 qw_466 ⟨rfl, by decide +kernel, by decide +kernel, by decide +kernel⟩ ⟨Nat.le_of_ble_eq_true rfl, Nat.le_of_ble_eq_true rfl⟩ hl rfl rfl (Nat.le_of_ble_eq_true rfl) dX11_in_127 ⟨Nat.le_of_ble_eq_true rfl, Nat.le_of_ble_eq_true rfl⟩ (fun z118097 F H locs hT hz118097 => ?_)
              obtain ⟨hz118097, yz118097⟩ := hz118097
              have hv118094 := (yz118097.1 _ 7 (Or.inr (by decide))).trans hv118094
              have hfr : (∀ b j : Nat, (tag b ≠ 19 ∨ j ≠ 0) → (tag b ≠ 19 ∨ j ≠ 1) → (tag b ≠ 26 ∨ j ≠ 13) → fld F b j = fld Fo b j) ∧ EF tag F Fo := ⟨fun b j n19_0 n19_1 n26_13 => (yz118097.1 b j n26_13).trans (hfr.1 b j n19_0 n19_1 n26_13), fun b j hb => (yz118097.2 b j hb).trans (hfr.2 b j hb)⟩
              exact t_iret hQ X hT (⟨rg_all _, hfr⟩) (Nat.le_of_ble_eq_true rfl) (Nat.le_of_ble_eq_true rfl) dX11_in_130
            have w118098 := cv_ne (rfl : p3.toInt = p3.toInt) (by decide : (3 : Int32).toInt = 3) c118092
            refine lv_tableOut (tgt := 131) hx hb dX11_in_45 (by omega) (by decide) ?_
            refine lv_aload_n hx hb dX11_in_131 rfl (lv_at hl 0 rfl) ?_
            refine lv_aload_n hx hb dX11_in_132 rfl (lv_at hl 0 rfl) ?_
            refine t_get (C := RX11) (T := TX11) (N := 16) X hT m0 g0 rfl rfl 3 (by decide) qw_18 inlX11 rfl dX11_in_133 (fun v118099 hv118099 ov118099 => ?_)
            obtain ⟨b118100, rfl, mb118100, gb118100⟩ := okV_r ov118099
            have gb118100 : tag b118100 = 18 := tg_of gb118100
            refine lv_aload_n hx hb dX11_in_136 rfl (lv_at hl 0 rfl) ?_
            refine t_get (C := RX11) (T := TX11) (N := 16) X hT m0 g0 rfl rfl 7 (by decide) qw_25 inlX11 rfl dX11_in_137 (fun v118101 hv118101 ov118101 => ?_)
            obtain ⟨b118102, rfl, mb118102, gb118102⟩ := okV_r ov118101
            have gb118102 : tag b118102 = 19 := tg_of gb118102
            refine lv_iload_n hx hb dX11_in_140 rfl (lv_at hl 1 rfl) ?_
            refine t_cSi (n := 3) (As := [.ref b118100, .ref b118102, .int p1]) (rest := [.ref p0]) X hT (kt381_X6_isShut l G tag L F hT.2.2.2 b118100 b118102 p1 mb118100 gb118100 mb118102 gb118102 (by omega)) qw_774 qw_775 qw_380 qw_776 ⟨by decide +kernel, by decide +kernel, by decide +kernel⟩ ⟨Nat.le_of_ble_eq_true rfl, Nat.le_of_ble_eq_true rfl⟩ hl rfl rfl (Nat.le_of_ble_eq_true rfl) dX11_in_141 ⟨Nat.le_of_ble_eq_true rfl, Nat.le_of_ble_eq_true rfl⟩ (fun z118103 F9 H locs hT hz118103 => ?_)
            obtain ⟨fz118103, hz118103⟩ := hz118103
            rw [fz118103] at hT
            refine lv_if_eq (tgt := 151) hx hb dX11_in_144 (by decide) (fun c118104 => ?_) (fun c118104 => ?_)
            · have w118105 := cv_eq (rfl : z118103.toInt = z118103.toInt) (by decide : (0 : Int32).toInt = 0) c118104
              refine lv_iconst (v := 0) hx hb dX11_in_151 (by decide) ?_
              exact K152 0 p0 _ _ _ _ (by decide) m0 g0 (by omega) (by omega) (by omega) hT hfr  (lv_sub hl [0, 1, 2, 3] rfl)
            · have w118106 := cv_ne (rfl : z118103.toInt = z118103.toInt) (by decide : (0 : Int32).toInt = 0) c118104
              refine lv_iconst (v := 1) hx hb dX11_in_147 (by decide) ?_
              refine lv_goto (tgt := 152) hx hb dX11_in_148 (by decide) ?_
              exact K152 1 p0 _ _ _ _ (by decide) m0 g0 (by omega) (by omega) (by omega) hT hfr  (lv_sub hl [0, 1, 2, 3] rfl)
          · have w118107 := cv_nle (rfl : p2.toInt = p2.toInt) (by decide : (60 : Int32).toInt = 60) c118062
            exact K33  _ _ _ _ (by omega) (by omega) hT hfr  (lv_sub hl [0, 1, 2, 3] rfl)
      · have w118108 := cv_nle (rfl : p3.toInt = p3.toInt) (by decide : (4 : Int32).toInt = 4) c118057
        exact K17  _ _ _ _  hT hfr  (lv_sub hl [0, 1, 2, 3] rfl)
set_option maxHeartbeats 4000000 in
set_option maxRecDepth 100000 in
theorem kt384_X11_isWall (l : Launch) (G : KG) (tag : Nat → Nat) (L : List Nat) (F : Nat → va_E) (ho : okT G ttC tag L F) (p0 : Nat) (p1 : Int32) (m0 : p0 ∈ L) (g0 : tag p0 = 26) : TMi l yX11_isWall cX11_isWall 2 (some .boolean) { frames := 0, cells := 0, slots := 0, locals := 0 } G ttC tag L F [.ref p0, .int p1] (fun r F1 => F1 = F ∧ ((0 ≤ r.toInt ∧ r.toInt ≤ 1) ∧ (r.toInt ≠ 0 → (0 ≤ p1.toInt ∧ p1.toInt ≤ 5)))) := by
  refine t_bodyi (y := yX11_isWall) (cd := cX11_isWall) (mL := 2) (rt := (some .boolean)) (rm := { frames := 0, cells := 0, slots := 0, locals := 0 }) (av := [.ref p0, .int p1]) (by decide) (Nat.le_of_ble_eq_true rfl) ho ?_
  intro p e s m args below meth c ls A Q hQ X hT hl
  have hx := X.1.1
  have hb := X.1.2.1
  have hl : lv_has ls 2 [(0, .ref p0), (1, .int p1)] := hl
  have rp1 := rg_all p1
  refine lv_aload_n hx hb dX11_isWall_0 rfl (lv_at hl 0 rfl) ?_
  refine t_get (C := RX11) (T := TX11) (N := 16) X hT m0 g0 rfl rfl 2 (by decide) qw_150 inlX11 rfl dX11_isWall_1 (fun v118274 hv118274 ov118274 => ?_)
  obtain ⟨z118275, rfl, rz118275⟩ := okV_i ov118274
  refine lv_if_eq (tgt := 26) hx hb dX11_isWall_4 (by decide) (fun c118276 => ?_) (fun c118276 => ?_)
  · have w118277 := cv_eq (rfl : z118275.toInt = z118275.toInt) (by decide : (0 : Int32).toInt = 0) c118276
    refine lv_iconst (v := 0) hx hb dX11_isWall_26 (by decide) ?_
    exact t_zret hQ X hT (by decide) (⟨rfl, ⟨(by decide), fun h => absurd (by decide) h⟩⟩) (Nat.le_of_ble_eq_true rfl) (Nat.le_of_ble_eq_true rfl) dX11_isWall_27
  · have w118278 := cv_ne (rfl : z118275.toInt = z118275.toInt) (by decide : (0 : Int32).toInt = 0) c118276
    refine lv_iload_n hx hb dX11_isWall_7 rfl (lv_at hl 1 rfl) ?_
    refine lv_if_lt (tgt := 26) hx hb dX11_isWall_8 (by decide) (fun c118279 => ?_) (fun c118279 => ?_)
    · have w118280 := cv_lt (rfl : p1.toInt = p1.toInt) (by decide : (0 : Int32).toInt = 0) c118279
      refine lv_iconst (v := 0) hx hb dX11_isWall_26 (by decide) ?_
      exact t_zret hQ X hT (by decide) (⟨rfl, ⟨(by decide), fun h => absurd (by decide) h⟩⟩) (Nat.le_of_ble_eq_true rfl) (Nat.le_of_ble_eq_true rfl) dX11_isWall_27
    · have w118281 := cv_nlt (rfl : p1.toInt = p1.toInt) (by decide : (0 : Int32).toInt = 0) c118279
      refine lv_iload_n hx hb dX11_isWall_11 rfl (lv_at hl 1 rfl) ?_
      refine lv_aload_n hx hb dX11_isWall_12 rfl (lv_at hl 0 rfl) ?_
      refine t_get (C := RX11) (T := TX11) (N := 16) X hT m0 g0 rfl rfl 3 (by decide) qw_18 inlX11 rfl dX11_isWall_13 (fun v118282 hv118282 ov118282 => ?_)
      obtain ⟨b118283, rfl, mb118283, gb118283⟩ := okV_r ov118282
      have gb118283 : tag b118283 = 18 := tg_of gb118283
      refine t_get (C := RX1) (T := TX1) (N := 20) X hT mb118283 gb118283 rfl rfl 16 (by decide) qw_1383 inlX1 rfl dX11_isWall_16 (fun v118284 hv118284 ov118284 => ?_)
      obtain ⟨z118285, rfl, rz118285⟩ := okV_i ov118284
      refine lv_icmp_ge (tgt := 26) hx hb dX11_isWall_19 (by decide) (fun c118286 => ?_) (fun c118286 => ?_)
      · have w118287 := cv_le (rfl : z118285.toInt = z118285.toInt) (rfl : p1.toInt = p1.toInt) c118286
        refine lv_iconst (v := 0) hx hb dX11_isWall_26 (by decide) ?_
        exact t_zret hQ X hT (by decide) (⟨rfl, ⟨(by decide), fun h => absurd (by decide) h⟩⟩) (Nat.le_of_ble_eq_true rfl) (Nat.le_of_ble_eq_true rfl) dX11_isWall_27
      · have w118288 := cv_nle (rfl : z118285.toInt = z118285.toInt) (rfl : p1.toInt = p1.toInt) c118286
        refine lv_iconst (v := 1) hx hb dX11_isWall_22 (by decide) ?_
        refine lv_goto (tgt := 27) hx hb dX11_isWall_23 (by decide) ?_
        exact t_zret hQ X hT (by decide) (⟨rfl, ⟨(by decide), fun _ => by omega⟩⟩) (Nat.le_of_ble_eq_true rfl) (Nat.le_of_ble_eq_true rfl) dX11_isWall_27
set_option maxHeartbeats 4000000 in
set_option maxRecDepth 100000 in
theorem kt385_X5_begin (l : Launch) (G : KG) (tag : Nat → Nat) (L : List Nat) (Fo : Nat → va_E) (ho : okT G ttC tag L Fo) (p0 : Nat) (p1 : Int32) (m0 : p0 ∈ L) (g0 : tag p0 = 11) (h1 : 0 ≤ p1.toInt ∧ p1.toInt ≤ 6) : TMv l yX5_begin cX5_begin 3 { frames := 0, cells := 0, slots := 0, locals := 0 } G ttC tag L Fo [.ref p0, .int p1] (fun F1 => ((∀ b j : Nat, fld F1 b j = fld Fo b j) ∧ EF tag F1 Fo)) := by
  refine t_bodyv (y := yX5_begin) (cd := cX5_begin) (mL := 3) (rm := { frames := 0, cells := 0, slots := 0, locals := 0 }) (av := [.ref p0, .int p1]) (by decide) (Nat.le_of_ble_eq_true rfl) ho ?_
  intro p e s m args below meth c ls A Q hQ X hT hl
  have hx := X.1.1
  have hb := X.1.2.1
  have hl : lv_has ls 3 [(0, .ref p0), (1, .int p1)] := hl
  obtain ⟨F, hFo⟩ : ∃ F : Nat → va_E, F = Fo := ⟨_, rfl⟩
  rw [← hFo] at hT
  have hfr : (∀ b j : Nat, fld F b j = fld Fo b j) ∧ EF tag F Fo := by
    rw [hFo]
    exact ⟨by intros; rfl, fun _ _ _ => rfl⟩
  have K2 : ∀ (n : Nat) (z118570 : Int32) (F : Nat → va_E) (H : Heap) (locs : List Loc) (ls : Array Slot), (6 - z118570.toInt < (n : Int)) → (0 ≤ z118570.toInt ∧ z118570.toInt ≤ 6) → TH G ttC A s tag L F H locs → ((∀ b j : Nat, fld F b j = fld Fo b j) ∧ EF tag F Fo) → lv_has ls 3 [(0, .ref p0), (1, .int p1), (2, .int z118570)] → W p l e { frames := 0, cells := 0, slots := 0, locals := 0 } s m args below meth c H locs 0 0 Q (F0 m 2 ls []) := by
    intro n
    induction n with
    | zero =>
      intro z118570 F H locs ls hn rz118570 hT hfr hl
      exfalso
      omega
    | succ n ih2 =>
      intro z118570 F H locs ls hn rz118570 hT hfr hl
      refine lv_iload_n hx hb dX5_begin_2 rfl (lv_at hl 2 rfl) ?_
      refine lv_iload_n hx hb dX5_begin_3 rfl (lv_at hl 1 rfl) ?_
      refine lv_icmp_ge (tgt := 23) hx hb dX5_begin_4 (by decide) (fun c118571 => ?_) (fun c118571 => ?_)
      · have w118572 := cv_le (rfl : p1.toInt = p1.toInt) (rfl : z118570.toInt = z118570.toInt) c118571
        exact t_vret hQ X hT hfr (Nat.le_of_ble_eq_true rfl) (Nat.le_of_ble_eq_true rfl) dX5_begin_23
      · have w118573 := cv_nle (rfl : p1.toInt = p1.toInt) (rfl : z118570.toInt = z118570.toInt) c118571
        refine lv_iload_n hx hb dX5_begin_7 rfl (lv_at hl 2 rfl) ?_
        refine lv_aload_n hx hb dX5_begin_8 rfl (lv_at hl 0 rfl) ?_
        refine t_alen X hT m0 g0 rfl (by decide) dX5_begin_9 ?_
        refine lv_topi (fun z118574 ez118574 => ?_)
        obtain rfl : z118574 = 6 := ez118574.trans (by rfl)
        refine lv_icmp_ge (tgt := 23) hx hb dX5_begin_10 (by decide) (fun c118575 => ?_) (fun c118575 => ?_)
        · have w118576 := cv_le (by decide : (6 : Int32).toInt = 6) (rfl : z118570.toInt = z118570.toInt) c118575
          exfalso
          omega
        · have w118577 := cv_nle (by decide : (6 : Int32).toInt = 6) (rfl : z118570.toInt = z118570.toInt) c118575
          refine lv_aload_n hx hb dX5_begin_13 rfl (lv_at hl 0 rfl) ?_
          refine lv_iload_n hx hb dX5_begin_14 rfl (lv_at hl 2 rfl) ?_
          refine lv_iload_n hx hb dX5_begin_15 rfl (lv_at hl 2 rfl) ?_
          refine t_ist X hT m0 g0 rfl (by omega) (show 0 ≤ (z118570 : Int32).toInt ∧ (z118570 : Int32).toInt ≤ 5 from (by omega)) dX5_begin_16 (fun F H locs hT v118578 h1v118578 h2v118578 => ?_)
          have hfr : (∀ b j : Nat, fld F b j = fld Fo b j) ∧ EF tag F Fo := ⟨fun b j  => (h2v118578 b j).trans (hfr.1 b j ), fun b j hb => (h1v118578 b j (Or.inl (ns_ne hb g0 (by decide)))).trans (hfr.2 b j hb)⟩
          obtain ⟨z118579, ez118579⟩ : ∃ y : Int32, y = z118570 + 1 := ⟨_, rfl⟩
          have hz118579 : z118579.toInt = z118570.toInt + 1 := ar_add ez118579 rfl (by decide : (1 : Int32).toInt = 1) (by omega) (by omega)
          refine lv_iinc (v := z118579) (lv' := [(2, .int z118579), (0, .ref p0), (1, .int p1)]) hx hb dX5_begin_17 hl (k := 2) rfl (by rw [ez118579]; rfl) (by decide) rfl (fun ls hl => ?_)
          refine lv_goto (tgt := 2) hx hb dX5_begin_20 (by decide) ?_
          exact ih2 z118579 _ _ _ _ (by omega) (by omega) hT hfr  (lv_sub hl [1, 2, 0] rfl)
  refine lv_iconst (v := 0) hx hb dX5_begin_0 (by decide) ?_
  refine lv_istore_n (lv' := [(2, .int 0), (0, .ref p0), (1, .int p1)]) hx hb dX5_begin_1 rfl hl (by decide) rfl (fun ls hl => ?_)
  have kk118580 : (0 : Int32).toInt = 0 := by decide
  exact K2 7 0 _ _ _ _ (by omega) (by decide) hT hfr  (lv_sub hl [1, 2, 0] rfl)
set_option maxHeartbeats 4000000 in
set_option maxRecDepth 100000 in
theorem kt386_X9_lastFor (l : Launch) (G : KG) (tag : Nat → Nat) (L : List Nat) (F : Nat → va_E) (ho : okT G ttC tag L F) (p0 : Nat) (p1 : Int32) (p2 : Int32) (m0 : p0 ∈ L) (g0 : tag p0 = 18) (h2 : 0 ≤ p2.toInt ∧ p2.toInt ≤ 5) : TMi l yX9_lastFor cX9_lastFor 4 (some .int) { frames := 1, cells := 0, slots := 0, locals := 13 } G ttC tag L F [.ref p0, .int p1, .int p2] (fun r F1 => F1 = F ∧ ((-2147483648) ≤ r.toInt ∧ r.toInt ≤ 2147483647)) := by
  refine t_bodyi (y := yX9_lastFor) (cd := cX9_lastFor) (mL := 4) (rt := (some .int)) (rm := { frames := 1, cells := 0, slots := 0, locals := 13 }) (av := [.ref p0, .int p1, .int p2]) (by decide) (Nat.le_of_ble_eq_true rfl) ho ?_
  intro p e s m args below meth c ls A Q hQ X hT hl
  have hx := X.1.1
  have hb := X.1.2.1
  have hl : lv_has ls 4 [(0, .ref p0), (1, .int p1), (2, .int p2)] := hl
  have rp1 := rg_all p1
  refine lv_iload_n hx hb dX9_lastFor_0 rfl (lv_at hl 1 rfl) ?_
  refine lv_iconst (v := 1) hx hb dX9_lastFor_1 (by decide) ?_
  refine lv_isub hx hb dX9_lastFor_2 ?_
  refine lv_topi (fun z118762 ez118762 => ?_)
  have rz118762 := rg_all z118762
  refine lv_istore_n (lv' := [(3, .int z118762), (0, .ref p0), (1, .int p1), (2, .int p2)]) hx hb dX9_lastFor_3 rfl hl (by decide) rfl (fun ls hl => ?_)
  refine lv_aload_n hx hb dX9_lastFor_4 rfl (lv_at hl 1 rfl) ?_
  refine t_get (C := RX1) (T := TX1) (N := 20) X hT m0 g0 rfl rfl 19 (by decide) qw_1350 inlX1 rfl dX9_lastFor_5 (fun v118763 hv118763 ov118763 => ?_)
  obtain ⟨b118764, rfl, mb118764, gb118764⟩ := okV_r ov118763
  have gb118764 : tag b118764 = 7 := tg_of gb118764
  refine lv_iload_n hx hb dX9_lastFor_8 rfl (lv_at hl 3 rfl) ?_
  refine t_ild X hT mb118764 gb118764 rfl (by omega) dX9_lastFor_9 (fun z118765 vz118765 rz118765 => ?_)
  have rz118765 : (-2147483648) ≤ z118765.toInt ∧ z118765.toInt ≤ 2147483647 := rz118765
  refine lv_iconst (v := (-1)) hx hb dX9_lastFor_10 (by decide) ?_
  refine lv_icmp_ne (tgt := 18) hx hb dX9_lastFor_11 (by decide) (fun c118766 => ?_) (fun c118766 => ?_)
  · have w118767 := cv_ne (rfl : z118765.toInt = z118765.toInt) (by decide : ((-1) : Int32).toInt = (-1)) c118766
    refine lv_iload_n hx hb dX9_lastFor_18 rfl (lv_at hl 0 rfl) ?_
    refine lv_aload_n hx hb dX9_lastFor_19 rfl (lv_at hl 1 rfl) ?_
    refine t_get (C := RX1) (T := TX1) (N := 20) X hT m0 g0 rfl rfl 19 (by decide) qw_1350 inlX1 rfl dX9_lastFor_20 (fun v118768 hv118768 ov118768 => ?_)
    obtain rfl : v118768 = .ref b118764 := hv118768.symm.trans hv118763
    refine lv_iload_n hx hb dX9_lastFor_23 rfl (lv_at hl 3 rfl) ?_
    refine t_ild X hT mb118764 gb118764 rfl (by omega) dX9_lastFor_24 (fun z118769 vz118769 rz118769 => ?_)
    obtain rfl : z118765 = z118769 := vz118765.symm.trans vz118769
    refine lv_iconst (v := 1) hx hb dX9_lastFor_25 (by decide) ?_
    refine lv_isub hx hb dX9_lastFor_26 ?_
    refine lv_topi (fun z118770 ez118770 => ?_)
    have rz118770 := rg_all z118770
    refine t_mmin X hl qw_1351 qw_1018 qw_850 qw_1019 (Nat.le_of_ble_eq_true rfl) (Nat.le_of_ble_eq_true rfl) (Nat.le_of_ble_eq_true rfl) (Nat.le_of_ble_eq_true rfl) dX9_lastFor_27 (fun z118771 ez118771 => ?_)
    have hz118771 := mmin_e ez118771 (rfl : z118762.toInt = z118762.toInt) (rfl : z118770.toInt = z118770.toInt)
    exact t_iret hQ X hT (⟨rfl, rg_all _⟩) (Nat.le_of_ble_eq_true rfl) (Nat.le_of_ble_eq_true rfl) dX9_lastFor_30
  · have w118772 := cv_eq (rfl : z118765.toInt = z118765.toInt) (by decide : ((-1) : Int32).toInt = (-1)) c118766
    refine lv_iload_n hx hb dX9_lastFor_14 rfl (lv_at hl 0 rfl) ?_
    refine lv_goto (tgt := 30) hx hb dX9_lastFor_15 (by decide) ?_
    exact t_iret hQ X hT (⟨rfl, rg_all _⟩) (Nat.le_of_ble_eq_true rfl) (Nat.le_of_ble_eq_true rfl) dX9_lastFor_30
set_option maxHeartbeats 4000000 in
set_option maxRecDepth 100000 in
theorem kt387_X9_canBe (l : Launch) (G : KG) (tag : Nat → Nat) (L : List Nat) (Fo : Nat → va_E) (ho : okT G ttC tag L Fo) (p0 : Nat) (p1 : Nat) (p2 : Int32) (m0 : p0 ∈ L) (g0 : tag p0 = 22) (m1 : p1 ∈ L) (g1 : tag p1 = 18) : TMi l yX9_canBe cX9_canBe 8 (some .boolean) { frames := 2, cells := 0, slots := 0, locals := 36 } G ttC tag L Fo [.ref p0, .ref p1, .int p2] (fun r F1 => (0 ≤ r.toInt ∧ r.toInt ≤ 1) ∧ ((∀ b j : Nat, fld F1 b j = fld Fo b j) ∧ EF tag F1 Fo)) := by
  refine t_bodyi (y := yX9_canBe) (cd := cX9_canBe) (mL := 8) (rt := (some .boolean)) (rm := { frames := 2, cells := 0, slots := 0, locals := 36 }) (av := [.ref p0, .ref p1, .int p2]) (by decide) (Nat.le_of_ble_eq_true rfl) ho ?_
  intro p e s m args below meth c ls A Q hQ X hT hl
  have hx := X.1.1
  have hb := X.1.2.1
  have hl : lv_has ls 8 [(0, .ref p0), (1, .ref p1), (2, .int p2)] := hl
  have rp2 := rg_all p2
  obtain ⟨F, hFo⟩ : ∃ F : Nat → va_E, F = Fo := ⟨_, rfl⟩
  rw [← hFo] at hT
  have hfr : (∀ b j : Nat, fld F b j = fld Fo b j) ∧ EF tag F Fo := by
    rw [hFo]
    exact ⟨by intros; rfl, fun _ _ _ => rfl⟩
  have K8 : ∀ (n : Nat) (z119313 : Int32) (z119314 : Int32) (z119315 : Int32) (F : Nat → va_E) (H : Heap) (locs : List Loc) (ls : Array Slot), (6 - z119315.toInt < (n : Int)) → (0 ≤ z119315.toInt ∧ z119315.toInt ≤ 6) → TH G ttC A s tag L F H locs → ((∀ b j : Nat, fld F b j = fld Fo b j) ∧ EF tag F Fo) → lv_has ls 8 [(0, .ref p0), (1, .ref p1), (2, .int p2), (3, .int z119313), (4, .int z119314), (5, .int z119315)] → W p l e { frames := 2, cells := 0, slots := 0, locals := 36 } s m args below meth c H locs 0 0 Q (F0 m 8 ls []) := by
    intro n
    induction n with
    | zero =>
      intro z119313 z119314 z119315 F H locs ls hn rz119315 hT hfr hl
      have rz119313 := rg_all z119313
      have rz119314 := rg_all z119314
      exfalso
      omega
    | succ n ih8 =>
      intro z119313 z119314 z119315 F H locs ls hn rz119315 hT hfr hl
      have rz119313 := rg_all z119313
      have rz119314 := rg_all z119314
      refine lv_iload hx hb dX9_canBe_8 (lv_at hl 5 rfl) ?_
      refine lv_aload_n hx hb dX9_canBe_10 rfl (lv_at hl 1 rfl) ?_
      refine t_get (C := RX1) (T := TX1) (N := 20) X hT m1 g1 rfl rfl 16 (by decide) qw_1338 inlX1 rfl dX9_canBe_11 (fun v119316 hv119316 ov119316 => ?_)
      obtain ⟨z119317, rfl, rz119317⟩ := okV_i ov119316
      refine lv_icmp_ge (tgt := 98) hx hb dX9_canBe_14 (by decide) (fun c119318 => ?_) (fun c119318 => ?_)
      · have w119319 := cv_le (rfl : z119317.toInt = z119317.toInt) (rfl : z119315.toInt = z119315.toInt) c119318
        refine lv_iconst (v := 1) hx hb dX9_canBe_98 (by decide) ?_
        exact t_zret hQ X hT (by decide) (⟨(by decide), hfr⟩) (Nat.le_of_ble_eq_true rfl) (Nat.le_of_ble_eq_true rfl) dX9_canBe_99
      · have w119320 := cv_nle (rfl : z119317.toInt = z119317.toInt) (rfl : z119315.toInt = z119315.toInt) c119318
        refine lv_aload_n hx hb dX9_canBe_17 rfl (lv_at hl 0 rfl) ?_
        refine t_get (C := RX9) (T := TX9) (N := 6) X hT m0 g0 rfl rfl 0 (by decide) qw_93 inlX9 rfl dX9_canBe_18 (fun v119321 hv119321 ov119321 => ?_)
        obtain ⟨b119322, rfl, mb119322, gb119322⟩ := okV_r ov119321
        have gb119322 : tag b119322 = 11 := tg_of gb119322
        refine lv_iload hx hb dX9_canBe_21 (lv_at hl 5 rfl) ?_
        refine t_ild X hT mb119322 gb119322 rfl (by omega) dX9_canBe_23 (fun z119323 vz119323 rz119323 => ?_)
        have rz119323 : 0 ≤ z119323.toInt ∧ z119323.toInt ≤ 5 := rz119323
        refine lv_istore (lv' := [(6, .int z119323), (0, .ref p0), (1, .ref p1), (2, .int p2), (3, .int z119313), (4, .int z119314), (5, .int z119315)]) hx hb dX9_canBe_24 hl (by decide) rfl (fun ls hl => ?_)
        refine lv_aload_n hx hb dX9_canBe_26 rfl (lv_at hl 2 rfl) ?_
        refine t_get (C := RX1) (T := TX1) (N := 20) X hT m1 g1 rfl rfl 17 (by decide) qw_1344 inlX1 rfl dX9_canBe_27 (fun v119324 hv119324 ov119324 => ?_)
        obtain ⟨b119325, rfl, mb119325, gb119325⟩ := okV_r ov119324
        have gb119325 : tag b119325 = 7 := tg_of gb119325
        refine lv_iload hx hb dX9_canBe_30 (lv_at hl 0 rfl) ?_
        refine t_ild X hT mb119325 gb119325 rfl (by omega) dX9_canBe_32 (fun z119326 vz119326 rz119326 => ?_)
        have rz119326 : (-2147483648) ≤ z119326.toInt ∧ z119326.toInt ≤ 2147483647 := rz119326
        refine lv_iload_n hx hb dX9_canBe_33 rfl (lv_at hl 4 rfl) ?_
        refine lv_iconst (v := (-1)) hx hb dX9_canBe_34 (by decide) ?_
        refine lv_ixor hx hb dX9_canBe_35 ?_
        refine lv_topi (fun z119327 ez119327 => ?_)
        have rz119327 := rg_all z119327
        refine lv_iand hx hb dX9_canBe_36 ?_
        refine lv_topi (fun z119328 ez119328 => ?_)
        have rz119328 := rg_all z119328
        refine lv_if_eq (tgt := 42) hx hb dX9_canBe_37 (by decide) (fun c119329 => ?_) (fun c119329 => ?_)
        · have w119330 := cv_eq (rfl : z119328.toInt = z119328.toInt) (by decide : (0 : Int32).toInt = 0) c119329
          refine lv_iload hx hb dX9_canBe_42 (lv_at hl 5 rfl) ?_
          refine lv_aload_n hx hb dX9_canBe_44 rfl (lv_at hl 2 rfl) ?_
          refine t_get (C := RX1) (T := TX1) (N := 20) X hT m1 g1 rfl rfl 18 (by decide) qw_1345 inlX1 rfl dX9_canBe_45 (fun v119331 hv119331 ov119331 => ?_)
          obtain ⟨b119332, rfl, mb119332, gb119332⟩ := okV_r ov119331
          have gb119332 : tag b119332 = 7 := tg_of gb119332
          refine lv_iload hx hb dX9_canBe_48 (lv_at hl 0 rfl) ?_
          refine t_ild X hT mb119332 gb119332 rfl (by omega) dX9_canBe_50 (fun z119333 vz119333 rz119333 => ?_)
          have rz119333 : (-2147483648) ≤ z119333.toInt ∧ z119333.toInt ≤ 2147483647 := rz119333
          refine t_mmax X hl qw_1346 qw_849 qw_850 qw_851 (Nat.le_of_ble_eq_true rfl) (Nat.le_of_ble_eq_true rfl) (Nat.le_of_ble_eq_true rfl) (Nat.le_of_ble_eq_true rfl) dX9_canBe_51 (fun z119334 ez119334 => ?_)
          have hz119334 := mmax_e ez119334 (rfl : z119314.toInt = z119314.toInt) (rfl : z119333.toInt = z119333.toInt)
          refine lv_istore (lv' := [(7, .int z119334), (6, .int z119323), (0, .ref p0), (1, .ref p1), (2, .int p2), (3, .int z119313), (4, .int z119314), (5, .int z119315)]) hx hb dX9_canBe_54 hl (by decide) rfl (fun ls hl => ?_)
          refine lv_iload hx hb dX9_canBe_56 (lv_at hl 0 rfl) ?_
          refine lv_aload_n hx hb dX9_canBe_58 rfl (lv_at hl 3 rfl) ?_
          refine lv_iload_n hx hb dX9_canBe_59 rfl (lv_at hl 4 rfl) ?_
          refine lv_iload hx hb dX9_canBe_60 (lv_at hl 1 rfl) ?_
          refine t_cSi (n := 3) (As := [.ref p1, .int p2, .int z119323]) (rest := [.int z119334]) X hT (kt386_X9_lastFor l G tag L F hT.2.2.2 p1 p2 z119323 m1 g1 (by omega)) qw_1347 qw_1348 qw_40 qw_1349 ⟨by decide +kernel, by decide +kernel, by decide +kernel⟩ ⟨Nat.le_of_ble_eq_true rfl, Nat.le_of_ble_eq_true rfl⟩ hl rfl rfl (Nat.le_of_ble_eq_true rfl) dX9_canBe_62 ⟨Nat.le_of_ble_eq_true rfl, Nat.le_of_ble_eq_true rfl⟩ (fun z119335 F9 H locs hT hz119335 => ?_)
          obtain ⟨fz119335, hz119335⟩ := hz119335
          rw [fz119335] at hT
          refine lv_icmp_le (tgt := 70) hx hb dX9_canBe_65 (by decide) (fun c119336 => ?_) (fun c119336 => ?_)
          · have w119337 := cv_le (rfl : z119334.toInt = z119334.toInt) (rfl : z119335.toInt = z119335.toInt) c119336
            refine lv_aload_n hx hb dX9_canBe_70 rfl (lv_at hl 2 rfl) ?_
            refine t_get (C := RX9) (T := TX9) (N := 6) X hT m0 g0 rfl rfl 1 (by decide) qw_94 inlX9 rfl dX9_canBe_71 (fun v119338 hv119338 ov119338 => ?_)
            obtain ⟨b119339, rfl, mb119339, gb119339⟩ := okV_r ov119338
            have gb119339 : tag b119339 = 7 := tg_of gb119339
            refine lv_iload hx hb dX9_canBe_74 (lv_at hl 7 rfl) ?_
            refine lv_iload hx hb dX9_canBe_76 (lv_at hl 0 rfl) ?_
            refine t_ist X hT mb119339 gb119339 rfl (by omega) (show (-2147483648) ≤ (z119334 : Int32).toInt ∧ (z119334 : Int32).toInt ≤ 2147483647 from (by omega)) dX9_canBe_78 (fun F H locs hT v119340 h1v119340 h2v119340 => ?_)
            have hv119316 := (h2v119340 _ _).trans hv119316
            have hv119321 := (h2v119340 _ _).trans hv119321
            have hv119324 := (h2v119340 _ _).trans hv119324
            have hv119331 := (h2v119340 _ _).trans hv119331
            have hv119338 := (h2v119340 _ _).trans hv119338
            have hfr : (∀ b j : Nat, fld F b j = fld Fo b j) ∧ EF tag F Fo := ⟨fun b j  => (h2v119340 b j).trans (hfr.1 b j ), fun b j hb => (h1v119340 b j (Or.inl (ns_ne hb gb119339 (by decide)))).trans (hfr.2 b j hb)⟩
            refine lv_iload hx hb dX9_canBe_79 (lv_at hl 0 rfl) ?_
            refine lv_iconst (v := 1) hx hb dX9_canBe_81 (by decide) ?_
            refine lv_iadd hx hb dX9_canBe_82 ?_
            refine lv_topi (fun z119341 ez119341 => ?_)
            have rz119341 := rg_all z119341
            refine lv_istore (lv' := [(4, .int z119341), (7, .int z119334), (6, .int z119323), (0, .ref p0), (1, .ref p1), (2, .int p2), (3, .int z119313), (5, .int z119315)]) hx hb dX9_canBe_83 hl (by decide) rfl (fun ls hl => ?_)
            refine lv_iload_n hx hb dX9_canBe_85 rfl (lv_at hl 6 rfl) ?_
            refine lv_iconst (v := 1) hx hb dX9_canBe_86 (by decide) ?_
            refine lv_iload hx hb dX9_canBe_87 (lv_at hl 2 rfl) ?_
            refine lv_ishl hx hb dX9_canBe_89 ?_
            refine lv_topi (fun z119342 ez119342 => ?_)
            have rz119342 := rg_all z119342
            refine lv_ior hx hb dX9_canBe_90 ?_
            refine lv_topi (fun z119343 ez119343 => ?_)
            have rz119343 := rg_all z119343
            refine lv_istore_n (lv' := [(3, .int z119343), (4, .int z119341), (7, .int z119334), (6, .int z119323), (0, .ref p0), (1, .ref p1), (2, .int p2), (5, .int z119315)]) hx hb dX9_canBe_91 rfl hl (by decide) rfl (fun ls hl => ?_)
            obtain ⟨z119344, ez119344⟩ : ∃ y : Int32, y = z119315 + 1 := ⟨_, rfl⟩
            have hz119344 : z119344.toInt = z119315.toInt + 1 := ar_add ez119344 rfl (by decide : (1 : Int32).toInt = 1) (by omega) (by omega)
            refine lv_iinc (v := z119344) (lv' := [(5, .int z119344), (3, .int z119343), (4, .int z119341), (7, .int z119334), (6, .int z119323), (0, .ref p0), (1, .ref p1), (2, .int p2)]) hx hb dX9_canBe_92 hl (k := 7) rfl (by rw [ez119344]; rfl) (by decide) rfl (fun ls hl => ?_)
            refine lv_goto (tgt := 8) hx hb dX9_canBe_95 (by decide) ?_
            exact ih8 z119343 z119341 z119344 _ _ _ _ (by omega) (by omega) hT hfr  (lv_sub hl [5, 6, 7, 1, 2, 0] rfl)
          · have w119345 := cv_nle (rfl : z119334.toInt = z119334.toInt) (rfl : z119335.toInt = z119335.toInt) c119336
            refine lv_iconst (v := 0) hx hb dX9_canBe_68 (by decide) ?_
            exact t_zret hQ X hT (by decide) (⟨(by decide), hfr⟩) (Nat.le_of_ble_eq_true rfl) (Nat.le_of_ble_eq_true rfl) dX9_canBe_69
        · have w119346 := cv_ne (rfl : z119328.toInt = z119328.toInt) (by decide : (0 : Int32).toInt = 0) c119329
          refine lv_iconst (v := 0) hx hb dX9_canBe_40 (by decide) ?_
          exact t_zret hQ X hT (by decide) (⟨(by decide), hfr⟩) (Nat.le_of_ble_eq_true rfl) (Nat.le_of_ble_eq_true rfl) dX9_canBe_41
  refine lv_iconst (v := 0) hx hb dX9_canBe_0 (by decide) ?_
  refine lv_istore_n (lv' := [(3, .int 0), (0, .ref p0), (1, .ref p1), (2, .int p2)]) hx hb dX9_canBe_1 rfl hl (by decide) rfl (fun ls hl => ?_)
  refine lv_iconst (v := 0) hx hb dX9_canBe_2 (by decide) ?_
  refine lv_istore (lv' := [(4, .int 0), (3, .int 0), (0, .ref p0), (1, .ref p1), (2, .int p2)]) hx hb dX9_canBe_3 hl (by decide) rfl (fun ls hl => ?_)
  refine lv_iconst (v := 0) hx hb dX9_canBe_5 (by decide) ?_
  refine lv_istore (lv' := [(5, .int 0), (4, .int 0), (3, .int 0), (0, .ref p0), (1, .ref p1), (2, .int p2)]) hx hb dX9_canBe_6 hl (by decide) rfl (fun ls hl => ?_)
  have kk119347 : (0 : Int32).toInt = 0 := by decide
  have kk119348 : (0 : Int32).toInt = 0 := by decide
  have kk119349 : (0 : Int32).toInt = 0 := by decide
  exact K8 7 0 0 0 _ _ _ _ (by omega) (by decide) hT hfr  (lv_sub hl [3, 4, 5, 2, 1, 0] rfl)
set_option maxHeartbeats 4000000 in
set_option maxRecDepth 100000 in
theorem kt388_X9_noteRow (l : Launch) (G : KG) (tag : Nat → Nat) (L : List Nat) (Fo : Nat → va_E) (ho : okT G ttC tag L Fo) (p0 : Nat) (p1 : Nat) (p2 : Int32) (m0 : p0 ∈ L) (g0 : tag p0 = 22) (m1 : p1 ∈ L) (g1 : tag p1 = 18) : TMv l yX9_noteRow cX9_noteRow 7 { frames := 2, cells := 0, slots := 0, locals := 36 } G ttC tag L Fo [.ref p0, .ref p1, .int p2] (fun F1 => ((∀ b j : Nat, fld F1 b j = fld Fo b j) ∧ EF tag F1 Fo)) := by
  refine t_bodyv (y := yX9_noteRow) (cd := cX9_noteRow) (mL := 7) (rm := { frames := 2, cells := 0, slots := 0, locals := 36 }) (av := [.ref p0, .ref p1, .int p2]) (by decide) (Nat.le_of_ble_eq_true rfl) ho ?_
  intro p e s m args below meth c ls A Q hQ X hT hl
  have hx := X.1.1
  have hb := X.1.2.1
  have hl : lv_has ls 7 [(0, .ref p0), (1, .ref p1), (2, .int p2)] := hl
  have rp2 := rg_all p2
  obtain ⟨F, hFo⟩ : ∃ F : Nat → va_E, F = Fo := ⟨_, rfl⟩
  rw [← hFo] at hT
  have hfr : (∀ b j : Nat, fld F b j = fld Fo b j) ∧ EF tag F Fo := by
    rw [hFo]
    exact ⟨by intros; rfl, fun _ _ _ => rfl⟩
  have K82 : ∀ (n : Nat) (z120185 : Int32) (z120186 : Int32) (z120187 : Int32) (z120188 : Int32) (F : Nat → va_E) (H : Heap) (locs : List Loc) (ls : Array Slot), (z120187.toInt - (-1) < (n : Int)) → ((-1) ≤ z120187.toInt ∧ z120187.toInt ≤ 5) → (0 ≤ z120188.toInt ∧ z120188.toInt ≤ 6) → TH G ttC A s tag L F H locs → ((∀ b j : Nat, fld F b j = fld Fo b j) ∧ EF tag F Fo) → fld F p1 16 = .int z120188 → lv_has ls 7 [(0, .ref p0), (1, .ref p1), (2, .int p2), (3, .int z120185), (4, .int z120186), (5, .int z120187)] → W p l e { frames := 2, cells := 0, slots := 0, locals := 36 } s m args below meth c H locs 0 0 Q (F0 m 82 ls []) := by
    intro n
    induction n with
    | zero =>
      intro z120185 z120186 z120187 z120188 F H locs ls hn rz120187 rz120188 hT hfr qz120188 hl
      have rz120185 := rg_all z120185
      have rz120186 := rg_all z120186
      exfalso
      omega
    | succ n ih82 =>
      intro z120185 z120186 z120187 z120188 F H locs ls hn rz120187 rz120188 hT hfr qz120188 hl
      have rz120185 := rg_all z120185
      have rz120186 := rg_all z120186
      refine lv_iload hx hb dX9_noteRow_82 (lv_at hl 5 rfl) ?_
      refine lv_if_lt (tgt := 137) hx hb dX9_noteRow_84 (by decide) (fun c120189 => ?_) (fun c120189 => ?_)
      · have w120190 := cv_lt (rfl : z120187.toInt = z120187.toInt) (by decide : (0 : Int32).toInt = 0) c120189
        exact t_vret hQ X hT hfr (Nat.le_of_ble_eq_true rfl) (Nat.le_of_ble_eq_true rfl) dX9_noteRow_137
      · have w120191 := cv_nlt (rfl : z120187.toInt = z120187.toInt) (by decide : (0 : Int32).toInt = 0) c120189
        refine lv_aload_n hx hb dX9_noteRow_87 rfl (lv_at hl 0 rfl) ?_
        refine t_get (C := RX9) (T := TX9) (N := 6) X hT m0 g0 rfl rfl 0 (by decide) qw_93 inlX9 rfl dX9_noteRow_88 (fun v120192 hv120192 ov120192 => ?_)
        obtain ⟨b120193, rfl, mb120193, gb120193⟩ := okV_r ov120192
        have gb120193 : tag b120193 = 11 := tg_of gb120193
        refine lv_iload hx hb dX9_noteRow_91 (lv_at hl 5 rfl) ?_
        refine t_ild X hT mb120193 gb120193 rfl (by omega) dX9_noteRow_93 (fun z120194 vz120194 rz120194 => ?_)
        have rz120194 : 0 ≤ z120194.toInt ∧ z120194.toInt ≤ 5 := rz120194
        refine lv_istore (lv' := [(6, .int z120194), (0, .ref p0), (1, .ref p1), (2, .int p2), (3, .int z120185), (4, .int z120186), (5, .int z120187)]) hx hb dX9_noteRow_94 hl (by decide) rfl (fun ls hl => ?_)
        refine lv_iload hx hb dX9_noteRow_96 (lv_at hl 5 rfl) ?_
        refine lv_iconst (v := 1) hx hb dX9_noteRow_98 (by decide) ?_
        refine lv_isub hx hb dX9_noteRow_99 ?_
        refine lv_topi (fun z120195 ez120195 => ?_)
        have rz120195 := rg_all z120195
        refine lv_aload_n hx hb dX9_noteRow_100 rfl (lv_at hl 2 rfl) ?_
        refine lv_iload_n hx hb dX9_noteRow_101 rfl (lv_at hl 3 rfl) ?_
        refine lv_iload hx hb dX9_noteRow_102 (lv_at hl 0 rfl) ?_
        refine t_cSi (n := 3) (As := [.ref p1, .int p2, .int z120194]) (rest := [.int z120195]) X hT (kt386_X9_lastFor l G tag L F hT.2.2.2 p1 p2 z120194 m1 g1 (by omega)) qw_1347 qw_1348 qw_40 qw_1349 ⟨by decide +kernel, by decide +kernel, by decide +kernel⟩ ⟨Nat.le_of_ble_eq_true rfl, Nat.le_of_ble_eq_true rfl⟩ hl rfl rfl (Nat.le_of_ble_eq_true rfl) dX9_noteRow_104 ⟨Nat.le_of_ble_eq_true rfl, Nat.le_of_ble_eq_true rfl⟩ (fun z120196 F9 H locs hT hz120196 => ?_)
        obtain ⟨fz120196, hz120196⟩ := hz120196
        rw [fz120196] at hT
        refine t_mmin X hl qw_1351 qw_1018 qw_850 qw_1019 (Nat.le_of_ble_eq_true rfl) (Nat.le_of_ble_eq_true rfl) (Nat.le_of_ble_eq_true rfl) (Nat.le_of_ble_eq_true rfl) dX9_noteRow_107 (fun z120197 ez120197 => ?_)
        have hz120197 := mmin_e ez120197 (rfl : z120195.toInt = z120195.toInt) (rfl : z120196.toInt = z120196.toInt)
        refine lv_istore (lv' := [(4, .int z120197), (6, .int z120194), (0, .ref p0), (1, .ref p1), (2, .int p2), (3, .int z120185), (5, .int z120187)]) hx hb dX9_noteRow_110 hl (by decide) rfl (fun ls hl => ?_)
        refine lv_aload_n hx hb dX9_noteRow_112 rfl (lv_at hl 2 rfl) ?_
        refine t_get (C := RX9) (T := TX9) (N := 6) X hT m0 g0 rfl rfl 4 (by decide) qw_96 inlX9 rfl dX9_noteRow_113 (fun v120198 hv120198 ov120198 => ?_)
        obtain ⟨b120199, rfl, mb120199, gb120199⟩ := okV_r ov120198
        have gb120199 : tag b120199 = 7 := tg_of gb120199
        refine lv_iload hx hb dX9_noteRow_116 (lv_at hl 1 rfl) ?_
        refine lv_aload_n hx hb dX9_noteRow_118 rfl (lv_at hl 2 rfl) ?_
        refine t_get (C := RX9) (T := TX9) (N := 6) X hT m0 g0 rfl rfl 4 (by decide) qw_96 inlX9 rfl dX9_noteRow_119 (fun v120200 hv120200 ov120200 => ?_)
        obtain rfl : v120200 = .ref b120199 := hv120200.symm.trans hv120198
        refine lv_iload hx hb dX9_noteRow_122 (lv_at hl 1 rfl) ?_
        refine t_ild X hT mb120199 gb120199 rfl (by omega) dX9_noteRow_124 (fun z120201 vz120201 rz120201 => ?_)
        have rz120201 : (-2147483648) ≤ z120201.toInt ∧ z120201.toInt ≤ 2147483647 := rz120201
        refine lv_iload hx hb dX9_noteRow_125 (lv_at hl 0 rfl) ?_
        refine t_mmax X hl qw_1346 qw_849 qw_850 qw_851 (Nat.le_of_ble_eq_true rfl) (Nat.le_of_ble_eq_true rfl) (Nat.le_of_ble_eq_true rfl) (Nat.le_of_ble_eq_true rfl) dX9_noteRow_127 (fun z120202 ez120202 => ?_)
        have hz120202 := mmax_e ez120202 (rfl : z120201.toInt = z120201.toInt) (rfl : z120197.toInt = z120197.toInt)
        refine t_ist X hT mb120199 gb120199 rfl (by omega) (show (-2147483648) ≤ (z120202 : Int32).toInt ∧ (z120202 : Int32).toInt ≤ 2147483647 from (by omega)) dX9_noteRow_130 (fun F H locs hT v120203 h1v120203 h2v120203 => ?_)
        have qz120188 := (h2v120203 _ _).trans qz120188
        have hv120192 := (h2v120203 _ _).trans hv120192
        have hv120198 := (h2v120203 _ _).trans hv120198
        have hfr : (∀ b j : Nat, fld F b j = fld Fo b j) ∧ EF tag F Fo := ⟨fun b j  => (h2v120203 b j).trans (hfr.1 b j ), fun b j hb => (h1v120203 b j (Or.inl (ns_ne hb gb120199 (by decide)))).trans (hfr.2 b j hb)⟩
        obtain ⟨z120204, ez120204⟩ : ∃ y : Int32, y = z120187 + (-1) := ⟨_, rfl⟩
        have hz120204 : z120204.toInt = z120187.toInt + (-1) := ar_add ez120204 rfl (by decide : ((-1) : Int32).toInt = (-1)) (by omega) (by omega)
        refine lv_iinc (v := z120204) (lv' := [(5, .int z120204), (4, .int z120197), (6, .int z120194), (0, .ref p0), (1, .ref p1), (2, .int p2), (3, .int z120185)]) hx hb dX9_noteRow_131 hl (k := 6) rfl (by rw [ez120204]; rfl) (by decide) rfl (fun ls hl => ?_)
        refine lv_goto (tgt := 82) hx hb dX9_noteRow_134 (by decide) ?_
        exact ih82 z120185 z120197 z120204 z120188 _ _ _ _ (by omega) (by omega) (by omega) hT hfr qz120188 (lv_sub hl [3, 4, 5, 6, 1, 0] rfl)
  have K5 : ∀ (n : Nat) (z120205 : Int32) (z120206 : Int32) (F : Nat → va_E) (H : Heap) (locs : List Loc) (ls : Array Slot), (6 - z120206.toInt < (n : Int)) → (0 ≤ z120206.toInt ∧ z120206.toInt ≤ 6) → TH G ttC A s tag L F H locs → ((∀ b j : Nat, fld F b j = fld Fo b j) ∧ EF tag F Fo) → lv_has ls 7 [(0, .ref p0), (1, .ref p1), (2, .int p2), (3, .int z120205), (4, .int z120206)] → W p l e { frames := 2, cells := 0, slots := 0, locals := 36 } s m args below meth c H locs 0 0 Q (F0 m 5 ls []) := by
    intro n
    induction n with
    | zero =>
      intro z120205 z120206 F H locs ls hn rz120206 hT hfr hl
      have rz120205 := rg_all z120205
      exfalso
      omega
    | succ n ih5 =>
      intro z120205 z120206 F H locs ls hn rz120206 hT hfr hl
      have rz120205 := rg_all z120205
      refine lv_iload hx hb dX9_noteRow_5 (lv_at hl 4 rfl) ?_
      refine lv_aload_n hx hb dX9_noteRow_7 rfl (lv_at hl 1 rfl) ?_
      refine t_get (C := RX1) (T := TX1) (N := 20) X hT m1 g1 rfl rfl 16 (by decide) qw_1338 inlX1 rfl dX9_noteRow_8 (fun v120207 hv120207 ov120207 => ?_)
      obtain ⟨z120208, rfl, rz120208⟩ := okV_i ov120207
      refine lv_icmp_ge (tgt := 71) hx hb dX9_noteRow_11 (by decide) (fun c120209 => ?_) (fun c120209 => ?_)
      · have w120210 := cv_le (rfl : z120208.toInt = z120208.toInt) (rfl : z120206.toInt = z120206.toInt) c120209
        refine lv_iload_n hx hb dX9_noteRow_71 rfl (lv_at hl 2 rfl) ?_
        refine lv_istore (lv' := [(4, .int p2), (0, .ref p0), (1, .ref p1), (2, .int p2), (3, .int z120205)]) hx hb dX9_noteRow_72 hl (by decide) rfl (fun ls hl => ?_)
        refine lv_aload_n hx hb dX9_noteRow_74 rfl (lv_at hl 2 rfl) ?_
        refine t_get (C := RX1) (T := TX1) (N := 20) X hT m1 g1 rfl rfl 16 (by decide) qw_1338 inlX1 rfl dX9_noteRow_75 (fun v120211 hv120211 ov120211 => ?_)
        obtain rfl : v120211 = .int z120208 := hv120211.symm.trans hv120207
        refine lv_iconst (v := 1) hx hb dX9_noteRow_78 (by decide) ?_
        refine lv_isub hx hb dX9_noteRow_79 ?_
        refine lv_topi (fun z120212 ez120212 => ?_)
        have hz120212 : z120212.toInt = z120208.toInt - 1 := ar_sub ez120212 (rfl : z120208.toInt = z120208.toInt) (by decide : (1 : Int32).toInt = 1) (by omega) (by omega)
        have rz120212 : (-1) ≤ z120212.toInt ∧ z120212.toInt ≤ 5 := by omega
        refine lv_istore (lv' := [(5, .int z120212), (4, .int p2), (0, .ref p0), (1, .ref p1), (2, .int p2), (3, .int z120205)]) hx hb dX9_noteRow_80 hl (by decide) rfl (fun ls hl => ?_)
        exact K82 7 z120205 p2 z120212 z120208 _ _ _ _ (by omega) (by omega) (by omega) hT hfr hv120207 (lv_sub hl [2, 3, 4, 5, 1, 0] rfl)
      · have w120213 := cv_nle (rfl : z120208.toInt = z120208.toInt) (rfl : z120206.toInt = z120206.toInt) c120209
        refine lv_aload_n hx hb dX9_noteRow_14 rfl (lv_at hl 0 rfl) ?_
        refine t_get (C := RX9) (T := TX9) (N := 6) X hT m0 g0 rfl rfl 0 (by decide) qw_93 inlX9 rfl dX9_noteRow_15 (fun v120214 hv120214 ov120214 => ?_)
        obtain ⟨b120215, rfl, mb120215, gb120215⟩ := okV_r ov120214
        have gb120215 : tag b120215 = 11 := tg_of gb120215
        refine lv_iload hx hb dX9_noteRow_18 (lv_at hl 4 rfl) ?_
        refine t_ild X hT mb120215 gb120215 rfl (by omega) dX9_noteRow_20 (fun z120216 vz120216 rz120216 => ?_)
        have rz120216 : 0 ≤ z120216.toInt ∧ z120216.toInt ≤ 5 := rz120216
        refine lv_istore (lv' := [(5, .int z120216), (0, .ref p0), (1, .ref p1), (2, .int p2), (3, .int z120205), (4, .int z120206)]) hx hb dX9_noteRow_21 hl (by decide) rfl (fun ls hl => ?_)
        refine lv_aload_n hx hb dX9_noteRow_23 rfl (lv_at hl 1 rfl) ?_
        refine t_get (C := RX9) (T := TX9) (N := 6) X hT m0 g0 rfl rfl 3 (by decide) qw_95 inlX9 rfl dX9_noteRow_24 (fun v120217 hv120217 ov120217 => ?_)
        obtain ⟨b120218, rfl, mb120218, gb120218⟩ := okV_r ov120217
        have gb120218 : tag b120218 = 7 := tg_of gb120218
        refine lv_iload hx hb dX9_noteRow_27 (lv_at hl 0 rfl) ?_
        refine lv_aload_n hx hb dX9_noteRow_29 rfl (lv_at hl 1 rfl) ?_
        refine t_get (C := RX9) (T := TX9) (N := 6) X hT m0 g0 rfl rfl 3 (by decide) qw_95 inlX9 rfl dX9_noteRow_30 (fun v120219 hv120219 ov120219 => ?_)
        obtain rfl : v120219 = .ref b120218 := hv120219.symm.trans hv120217
        refine lv_iload hx hb dX9_noteRow_33 (lv_at hl 0 rfl) ?_
        refine t_ild X hT mb120218 gb120218 rfl (by omega) dX9_noteRow_35 (fun z120220 vz120220 rz120220 => ?_)
        have rz120220 : (-2147483648) ≤ z120220.toInt ∧ z120220.toInt ≤ 2147483647 := rz120220
        refine lv_aload_n hx hb dX9_noteRow_36 rfl (lv_at hl 1 rfl) ?_
        refine t_get (C := RX9) (T := TX9) (N := 6) X hT m0 g0 rfl rfl 1 (by decide) qw_94 inlX9 rfl dX9_noteRow_37 (fun v120221 hv120221 ov120221 => ?_)
        obtain ⟨b120222, rfl, mb120222, gb120222⟩ := okV_r ov120221
        have gb120222 : tag b120222 = 7 := tg_of gb120222
        refine lv_iload hx hb dX9_noteRow_40 (lv_at hl 5 rfl) ?_
        refine t_ild X hT mb120222 gb120222 rfl (by omega) dX9_noteRow_42 (fun z120223 vz120223 rz120223 => ?_)
        have rz120223 : (-2147483648) ≤ z120223.toInt ∧ z120223.toInt ≤ 2147483647 := rz120223
        refine t_mmin X hl qw_1351 qw_1018 qw_850 qw_1019 (Nat.le_of_ble_eq_true rfl) (Nat.le_of_ble_eq_true rfl) (Nat.le_of_ble_eq_true rfl) (Nat.le_of_ble_eq_true rfl) dX9_noteRow_43 (fun z120224 ez120224 => ?_)
        have hz120224 := mmin_e ez120224 (rfl : z120220.toInt = z120220.toInt) (rfl : z120223.toInt = z120223.toInt)
        refine t_ist X hT mb120218 gb120218 rfl (by omega) (show (-2147483648) ≤ (z120224 : Int32).toInt ∧ (z120224 : Int32).toInt ≤ 2147483647 from (by omega)) dX9_noteRow_46 (fun F H locs hT v120225 h1v120225 h2v120225 => ?_)
        have hv120207 := (h2v120225 _ _).trans hv120207
        have hv120214 := (h2v120225 _ _).trans hv120214
        have hv120217 := (h2v120225 _ _).trans hv120217
        have hv120221 := (h2v120225 _ _).trans hv120221
        have hfr : (∀ b j : Nat, fld F b j = fld Fo b j) ∧ EF tag F Fo := ⟨fun b j  => (h2v120225 b j).trans (hfr.1 b j ), fun b j hb => (h1v120225 b j (Or.inl (ns_ne hb gb120218 (by decide)))).trans (hfr.2 b j hb)⟩
        refine lv_aload_n hx hb dX9_noteRow_47 rfl (lv_at hl 1 rfl) ?_
        refine t_get (C := RX9) (T := TX9) (N := 6) X hT m0 g0 rfl rfl 5 (by decide) qw_97 inlX9 rfl dX9_noteRow_48 (fun v120226 hv120226 ov120226 => ?_)
        obtain ⟨b120227, rfl, mb120227, gb120227⟩ := okV_r ov120226
        have gb120227 : tag b120227 = 7 := tg_of gb120227
        refine lv_iload hx hb dX9_noteRow_51 (lv_at hl 0 rfl) ?_
        refine lv_dup2_11 hx hb dX9_noteRow_53 rfl rfl ?_
        refine t_ild X hT mb120227 gb120227 rfl (by omega) dX9_noteRow_54 (fun z120228 vz120228 rz120228 => ?_)
        have rz120228 : (-2147483648) ≤ z120228.toInt ∧ z120228.toInt ≤ 2147483647 := rz120228
        refine lv_iload_n hx hb dX9_noteRow_55 rfl (lv_at hl 4 rfl) ?_
        refine lv_iand hx hb dX9_noteRow_56 ?_
        refine lv_topi (fun z120229 ez120229 => ?_)
        have rz120229 := rg_all z120229
        refine t_ist X hT mb120227 gb120227 rfl (by omega) (show (-2147483648) ≤ (z120229 : Int32).toInt ∧ (z120229 : Int32).toInt ≤ 2147483647 from (by omega)) dX9_noteRow_57 (fun F H locs hT v120230 h1v120230 h2v120230 => ?_)
        have hv120207 := (h2v120230 _ _).trans hv120207
        have hv120214 := (h2v120230 _ _).trans hv120214
        have hv120217 := (h2v120230 _ _).trans hv120217
        have hv120221 := (h2v120230 _ _).trans hv120221
        have hv120226 := (h2v120230 _ _).trans hv120226
        have hfr : (∀ b j : Nat, fld F b j = fld Fo b j) ∧ EF tag F Fo := ⟨fun b j  => (h2v120230 b j).trans (hfr.1 b j ), fun b j hb => (h1v120230 b j (Or.inl (ns_ne hb gb120227 (by decide)))).trans (hfr.2 b j hb)⟩
        refine lv_iload_n hx hb dX9_noteRow_58 rfl (lv_at hl 4 rfl) ?_
        refine lv_iconst (v := 1) hx hb dX9_noteRow_59 (by decide) ?_
        refine lv_iload hx hb dX9_noteRow_60 (lv_at hl 0 rfl) ?_
        refine lv_ishl hx hb dX9_noteRow_62 ?_
        refine lv_topi (fun z120231 ez120231 => ?_)
        have rz120231 := rg_all z120231
        refine lv_ior hx hb dX9_noteRow_63 ?_
        refine lv_topi (fun z120232 ez120232 => ?_)
        have rz120232 := rg_all z120232
        refine lv_istore_n (lv' := [(3, .int z120232), (5, .int z120216), (0, .ref p0), (1, .ref p1), (2, .int p2), (4, .int z120206)]) hx hb dX9_noteRow_64 rfl hl (by decide) rfl (fun ls hl => ?_)
        obtain ⟨z120233, ez120233⟩ : ∃ y : Int32, y = z120206 + 1 := ⟨_, rfl⟩
        have hz120233 : z120233.toInt = z120206.toInt + 1 := ar_add ez120233 rfl (by decide : (1 : Int32).toInt = 1) (by omega) (by omega)
        refine lv_iinc (v := z120233) (lv' := [(4, .int z120233), (3, .int z120232), (5, .int z120216), (0, .ref p0), (1, .ref p1), (2, .int p2)]) hx hb dX9_noteRow_65 hl (k := 5) rfl (by rw [ez120233]; rfl) (by decide) rfl (fun ls hl => ?_)
        refine lv_goto (tgt := 5) hx hb dX9_noteRow_68 (by decide) ?_
        exact ih5 z120232 z120233 _ _ _ _ (by omega) (by omega) hT hfr  (lv_sub hl [3, 4, 5, 1, 0] rfl)
  refine lv_iconst (v := 0) hx hb dX9_noteRow_0 (by decide) ?_
  refine lv_istore_n (lv' := [(3, .int 0), (0, .ref p0), (1, .ref p1), (2, .int p2)]) hx hb dX9_noteRow_1 rfl hl (by decide) rfl (fun ls hl => ?_)
  refine lv_iconst (v := 0) hx hb dX9_noteRow_2 (by decide) ?_
  refine lv_istore (lv' := [(4, .int 0), (3, .int 0), (0, .ref p0), (1, .ref p1), (2, .int p2)]) hx hb dX9_noteRow_3 hl (by decide) rfl (fun ls hl => ?_)
  have kk120234 : (0 : Int32).toInt = 0 := by decide
  have kk120235 : (0 : Int32).toInt = 0 := by decide
  exact K5 7 0 0 _ _ _ _ (by omega) (by decide) hT hfr  (lv_sub hl [2, 3, 4, 1, 0] rfl)
