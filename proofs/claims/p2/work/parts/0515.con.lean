set_option maxHeartbeats 4000000 in
set_option maxRecDepth 100000 in
theorem kt126_X11_house (l : Launch) (G : KG) (tag : Nat → Nat) (L : List Nat) (Fo : Nat → va_E) (ho : okT G ttC tag L Fo) (p0 : Nat) (p1 : Int32) (p2 : Int32) (m0 : p0 ∈ L) (g0 : tag p0 = 26) : TMi l yX11_house cX11_house 3 (some .int) { frames := 4, cells := 0, slots := 0, locals := 101 } G ttC tag L Fo [.ref p0, .int p1, .int p2] (fun r F1 => ((-2147483648) ≤ r.toInt ∧ r.toInt ≤ 2147483647) ∧ (∀ b j : Nat, (tag b ≠ 26 ∨ j ≠ 13) → fld F1 b j = fld Fo b j)) := by
  refine t_bodyi (y := yX11_house) (cd := cX11_house) (mL := 3) (rt := (some .int)) (rm := { frames := 4, cells := 0, slots := 0, locals := 101 }) (av := [.ref p0, .int p1, .int p2]) (by decide) (Nat.le_of_ble_eq_true rfl) ho ?_
  intro p e s m args below meth c ls A Q hQ X hT hl
  have hx := X.1.1
  have hb := X.1.2.1
  have hl : lv_has ls 3 [(0, .ref p0), (1, .int p1), (2, .int p2)] := hl
  have rp1 := rg_all p1
  have rp2 := rg_all p2
  obtain ⟨F, hFo⟩ : ∃ F : Nat → va_E, F = Fo := ⟨_, rfl⟩
  rw [← hFo] at hT
  have hfr : ∀ b j : Nat, (tag b ≠ 26 ∨ j ≠ 13) → fld F b j = fld Fo b j := by
    rw [hFo]
    intros
    rfl
  have K165 : ∀ (z44242 : Int32) (b44243 : Nat) (F : Nat → va_E) (H : Heap) (locs : List Loc) (ls : Array Slot), (0 ≤ z44242.toInt ∧ z44242.toInt ≤ 1) → (b44243 ∈ L) → (tag b44243 = 26) → (0 ≤ p1.toInt ∧ p1.toInt ≤ 3) → (5 ≤ p2.toInt ∧ p2.toInt ≤ 5) → TH G ttC A s tag L F H locs → (∀ b j : Nat, (tag b ≠ 26 ∨ j ≠ 13) → fld F b j = fld Fo b j) → lv_has ls 3 [(0, .ref p0), (1, .int p1), (2, .int p2)] → W p l e { frames := 4, cells := 0, slots := 0, locals := 101 } s m args below meth c H locs 0 0 Q (F0 m 165 ls [.int z44242, .ref b44243]) := by
    intro z44242 b44243 F H locs ls rz44242 mb44243 gb44243 r9s44240 r9s44241 hT hfr hl
    refine t_cVi (n := 1) (C := RX11) (T := TX11) (N := 16) (As := [.int z44242]) (rest := []) X hT (kt96_X11_answer l G tag L F hT.2.2.2 b44243 z44242 mb44243 gb44243) mb44243 gb44243 rfl rfl qw_463 qw_464 qw_465 qw_2 qw_466 ⟨rfl, by decide +kernel, by decide +kernel, by decide +kernel⟩ ⟨Nat.le_of_ble_eq_true rfl, Nat.le_of_ble_eq_true rfl⟩ hl rfl rfl (Nat.le_of_ble_eq_true rfl) dX11_house_165 ⟨Nat.le_of_ble_eq_true rfl, Nat.le_of_ble_eq_true rfl⟩ (fun z44244 F H locs hT hz44244 => ?_)
    obtain ⟨hz44244, yz44244⟩ := hz44244
    have hfr : ∀ b j : Nat, (tag b ≠ 26 ∨ j ≠ 13) → fld F b j = fld Fo b j := fun b j n26_13 => (yz44244 b j n26_13).trans (hfr b j n26_13)
    exact t_iret hQ X hT (⟨rg_all _, hfr⟩) (Nat.le_of_ble_eq_true rfl) (Nat.le_of_ble_eq_true rfl) dX11_house_168
  have K186 : ∀ (z44247 : Int32) (b44248 : Nat) (F : Nat → va_E) (H : Heap) (locs : List Loc) (ls : Array Slot), (0 ≤ z44247.toInt ∧ z44247.toInt ≤ 1) → (b44248 ∈ L) → (tag b44248 = 26) → (0 ≤ p1.toInt ∧ p1.toInt ≤ 3) → (6 ≤ p2.toInt ∧ p2.toInt ≤ 6) → TH G ttC A s tag L F H locs → (∀ b j : Nat, (tag b ≠ 26 ∨ j ≠ 13) → fld F b j = fld Fo b j) → lv_has ls 3 [(0, .ref p0), (1, .int p1), (2, .int p2)] → W p l e { frames := 4, cells := 0, slots := 0, locals := 101 } s m args below meth c H locs 0 0 Q (F0 m 186 ls [.int z44247, .ref b44248]) := by
    intro z44247 b44248 F H locs ls rz44247 mb44248 gb44248 r9s44245 r9s44246 hT hfr hl
    refine t_cVi (n := 1) (C := RX11) (T := TX11) (N := 16) (As := [.int z44247]) (rest := []) X hT (kt96_X11_answer l G tag L F hT.2.2.2 b44248 z44247 mb44248 gb44248) mb44248 gb44248 rfl rfl qw_463 qw_464 qw_465 qw_2 qw_466 ⟨rfl, by decide +kernel, by decide +kernel, by decide +kernel⟩ ⟨Nat.le_of_ble_eq_true rfl, Nat.le_of_ble_eq_true rfl⟩ hl rfl rfl (Nat.le_of_ble_eq_true rfl) dX11_house_186 ⟨Nat.le_of_ble_eq_true rfl, Nat.le_of_ble_eq_true rfl⟩ (fun z44249 F H locs hT hz44249 => ?_)
    obtain ⟨hz44249, yz44249⟩ := hz44249
    have hfr : ∀ b j : Nat, (tag b ≠ 26 ∨ j ≠ 13) → fld F b j = fld Fo b j := fun b j n26_13 => (yz44249 b j n26_13).trans (hfr b j n26_13)
    exact t_iret hQ X hT (⟨rg_all _, hfr⟩) (Nat.le_of_ble_eq_true rfl) (Nat.le_of_ble_eq_true rfl) dX11_house_189
  refine lv_aload_n hx hb dX11_house_0 rfl (lv_at hl 0 rfl) ?_
  refine lv_iload_n hx hb dX11_house_1 rfl (lv_at hl 1 rfl) ?_
  refine t_cVi (n := 1) (C := RX11) (T := TX11) (N := 16) (As := [.int p1]) (rest := []) X hT (kt93_X11_isHouse l G tag L F hT.2.2.2 p0 p1 m0 g0) m0 g0 rfl rfl qw_770 qw_771 qw_772 qw_2 qw_773 ⟨rfl, by decide +kernel, by decide +kernel, by decide +kernel⟩ ⟨Nat.le_of_ble_eq_true rfl, Nat.le_of_ble_eq_true rfl⟩ hl rfl rfl (Nat.le_of_ble_eq_true rfl) dX11_house_2 ⟨Nat.le_of_ble_eq_true rfl, Nat.le_of_ble_eq_true rfl⟩ (fun z44250 F9 H locs hT hz44250 => ?_)
  obtain ⟨fz44250, hz44250⟩ := hz44250
  rw [fz44250] at hT
  obtain ⟨hz44250, iz44250⟩ := hz44250
  refine lv_if_ne (tgt := 14) hx hb dX11_house_5 (by decide) (fun c44251 => ?_) (fun c44251 => ?_)
  · have w44252 := cv_ne (rfl : z44250.toInt = z44250.toInt) (by decide : (0 : Int32).toInt = 0) c44251
    have w44253 := (fun h => (iz44250 h)) (by omega)
    refine lv_iload_n hx hb dX11_house_14 rfl (lv_at hl 2 rfl) ?_
    by_cases c44254 : p2 = 0
    · have w44255 := cv_eq (rfl : p2.toInt = p2.toInt) (by decide : (0 : Int32).toInt = 0) c44254
      refine lv_tableIn (off := 41) (tgt := 56) hx hb dX11_house_15 (by rw [c44254]; decide) (by rw [c44254]; decide) (by rw [c44254]; decide) (by decide) ?_
      refine lv_aload_n hx hb dX11_house_56 rfl (lv_at hl 0 rfl) ?_
      refine lv_aload_n hx hb dX11_house_57 rfl (lv_at hl 0 rfl) ?_
      refine t_get (C := RX11) (T := TX11) (N := 16) X hT m0 g0 rfl rfl 3 (by decide) qw_18 inlX11 rfl dX11_house_58 (fun v44256 hv44256 ov44256 => ?_)
      obtain ⟨b44257, rfl, mb44257, gb44257⟩ := okV_r ov44256
      have gb44257 : tag b44257 = 18 := tg_of gb44257
      refine t_get (C := RX1) (T := TX1) (N := 20) X hT mb44257 gb44257 rfl rfl 12 (by decide) qw_764 inlX1 rfl dX11_house_61 (fun v44258 hv44258 ov44258 => ?_)
      obtain ⟨b44259, rfl, mb44259, gb44259⟩ := okV_r ov44258
      have gb44259 : tag b44259 = 4 := tg_of gb44259
      refine lv_iload_n hx hb dX11_house_64 rfl (lv_at hl 1 rfl) ?_
      refine t_ild X hT mb44259 gb44259 rfl (by omega) dX11_house_65 (fun z44260 vz44260 rz44260 => ?_)
      have rz44260 : 0 ≤ z44260.toInt ∧ z44260.toInt ≤ 11 := rz44260
      refine lv_aload_n hx hb dX11_house_66 rfl (lv_at hl 0 rfl) ?_
      refine t_get (C := RX11) (T := TX11) (N := 16) X hT m0 g0 rfl rfl 3 (by decide) qw_18 inlX11 rfl dX11_house_67 (fun v44261 hv44261 ov44261 => ?_)
      obtain rfl : v44261 = .ref b44257 := hv44261.symm.trans hv44256
      refine t_get (C := RX1) (T := TX1) (N := 20) X hT mb44257 gb44257 rfl rfl 0 (by decide) qw_728 inlX1 rfl dX11_house_70 (fun v44262 hv44262 ov44262 => ?_)
      obtain ⟨z44263, rfl, rz44263⟩ := okV_i ov44262
      refine lv_imul hx hb dX11_house_73 ?_
      refine lv_topi (fun z44264 ez44264 => ?_)
      have rz44264 : 0 ≤ z44264.toInt ∧ z44264.toInt ≤ 132 := ar_mulb ez44264 (A := 11) (B := 12) (by omega) (by omega) (by decide) (by decide)
      refine lv_aload_n hx hb dX11_house_74 rfl (lv_at hl 0 rfl) ?_
      refine t_get (C := RX11) (T := TX11) (N := 16) X hT m0 g0 rfl rfl 3 (by decide) qw_18 inlX11 rfl dX11_house_75 (fun v44265 hv44265 ov44265 => ?_)
      obtain rfl : v44265 = .ref b44257 := hv44265.symm.trans hv44256
      refine t_get (C := RX1) (T := TX1) (N := 20) X hT mb44257 gb44257 rfl rfl 11 (by decide) qw_765 inlX1 rfl dX11_house_78 (fun v44266 hv44266 ov44266 => ?_)
      obtain ⟨b44267, rfl, mb44267, gb44267⟩ := okV_r ov44266
      have gb44267 : tag b44267 = 4 := tg_of gb44267
      refine lv_iload_n hx hb dX11_house_81 rfl (lv_at hl 1 rfl) ?_
      refine t_ild X hT mb44267 gb44267 rfl (by omega) dX11_house_82 (fun z44268 vz44268 rz44268 => ?_)
      have rz44268 : 0 ≤ z44268.toInt ∧ z44268.toInt ≤ 11 := rz44268
      refine lv_iadd hx hb dX11_house_83 ?_
      refine lv_topi (fun z44269 ez44269 => ?_)
      have hz44269 : z44269.toInt = z44264.toInt + z44268.toInt := ar_add ez44269 (rfl : z44264.toInt = z44264.toInt) (rfl : z44268.toInt = z44268.toInt) (by omega) (by omega)
      have rz44269 : 0 ≤ z44269.toInt ∧ z44269.toInt ≤ 143 := by omega
      refine t_cVi (n := 1) (C := RX11) (T := TX11) (N := 16) (As := [.int z44269]) (rest := []) X hT (kt96_X11_answer l G tag L F hT.2.2.2 p0 z44269 m0 g0) m0 g0 rfl rfl qw_463 qw_464 qw_465 qw_2 qw_466 ⟨rfl, by decide +kernel, by decide +kernel, by decide +kernel⟩ ⟨Nat.le_of_ble_eq_true rfl, Nat.le_of_ble_eq_true rfl⟩ hl rfl rfl (Nat.le_of_ble_eq_true rfl) dX11_house_84 ⟨Nat.le_of_ble_eq_true rfl, Nat.le_of_ble_eq_true rfl⟩ (fun z44270 F H locs hT hz44270 => ?_)
      obtain ⟨hz44270, yz44270⟩ := hz44270
      have hv44256 := (yz44270 _ 3 (Or.inr (by decide))).trans hv44256
      have hv44258 := (yz44270 _ 12 (Or.inr (by decide))).trans hv44258
      have hv44262 := (yz44270 _ 0 (Or.inr (by decide))).trans hv44262
      have hv44266 := (yz44270 _ 11 (Or.inr (by decide))).trans hv44266
      have hfr : ∀ b j : Nat, (tag b ≠ 26 ∨ j ≠ 13) → fld F b j = fld Fo b j := fun b j n26_13 => (yz44270 b j n26_13).trans (hfr b j n26_13)
      exact t_iret hQ X hT (⟨rg_all _, hfr⟩) (Nat.le_of_ble_eq_true rfl) (Nat.le_of_ble_eq_true rfl) dX11_house_87
    have w44271 := cv_ne (rfl : p2.toInt = p2.toInt) (by decide : (0 : Int32).toInt = 0) c44254
    by_cases c44272 : p2 = 1
    · have w44273 := cv_eq (rfl : p2.toInt = p2.toInt) (by decide : (1 : Int32).toInt = 1) c44272
      refine lv_tableIn (off := 73) (tgt := 88) hx hb dX11_house_15 (by rw [c44272]; decide) (by rw [c44272]; decide) (by rw [c44272]; decide) (by decide) ?_
      refine lv_aload_n hx hb dX11_house_88 rfl (lv_at hl 0 rfl) ?_
      refine lv_aload_n hx hb dX11_house_89 rfl (lv_at hl 0 rfl) ?_
      refine t_get (C := RX11) (T := TX11) (N := 16) X hT m0 g0 rfl rfl 5 (by decide) qw_23 inlX11 rfl dX11_house_90 (fun v44274 hv44274 ov44274 => ?_)
      obtain ⟨b44275, rfl, mb44275, gb44275⟩ := okV_r ov44274
      have gb44275 : tag b44275 = 19 := tg_of gb44275
      refine t_get (C := RX7) (T := TX7) (N := 7) X hT mb44275 gb44275 rfl rfl 2 (by decide) qw_766 inlX7 rfl dX11_house_93 (fun v44276 hv44276 ov44276 => ?_)
      obtain ⟨b44277, rfl, mb44277, gb44277⟩ := okV_r ov44276
      have gb44277 : tag b44277 = 8 := tg_of gb44277
      refine lv_iload_n hx hb dX11_house_96 rfl (lv_at hl 1 rfl) ?_
      refine t_ild X hT mb44277 gb44277 rfl (by omega) dX11_house_97 (fun z44278 vz44278 rz44278 => ?_)
      have rz44278 : 0 ≤ z44278.toInt ∧ z44278.toInt ≤ 6 := rz44278
      refine t_cVi (n := 1) (C := RX11) (T := TX11) (N := 16) (As := [.int z44278]) (rest := []) X hT (kt96_X11_answer l G tag L F hT.2.2.2 p0 z44278 m0 g0) m0 g0 rfl rfl qw_463 qw_464 qw_465 qw_2 qw_466 ⟨rfl, by decide +kernel, by decide +kernel, by decide +kernel⟩ ⟨Nat.le_of_ble_eq_true rfl, Nat.le_of_ble_eq_true rfl⟩ hl rfl rfl (Nat.le_of_ble_eq_true rfl) dX11_house_98 ⟨Nat.le_of_ble_eq_true rfl, Nat.le_of_ble_eq_true rfl⟩ (fun z44279 F H locs hT hz44279 => ?_)
      obtain ⟨hz44279, yz44279⟩ := hz44279
      have hv44274 := (yz44279 _ 5 (Or.inr (by decide))).trans hv44274
      have hv44276 := (yz44279 _ 2 (Or.inr (by decide))).trans hv44276
      have hfr : ∀ b j : Nat, (tag b ≠ 26 ∨ j ≠ 13) → fld F b j = fld Fo b j := fun b j n26_13 => (yz44279 b j n26_13).trans (hfr b j n26_13)
      exact t_iret hQ X hT (⟨rg_all _, hfr⟩) (Nat.le_of_ble_eq_true rfl) (Nat.le_of_ble_eq_true rfl) dX11_house_101
    have w44280 := cv_ne (rfl : p2.toInt = p2.toInt) (by decide : (1 : Int32).toInt = 1) c44272
    by_cases c44281 : p2 = 2
    · have w44282 := cv_eq (rfl : p2.toInt = p2.toInt) (by decide : (2 : Int32).toInt = 2) c44281
      refine lv_tableIn (off := 87) (tgt := 102) hx hb dX11_house_15 (by rw [c44281]; decide) (by rw [c44281]; decide) (by rw [c44281]; decide) (by decide) ?_
      refine lv_aload_n hx hb dX11_house_102 rfl (lv_at hl 0 rfl) ?_
      refine lv_aload_n hx hb dX11_house_103 rfl (lv_at hl 0 rfl) ?_
      refine t_get (C := RX11) (T := TX11) (N := 16) X hT m0 g0 rfl rfl 5 (by decide) qw_23 inlX11 rfl dX11_house_104 (fun v44283 hv44283 ov44283 => ?_)
      obtain ⟨b44284, rfl, mb44284, gb44284⟩ := okV_r ov44283
      have gb44284 : tag b44284 = 19 := tg_of gb44284
      refine t_get (C := RX7) (T := TX7) (N := 7) X hT mb44284 gb44284 rfl rfl 3 (by decide) qw_767 inlX7 rfl dX11_house_107 (fun v44285 hv44285 ov44285 => ?_)
      obtain ⟨b44286, rfl, mb44286, gb44286⟩ := okV_r ov44285
      have gb44286 : tag b44286 = 5 := tg_of gb44286
      refine lv_iload_n hx hb dX11_house_110 rfl (lv_at hl 1 rfl) ?_
      refine t_ild X hT mb44286 gb44286 rfl (by omega) dX11_house_111 (fun z44287 vz44287 rz44287 => ?_)
      have rz44287 : (-2147483648) ≤ z44287.toInt ∧ z44287.toInt ≤ 2147483647 := rz44287
      refine t_cVi (n := 1) (C := RX11) (T := TX11) (N := 16) (As := [.int z44287]) (rest := []) X hT (kt96_X11_answer l G tag L F hT.2.2.2 p0 z44287 m0 g0) m0 g0 rfl rfl qw_463 qw_464 qw_465 qw_2 qw_466 ⟨rfl, by decide +kernel, by decide +kernel, by decide +kernel⟩ ⟨Nat.le_of_ble_eq_true rfl, Nat.le_of_ble_eq_true rfl⟩ hl rfl rfl (Nat.le_of_ble_eq_true rfl) dX11_house_112 ⟨Nat.le_of_ble_eq_true rfl, Nat.le_of_ble_eq_true rfl⟩ (fun z44288 F H locs hT hz44288 => ?_)
      obtain ⟨hz44288, yz44288⟩ := hz44288
      have hv44283 := (yz44288 _ 5 (Or.inr (by decide))).trans hv44283
      have hv44285 := (yz44288 _ 3 (Or.inr (by decide))).trans hv44285
      have hfr : ∀ b j : Nat, (tag b ≠ 26 ∨ j ≠ 13) → fld F b j = fld Fo b j := fun b j n26_13 => (yz44288 b j n26_13).trans (hfr b j n26_13)
      exact t_iret hQ X hT (⟨rg_all _, hfr⟩) (Nat.le_of_ble_eq_true rfl) (Nat.le_of_ble_eq_true rfl) dX11_house_115
    have w44289 := cv_ne (rfl : p2.toInt = p2.toInt) (by decide : (2 : Int32).toInt = 2) c44281
    by_cases c44290 : p2 = 3
    · have w44291 := cv_eq (rfl : p2.toInt = p2.toInt) (by decide : (3 : Int32).toInt = 3) c44290
      refine lv_tableIn (off := 101) (tgt := 116) hx hb dX11_house_15 (by rw [c44290]; decide) (by rw [c44290]; decide) (by rw [c44290]; decide) (by decide) ?_
      refine lv_aload_n hx hb dX11_house_116 rfl (lv_at hl 0 rfl) ?_
      refine lv_aload_n hx hb dX11_house_117 rfl (lv_at hl 0 rfl) ?_
      refine t_get (C := RX11) (T := TX11) (N := 16) X hT m0 g0 rfl rfl 5 (by decide) qw_23 inlX11 rfl dX11_house_118 (fun v44292 hv44292 ov44292 => ?_)
      obtain ⟨b44293, rfl, mb44293, gb44293⟩ := okV_r ov44292
      have gb44293 : tag b44293 = 19 := tg_of gb44293
      refine t_get (C := RX7) (T := TX7) (N := 7) X hT mb44293 gb44293 rfl rfl 4 (by decide) qw_768 inlX7 rfl dX11_house_121 (fun v44294 hv44294 ov44294 => ?_)
      obtain ⟨b44295, rfl, mb44295, gb44295⟩ := okV_r ov44294
      have gb44295 : tag b44295 = 5 := tg_of gb44295
      refine lv_iload_n hx hb dX11_house_124 rfl (lv_at hl 1 rfl) ?_
      refine t_ild X hT mb44295 gb44295 rfl (by omega) dX11_house_125 (fun z44296 vz44296 rz44296 => ?_)
      have rz44296 : (-2147483648) ≤ z44296.toInt ∧ z44296.toInt ≤ 2147483647 := rz44296
      refine t_cVi (n := 1) (C := RX11) (T := TX11) (N := 16) (As := [.int z44296]) (rest := []) X hT (kt96_X11_answer l G tag L F hT.2.2.2 p0 z44296 m0 g0) m0 g0 rfl rfl qw_463 qw_464 qw_465 qw_2 qw_466 ⟨rfl, by decide +kernel, by decide +kernel, by decide +kernel⟩ ⟨Nat.le_of_ble_eq_true rfl, Nat.le_of_ble_eq_true rfl⟩ hl rfl rfl (Nat.le_of_ble_eq_true rfl) dX11_house_126 ⟨Nat.le_of_ble_eq_true rfl, Nat.le_of_ble_eq_true rfl⟩ (fun z44297 F H locs hT hz44297 => ?_)
      obtain ⟨hz44297, yz44297⟩ := hz44297
      have hv44292 := (yz44297 _ 5 (Or.inr (by decide))).trans hv44292
      have hv44294 := (yz44297 _ 4 (Or.inr (by decide))).trans hv44294
      have hfr : ∀ b j : Nat, (tag b ≠ 26 ∨ j ≠ 13) → fld F b j = fld Fo b j := fun b j n26_13 => (yz44297 b j n26_13).trans (hfr b j n26_13)
      exact t_iret hQ X hT (⟨rg_all _, hfr⟩) (Nat.le_of_ble_eq_true rfl) (Nat.le_of_ble_eq_true rfl) dX11_house_129
    have w44298 := cv_ne (rfl : p2.toInt = p2.toInt) (by decide : (3 : Int32).toInt = 3) c44290
    by_cases c44299 : p2 = 4
    · have w44300 := cv_eq (rfl : p2.toInt = p2.toInt) (by decide : (4 : Int32).toInt = 4) c44299
      refine lv_tableIn (off := 115) (tgt := 130) hx hb dX11_house_15 (by rw [c44299]; decide) (by rw [c44299]; decide) (by rw [c44299]; decide) (by decide) ?_
      refine lv_aload_n hx hb dX11_house_130 rfl (lv_at hl 0 rfl) ?_
      refine lv_aload_n hx hb dX11_house_131 rfl (lv_at hl 0 rfl) ?_
      refine t_get (C := RX11) (T := TX11) (N := 16) X hT m0 g0 rfl rfl 3 (by decide) qw_18 inlX11 rfl dX11_house_132 (fun v44301 hv44301 ov44301 => ?_)
      obtain ⟨b44302, rfl, mb44302, gb44302⟩ := okV_r ov44301
      have gb44302 : tag b44302 = 18 := tg_of gb44302
      refine t_get (C := RX1) (T := TX1) (N := 20) X hT mb44302 gb44302 rfl rfl 13 (by decide) qw_769 inlX1 rfl dX11_house_135 (fun v44303 hv44303 ov44303 => ?_)
      obtain ⟨b44304, rfl, mb44304, gb44304⟩ := okV_r ov44303
      have gb44304 : tag b44304 = 5 := tg_of gb44304
      refine lv_iload_n hx hb dX11_house_138 rfl (lv_at hl 1 rfl) ?_
      refine t_ild X hT mb44304 gb44304 rfl (by omega) dX11_house_139 (fun z44305 vz44305 rz44305 => ?_)
      have rz44305 : (-2147483648) ≤ z44305.toInt ∧ z44305.toInt ≤ 2147483647 := rz44305
      refine t_cVi (n := 1) (C := RX11) (T := TX11) (N := 16) (As := [.int z44305]) (rest := []) X hT (kt96_X11_answer l G tag L F hT.2.2.2 p0 z44305 m0 g0) m0 g0 rfl rfl qw_463 qw_464 qw_465 qw_2 qw_466 ⟨rfl, by decide +kernel, by decide +kernel, by decide +kernel⟩ ⟨Nat.le_of_ble_eq_true rfl, Nat.le_of_ble_eq_true rfl⟩ hl rfl rfl (Nat.le_of_ble_eq_true rfl) dX11_house_140 ⟨Nat.le_of_ble_eq_true rfl, Nat.le_of_ble_eq_true rfl⟩ (fun z44306 F H locs hT hz44306 => ?_)
      obtain ⟨hz44306, yz44306⟩ := hz44306
      have hv44301 := (yz44306 _ 3 (Or.inr (by decide))).trans hv44301
      have hv44303 := (yz44306 _ 13 (Or.inl (by rw [gb44302]; decide))).trans hv44303
      have hfr : ∀ b j : Nat, (tag b ≠ 26 ∨ j ≠ 13) → fld F b j = fld Fo b j := fun b j n26_13 => (yz44306 b j n26_13).trans (hfr b j n26_13)
      exact t_iret hQ X hT (⟨rg_all _, hfr⟩) (Nat.le_of_ble_eq_true rfl) (Nat.le_of_ble_eq_true rfl) dX11_house_143
    have w44307 := cv_ne (rfl : p2.toInt = p2.toInt) (by decide : (4 : Int32).toInt = 4) c44299
    by_cases c44308 : p2 = 5
    · have w44309 := cv_eq (rfl : p2.toInt = p2.toInt) (by decide : (5 : Int32).toInt = 5) c44308
      refine lv_tableIn (off := 129) (tgt := 144) hx hb dX11_house_15 (by rw [c44308]; decide) (by rw [c44308]; decide) (by rw [c44308]; decide) (by decide) ?_
      refine lv_aload_n hx hb dX11_house_144 rfl (lv_at hl 0 rfl) ?_
      refine lv_aload_n hx hb dX11_house_145 rfl (lv_at hl 0 rfl) ?_
      refine t_get (C := RX11) (T := TX11) (N := 16) X hT m0 g0 rfl rfl 3 (by decide) qw_18 inlX11 rfl dX11_house_146 (fun v44310 hv44310 ov44310 => ?_)
      obtain ⟨b44311, rfl, mb44311, gb44311⟩ := okV_r ov44310
      have gb44311 : tag b44311 = 18 := tg_of gb44311
      refine lv_aload_n hx hb dX11_house_149 rfl (lv_at hl 0 rfl) ?_
      refine t_get (C := RX11) (T := TX11) (N := 16) X hT m0 g0 rfl rfl 5 (by decide) qw_23 inlX11 rfl dX11_house_150 (fun v44312 hv44312 ov44312 => ?_)
      obtain ⟨b44313, rfl, mb44313, gb44313⟩ := okV_r ov44312
      have gb44313 : tag b44313 = 19 := tg_of gb44313
      refine lv_iload_n hx hb dX11_house_153 rfl (lv_at hl 1 rfl) ?_
      refine t_cSi (n := 3) (As := [.ref b44311, .ref b44313, .int p1]) (rest := [.ref p0]) X hT (kt124_X6_isShut l G tag L F hT.2.2.2 b44311 b44313 p1 mb44311 gb44311 mb44313 gb44313 (by omega)) qw_774 qw_775 qw_380 qw_776 ⟨by decide +kernel, by decide +kernel, by decide +kernel⟩ ⟨Nat.le_of_ble_eq_true rfl, Nat.le_of_ble_eq_true rfl⟩ hl rfl rfl (Nat.le_of_ble_eq_true rfl) dX11_house_154 ⟨Nat.le_of_ble_eq_true rfl, Nat.le_of_ble_eq_true rfl⟩ (fun z44314 F9 H locs hT hz44314 => ?_)
      obtain ⟨fz44314, hz44314⟩ := hz44314
      rw [fz44314] at hT
      refine lv_if_eq (tgt := 164) hx hb dX11_house_157 (by decide) (fun c44315 => ?_) (fun c44315 => ?_)
      · have w44316 := cv_eq (rfl : z44314.toInt = z44314.toInt) (by decide : (0 : Int32).toInt = 0) c44315
        refine lv_iconst (v := 0) hx hb dX11_house_164 (by decide) ?_
        exact K165 0 p0 _ _ _ _ (by decide) m0 g0 (by omega) (by omega) hT hfr  (lv_sub hl [0, 1, 2] rfl)
      · have w44317 := cv_ne (rfl : z44314.toInt = z44314.toInt) (by decide : (0 : Int32).toInt = 0) c44315
        refine lv_iconst (v := 1) hx hb dX11_house_160 (by decide) ?_
        refine lv_goto (tgt := 165) hx hb dX11_house_161 (by decide) ?_
        exact K165 1 p0 _ _ _ _ (by decide) m0 g0 (by omega) (by omega) hT hfr  (lv_sub hl [0, 1, 2] rfl)
    have w44318 := cv_ne (rfl : p2.toInt = p2.toInt) (by decide : (5 : Int32).toInt = 5) c44308
    by_cases c44319 : p2 = 6
    · have w44320 := cv_eq (rfl : p2.toInt = p2.toInt) (by decide : (6 : Int32).toInt = 6) c44319
      refine lv_tableIn (off := 154) (tgt := 169) hx hb dX11_house_15 (by rw [c44319]; decide) (by rw [c44319]; decide) (by rw [c44319]; decide) (by decide) ?_
      refine lv_aload_n hx hb dX11_house_169 rfl (lv_at hl 0 rfl) ?_
      refine lv_aload_n hx hb dX11_house_170 rfl (lv_at hl 0 rfl) ?_
      refine t_get (C := RX11) (T := TX11) (N := 16) X hT m0 g0 rfl rfl 5 (by decide) qw_23 inlX11 rfl dX11_house_171 (fun v44321 hv44321 ov44321 => ?_)
      obtain ⟨b44322, rfl, mb44322, gb44322⟩ := okV_r ov44321
      have gb44322 : tag b44322 = 19 := tg_of gb44322
      refine lv_iload_n hx hb dX11_house_174 rfl (lv_at hl 1 rfl) ?_
      refine t_cVi (n := 1) (C := RX7) (T := TX7) (N := 7) (As := [.int p1]) (rest := [.ref p0]) X hT (kt125_X7_isCrowded l G tag L F hT.2.2.2 b44322 p1 mb44322 gb44322 (by omega)) mb44322 gb44322 rfl rfl qw_788 qw_789 qw_790 qw_22 qw_791 ⟨rfl, by decide +kernel, by decide +kernel, by decide +kernel⟩ ⟨Nat.le_of_ble_eq_true rfl, Nat.le_of_ble_eq_true rfl⟩ hl rfl rfl (Nat.le_of_ble_eq_true rfl) dX11_house_175 ⟨Nat.le_of_ble_eq_true rfl, Nat.le_of_ble_eq_true rfl⟩ (fun z44323 F9 H locs hT hz44323 => ?_)
      obtain ⟨fz44323, hz44323⟩ := hz44323
      rw [fz44323] at hT
      refine lv_if_eq (tgt := 185) hx hb dX11_house_178 (by decide) (fun c44324 => ?_) (fun c44324 => ?_)
      · have w44325 := cv_eq (rfl : z44323.toInt = z44323.toInt) (by decide : (0 : Int32).toInt = 0) c44324
        refine lv_iconst (v := 0) hx hb dX11_house_185 (by decide) ?_
        exact K186 0 p0 _ _ _ _ (by decide) m0 g0 (by omega) (by omega) hT hfr  (lv_sub hl [0, 1, 2] rfl)
      · have w44326 := cv_ne (rfl : z44323.toInt = z44323.toInt) (by decide : (0 : Int32).toInt = 0) c44324
        refine lv_iconst (v := 1) hx hb dX11_house_181 (by decide) ?_
        refine lv_goto (tgt := 186) hx hb dX11_house_182 (by decide) ?_
        exact K186 1 p0 _ _ _ _ (by decide) m0 g0 (by omega) (by omega) hT hfr  (lv_sub hl [0, 1, 2] rfl)
    have w44327 := cv_ne (rfl : p2.toInt = p2.toInt) (by decide : (6 : Int32).toInt = 6) c44319
    refine lv_tableOut (tgt := 190) hx hb dX11_house_15 (by omega) (by decide) ?_
    refine lv_aload_n hx hb dX11_house_190 rfl (lv_at hl 0 rfl) ?_
    refine lv_iconst (v := 1) hx hb dX11_house_191 (by decide) ?_
    refine t_cVi (n := 1) (C := RX11) (T := TX11) (N := 16) (As := [.int 1]) (rest := []) X hT (kt97_X11_refuse l G tag L F hT.2.2.2 p0 1 m0 g0) m0 g0 rfl rfl qw_152 qw_153 qw_154 qw_2 qw_155 ⟨rfl, by decide +kernel, by decide +kernel, by decide +kernel⟩ ⟨Nat.le_of_ble_eq_true rfl, Nat.le_of_ble_eq_true rfl⟩ hl rfl rfl (Nat.le_of_ble_eq_true rfl) dX11_house_192 ⟨Nat.le_of_ble_eq_true rfl, Nat.le_of_ble_eq_true rfl⟩ (fun z44328 F H locs hT hz44328 => ?_)
    obtain ⟨hz44328, yz44328⟩ := hz44328
    have hfr : ∀ b j : Nat, (tag b ≠ 26 ∨ j ≠ 13) → fld F b j = fld Fo b j := fun b j n26_13 => (yz44328 b j n26_13).trans (hfr b j n26_13)
    exact t_iret hQ X hT (⟨rg_all _, hfr⟩) (Nat.le_of_ble_eq_true rfl) (Nat.le_of_ble_eq_true rfl) dX11_house_195
  · have w44329 := cv_eq (rfl : z44250.toInt = z44250.toInt) (by decide : (0 : Int32).toInt = 0) c44251
    refine lv_aload_n hx hb dX11_house_8 rfl (lv_at hl 0 rfl) ?_
    refine lv_iconst (v := 1) hx hb dX11_house_9 (by decide) ?_
    refine t_cVi (n := 1) (C := RX11) (T := TX11) (N := 16) (As := [.int 1]) (rest := []) X hT (kt97_X11_refuse l G tag L F hT.2.2.2 p0 1 m0 g0) m0 g0 rfl rfl qw_152 qw_153 qw_154 qw_2 qw_155 ⟨rfl, by decide +kernel, by decide +kernel, by decide +kernel⟩ ⟨Nat.le_of_ble_eq_true rfl, Nat.le_of_ble_eq_true rfl⟩ hl rfl rfl (Nat.le_of_ble_eq_true rfl) dX11_house_10 ⟨Nat.le_of_ble_eq_true rfl, Nat.le_of_ble_eq_true rfl⟩ (fun z44330 F H locs hT hz44330 => ?_)
    obtain ⟨hz44330, yz44330⟩ := hz44330
    have hfr : ∀ b j : Nat, (tag b ≠ 26 ∨ j ≠ 13) → fld F b j = fld Fo b j := fun b j n26_13 => (yz44330 b j n26_13).trans (hfr b j n26_13)
    exact t_iret hQ X hT (⟨rg_all _, hfr⟩) (Nat.le_of_ble_eq_true rfl) (Nat.le_of_ble_eq_true rfl) dX11_house_13
set_option maxHeartbeats 4000000 in
set_option maxRecDepth 100000 in
theorem kt127_X11_goTo (l : Launch) (G : KG) (tag : Nat → Nat) (L : List Nat) (Fo : Nat → va_E) (ho : okT G ttC tag L Fo) (p0 : Nat) (p1 : Int32) (m0 : p0 ∈ L) (g0 : tag p0 = 26) (h1 : 0 ≤ p1.toInt ∧ p1.toInt ≤ 60) : TMv l yX11_goTo cX11_goTo 3 { frames := 6, cells := 0, slots := 0, locals := 157 } G ttC tag L Fo [.ref p0, .int p1] (fun F1 => ∀ b j : Nat, (tag b ≠ 19 ∨ j ≠ 0) → (tag b ≠ 19 ∨ j ≠ 1) → fld F1 b j = fld Fo b j) := by
  refine t_bodyv (y := yX11_goTo) (cd := cX11_goTo) (mL := 3) (rm := { frames := 6, cells := 0, slots := 0, locals := 157 }) (av := [.ref p0, .int p1]) (by decide) (Nat.le_of_ble_eq_true rfl) ho ?_
  intro p e s m args below meth c ls A Q hQ X hT hl
  have hx := X.1.1
  have hb := X.1.2.1
  have hl : lv_has ls 3 [(0, .ref p0), (1, .int p1)] := hl
  obtain ⟨F, hFo⟩ : ∃ F : Nat → va_E, F = Fo := ⟨_, rfl⟩
  rw [← hFo] at hT
  have hfr : ∀ b j : Nat, (tag b ≠ 19 ∨ j ≠ 0) → (tag b ≠ 19 ∨ j ≠ 1) → fld F b j = fld Fo b j := by
    rw [hFo]
    intros
    rfl
  have K13 : ∀ (n : Nat) (z44661 : Int32) (F : Nat → va_E) (H : Heap) (locs : List Loc) (ls : Array Slot), (60 - z44661.toInt < (n : Int)) → (0 ≤ z44661.toInt ∧ z44661.toInt ≤ 60) → TH G ttC A s tag L F H locs → (∀ b j : Nat, (tag b ≠ 19 ∨ j ≠ 0) → (tag b ≠ 19 ∨ j ≠ 1) → fld F b j = fld Fo b j) → lv_has ls 3 [(0, .ref p0), (1, .int p1), (2, .int z44661)] → W p l e { frames := 6, cells := 0, slots := 0, locals := 157 } s m args below meth c H locs 0 0 Q (F0 m 13 ls []) := by
    intro n
    induction n with
    | zero =>
      intro z44661 F H locs ls hn rz44661 hT hfr hl
      exfalso
      omega
    | succ n ih13 =>
      intro z44661 F H locs ls hn rz44661 hT hfr hl
      refine lv_iload_n hx hb dX11_goTo_13 rfl (lv_at hl 2 rfl) ?_
      refine lv_iload_n hx hb dX11_goTo_14 rfl (lv_at hl 1 rfl) ?_
      refine lv_icmp_ge (tgt := 38) hx hb dX11_goTo_15 (by decide) (fun c44662 => ?_) (fun c44662 => ?_)
      · have w44663 := cv_le (rfl : p1.toInt = p1.toInt) (rfl : z44661.toInt = z44661.toInt) c44662
        exact t_vret hQ X hT hfr (Nat.le_of_ble_eq_true rfl) (Nat.le_of_ble_eq_true rfl) dX11_goTo_38
      · have w44664 := cv_nle (rfl : p1.toInt = p1.toInt) (rfl : z44661.toInt = z44661.toInt) c44662
        refine lv_aload_n hx hb dX11_goTo_18 rfl (lv_at hl 0 rfl) ?_
        refine t_get (C := RX11) (T := TX11) (N := 16) X hT m0 g0 rfl rfl 3 (by decide) qw_18 inlX11 rfl dX11_goTo_19 (fun v44665 hv44665 ov44665 => ?_)
        obtain ⟨b44666, rfl, mb44666, gb44666⟩ := okV_r ov44665
        have gb44666 : tag b44666 = 18 := tg_of gb44666
        refine lv_aload_n hx hb dX11_goTo_22 rfl (lv_at hl 0 rfl) ?_
        refine t_get (C := RX11) (T := TX11) (N := 16) X hT m0 g0 rfl rfl 7 (by decide) qw_25 inlX11 rfl dX11_goTo_23 (fun v44667 hv44667 ov44667 => ?_)
        obtain ⟨b44668, rfl, mb44668, gb44668⟩ := okV_r ov44667
        have gb44668 : tag b44668 = 19 := tg_of gb44668
        refine t_gets X hT X.2.2.2.1.2.2.2.2 qw_1096 dX11_goTo_26 ?_
        refine t_cSv (n := 3) (As := [.ref b44666, .ref b44668, .ref (G.2 13)]) (rest := []) X hT (kt105_X10_pass l G tag L F hT.2.2.2 b44666 b44668 mb44666 gb44666 mb44668 gb44668) qw_1097 qw_1098 qw_32 qw_1099 ⟨by decide +kernel, by decide +kernel, by decide +kernel⟩ ⟨Nat.le_of_ble_eq_true rfl, Nat.le_of_ble_eq_true rfl⟩ hl rfl rfl (Nat.le_of_ble_eq_true rfl) dX11_goTo_29 ⟨Nat.le_of_ble_eq_true rfl, Nat.le_of_ble_eq_true rfl⟩ (fun F H locs hT hz44669 => ?_)
        have yz44669 := hz44669
        have hv44665 := (yz44669 _ 3 (Or.inr (by decide)) (Or.inr (by decide))).trans hv44665
        have hv44667 := (yz44669 _ 7 (Or.inr (by decide)) (Or.inr (by decide))).trans hv44667
        have hfr : ∀ b j : Nat, (tag b ≠ 19 ∨ j ≠ 0) → (tag b ≠ 19 ∨ j ≠ 1) → fld F b j = fld Fo b j := fun b j n19_0 n19_1 => (yz44669 b j n19_0 n19_1).trans (hfr b j n19_0 n19_1)
        obtain ⟨z44670, ez44670⟩ : ∃ y : Int32, y = z44661 + 1 := ⟨_, rfl⟩
        have hz44670 : z44670.toInt = z44661.toInt + 1 := ar_add ez44670 rfl (by decide : (1 : Int32).toInt = 1) (by omega) (by omega)
        refine lv_iinc (v := z44670) (lv' := [(2, .int z44670), (0, .ref p0), (1, .int p1)]) hx hb dX11_goTo_32 hl (k := 2) rfl (by rw [ez44670]; rfl) (by decide) rfl (fun ls hl => ?_)
        refine lv_goto (tgt := 13) hx hb dX11_goTo_35 (by decide) ?_
        exact ih13 z44670 _ _ _ _ (by omega) (by omega) hT hfr  (lv_sub hl [1, 2, 0] rfl)
  refine lv_aload_n hx hb dX11_goTo_0 rfl (lv_at hl 0 rfl) ?_
  refine t_get (C := RX11) (T := TX11) (N := 16) X hT m0 g0 rfl rfl 7 (by decide) qw_25 inlX11 rfl dX11_goTo_1 (fun v44671 hv44671 ov44671 => ?_)
  obtain ⟨b44672, rfl, mb44672, gb44672⟩ := okV_r ov44671
  have gb44672 : tag b44672 = 19 := tg_of gb44672
  refine lv_aload_n hx hb dX11_goTo_4 rfl (lv_at hl 0 rfl) ?_
  refine t_get (C := RX11) (T := TX11) (N := 16) X hT m0 g0 rfl rfl 5 (by decide) qw_23 inlX11 rfl dX11_goTo_5 (fun v44673 hv44673 ov44673 => ?_)
  obtain ⟨b44674, rfl, mb44674, gb44674⟩ := okV_r ov44673
  have gb44674 : tag b44674 = 19 := tg_of gb44674
  refine t_cVv (n := 1) (C := RX7) (T := TX7) (N := 7) (As := [.ref b44674]) (rest := []) X hT (kt77_X7_copyFrom l G tag L F hT.2.2.2 b44672 b44674 mb44672 gb44672 mb44674 gb44674) mb44672 gb44672 rfl rfl qw_449 qw_450 qw_451 qw_22 qw_452 ⟨rfl, by decide +kernel, by decide +kernel, by decide +kernel⟩ ⟨Nat.le_of_ble_eq_true rfl, Nat.le_of_ble_eq_true rfl⟩ hl rfl rfl (Nat.le_of_ble_eq_true rfl) dX11_goTo_8 ⟨Nat.le_of_ble_eq_true rfl, Nat.le_of_ble_eq_true rfl⟩ (fun F H locs hT hz44675 => ?_)
  have yz44675 := hz44675
  have hv44671 := (yz44675 _ 7 (Or.inr (by decide)) (Or.inr (by decide))).trans hv44671
  have hv44673 := (yz44675 _ 5 (Or.inr (by decide)) (Or.inr (by decide))).trans hv44673
  have hfr : ∀ b j : Nat, (tag b ≠ 19 ∨ j ≠ 0) → (tag b ≠ 19 ∨ j ≠ 1) → fld F b j = fld Fo b j := fun b j n19_0 n19_1 => (yz44675 b j n19_0 n19_1).trans (hfr b j n19_0 n19_1)
  refine lv_iconst (v := 0) hx hb dX11_goTo_11 (by decide) ?_
  refine lv_istore_n (lv' := [(2, .int 0), (0, .ref p0), (1, .int p1)]) hx hb dX11_goTo_12 rfl hl (by decide) rfl (fun ls hl => ?_)
  have kk44676 : (0 : Int32).toInt = 0 := by decide
  exact K13 61 0 _ _ _ _ (by omega) (by decide) hT hfr  (lv_sub hl [1, 2, 0] rfl)
set_option maxHeartbeats 4000000 in
set_option maxRecDepth 100000 in
theorem kt128_X7_fallen (l : Launch) (G : KG) (tag : Nat → Nat) (L : List Nat) (F : Nat → va_E) (ho : okT G ttC tag L F) (p0 : Nat) (p1 : Int32) (m0 : p0 ∈ L) (g0 : tag p0 = 19) (h1 : 0 ≤ p1.toInt ∧ p1.toInt ≤ 3) : TMi l yX7_fallen cX7_fallen 4 (some .int) { frames := 2, cells := 0, slots := 0, locals := 46 } G ttC tag L F [.ref p0, .int p1] (fun r F1 => F1 = F ∧ ((-2147483648) ≤ r.toInt ∧ r.toInt ≤ 2147483647)) := by
  refine t_bodyi (y := yX7_fallen) (cd := cX7_fallen) (mL := 4) (rt := (some .int)) (rm := { frames := 2, cells := 0, slots := 0, locals := 46 }) (av := [.ref p0, .int p1]) (by decide) (Nat.le_of_ble_eq_true rfl) ho ?_
  intro p e s m args below meth c ls A Q hQ X hT hl
  have hx := X.1.1
  have hb := X.1.2.1
  have hl : lv_has ls 4 [(0, .ref p0), (1, .int p1)] := hl
  have K4 : ∀ (n : Nat) (z45267 : Int32) (z45268 : Int32) (H : Heap) (locs : List Loc) (ls : Array Slot), (7 - z45268.toInt < (n : Int)) → (1 ≤ z45268.toInt ∧ z45268.toInt ≤ 7) → TH G ttC A s tag L F H locs → lv_has ls 4 [(0, .ref p0), (1, .int p1), (2, .int z45267), (3, .int z45268)] → W p l e { frames := 2, cells := 0, slots := 0, locals := 46 } s m args below meth c H locs 0 0 Q (F0 m 4 ls []) := by
    intro n
    induction n with
    | zero =>
      intro z45267 z45268 H locs ls hn rz45268 hT hl
      have rz45267 := rg_all z45267
      exfalso
      omega
    | succ n ih4 =>
      intro z45267 z45268 H locs ls hn rz45268 hT hl
      have rz45267 := rg_all z45267
      have K26 : ∀ (z45269 : Int32) (H : Heap) (locs : List Loc) (ls : Array Slot), (1 ≤ z45268.toInt ∧ z45268.toInt ≤ 6) → TH G ttC A s tag L F H locs → lv_has ls 4 [(0, .ref p0), (1, .int p1), (2, .int z45269), (3, .int z45268)] → W p l e { frames := 2, cells := 0, slots := 0, locals := 46 } s m args below meth c H locs 0 0 Q (F0 m 26 ls []) := by
        intro z45269 H locs ls r9s45270 hT hl
        have rz45269 := rg_all z45269
        obtain ⟨z45271, ez45271⟩ : ∃ y : Int32, y = z45268 + 1 := ⟨_, rfl⟩
        have hz45271 : z45271.toInt = z45268.toInt + 1 := ar_add ez45271 rfl (by decide : (1 : Int32).toInt = 1) (by omega) (by omega)
        refine lv_iinc (v := z45271) (lv' := [(3, .int z45271), (0, .ref p0), (1, .int p1), (2, .int z45269)]) hx hb dX7_fallen_26 hl (k := 3) rfl (by rw [ez45271]; rfl) (by decide) rfl (fun ls hl => ?_)
        refine lv_goto (tgt := 4) hx hb dX7_fallen_29 (by decide) ?_
        exact ih4 z45269 z45271 _ _ _ (by omega) (by omega) hT  (lv_sub hl [1, 2, 3, 0] rfl)
      refine lv_iload_n hx hb dX7_fallen_4 rfl (lv_at hl 3 rfl) ?_
      refine lv_aload_n hx hb dX7_fallen_5 rfl (lv_at hl 0 rfl) ?_
      refine t_get (C := RX7) (T := TX7) (N := 7) X hT m0 g0 rfl rfl 2 (by decide) qw_62 inlX7 rfl dX7_fallen_6 (fun v45272 hv45272 ov45272 => ?_)
      obtain ⟨b45273, rfl, mb45273, gb45273⟩ := okV_r ov45272
      have gb45273 : tag b45273 = 8 := tg_of gb45273
      refine lv_iload_n hx hb dX7_fallen_9 rfl (lv_at hl 1 rfl) ?_
      refine t_ild X hT mb45273 gb45273 rfl (by omega) dX7_fallen_10 (fun z45274 vz45274 rz45274 => ?_)
      have rz45274 : 0 ≤ z45274.toInt ∧ z45274.toInt ≤ 6 := rz45274
      refine lv_icmp_gt (tgt := 32) hx hb dX7_fallen_11 (by decide) (fun c45275 => ?_) (fun c45275 => ?_)
      · have w45276 := cv_lt (rfl : z45274.toInt = z45274.toInt) (rfl : z45268.toInt = z45268.toInt) c45275
        refine lv_iload_n hx hb dX7_fallen_32 rfl (lv_at hl 2 rfl) ?_
        exact t_iret hQ X hT (⟨rfl, rg_all _⟩) (Nat.le_of_ble_eq_true rfl) (Nat.le_of_ble_eq_true rfl) dX7_fallen_33
      · have w45277 := cv_nlt (rfl : z45274.toInt = z45274.toInt) (rfl : z45268.toInt = z45268.toInt) c45275
        refine lv_aload_n hx hb dX7_fallen_14 rfl (lv_at hl 0 rfl) ?_
        refine lv_iload_n hx hb dX7_fallen_15 rfl (lv_at hl 1 rfl) ?_
        refine lv_iload_n hx hb dX7_fallen_16 rfl (lv_at hl 3 rfl) ?_
        refine t_cVi (n := 2) (C := RX7) (T := TX7) (N := 7) (As := [.int p1, .int z45268]) (rest := []) X hT (kt21_X7_stands l G tag L F hT.2.2.2 p0 p1 z45268 m0 g0) m0 g0 rfl rfl qw_987 qw_853 qw_854 qw_22 qw_855 ⟨rfl, by decide +kernel, by decide +kernel, by decide +kernel⟩ ⟨Nat.le_of_ble_eq_true rfl, Nat.le_of_ble_eq_true rfl⟩ hl rfl rfl (Nat.le_of_ble_eq_true rfl) dX7_fallen_17 ⟨Nat.le_of_ble_eq_true rfl, Nat.le_of_ble_eq_true rfl⟩ (fun z45278 F9 H locs hT hz45278 => ?_)
        obtain ⟨fz45278, hz45278⟩ := hz45278
        rw [fz45278] at hT
        refine lv_if_ne (tgt := 26) hx hb dX7_fallen_20 (by decide) (fun c45279 => ?_) (fun c45279 => ?_)
        · have w45280 := cv_ne (rfl : z45278.toInt = z45278.toInt) (by decide : (0 : Int32).toInt = 0) c45279
          exact K26 z45267 _ _ _ (by omega) hT  (lv_sub hl [0, 1, 2, 3] rfl)
        · have w45281 := cv_eq (rfl : z45278.toInt = z45278.toInt) (by decide : (0 : Int32).toInt = 0) c45279
          obtain ⟨z45282, ez45282⟩ : ∃ y : Int32, y = z45267 + 1 := ⟨_, rfl⟩
          have rz45282 := rg_all z45282
          refine lv_iinc (v := z45282) (lv' := [(2, .int z45282), (0, .ref p0), (1, .int p1), (3, .int z45268)]) hx hb dX7_fallen_23 hl (k := 2) rfl (by rw [ez45282]; rfl) (by decide) rfl (fun ls hl => ?_)
          exact K26 z45282 _ _ _ (by omega) hT  (lv_sub hl [1, 2, 0, 3] rfl)
  refine lv_iconst (v := 0) hx hb dX7_fallen_0 (by decide) ?_
  refine lv_istore_n (lv' := [(2, .int 0), (0, .ref p0), (1, .int p1)]) hx hb dX7_fallen_1 rfl hl (by decide) rfl (fun ls hl => ?_)
  refine lv_iconst (v := 1) hx hb dX7_fallen_2 (by decide) ?_
  refine lv_istore_n (lv' := [(3, .int 1), (2, .int 0), (0, .ref p0), (1, .int p1)]) hx hb dX7_fallen_3 rfl hl (by decide) rfl (fun ls hl => ?_)
  have kk45283 : (0 : Int32).toInt = 0 := by decide
  have kk45284 : (1 : Int32).toInt = 1 := by decide
  exact K4 7 0 1 _ _ _ (by omega) (by decide) hT  (lv_sub hl [2, 3, 1, 0] rfl)
set_option maxHeartbeats 4000000 in
set_option maxRecDepth 100000 in
theorem kt129_X11_in (l : Launch) (G : KG) (tag : Nat → Nat) (L : List Nat) (Fo : Nat → va_E) (ho : okT G ttC tag L Fo) (p0 : Nat) (p1 : Int32) (p2 : Int32) (p3 : Int32) (m0 : p0 ∈ L) (g0 : tag p0 = 26) : TMi l yX11_in cX11_in 4 (some .int) { frames := 7, cells := 0, slots := 0, locals := 179 } G ttC tag L Fo [.ref p0, .int p1, .int p2, .int p3] (fun r F1 => ((-2147483648) ≤ r.toInt ∧ r.toInt ≤ 2147483647) ∧ (∀ b j : Nat, (tag b ≠ 19 ∨ j ≠ 0) → (tag b ≠ 19 ∨ j ≠ 1) → (tag b ≠ 26 ∨ j ≠ 13) → fld F1 b j = fld Fo b j)) := by
  refine t_bodyi (y := yX11_in) (cd := cX11_in) (mL := 4) (rt := (some .int)) (rm := { frames := 7, cells := 0, slots := 0, locals := 179 }) (av := [.ref p0, .int p1, .int p2, .int p3]) (by decide) (Nat.le_of_ble_eq_true rfl) ho ?_
  intro p e s m args below meth c ls A Q hQ X hT hl
  have hx := X.1.1
  have hb := X.1.2.1
  have hl : lv_has ls 4 [(0, .ref p0), (1, .int p1), (2, .int p2), (3, .int p3)] := hl
  have rp1 := rg_all p1
  have rp2 := rg_all p2
  have rp3 := rg_all p3
  obtain ⟨F, hFo⟩ : ∃ F : Nat → va_E, F = Fo := ⟨_, rfl⟩
  rw [← hFo] at hT
  have hfr : ∀ b j : Nat, (tag b ≠ 19 ∨ j ≠ 0) → (tag b ≠ 19 ∨ j ≠ 1) → (tag b ≠ 26 ∨ j ≠ 13) → fld F b j = fld Fo b j := by
    rw [hFo]
    intros
    rfl
  have K17 : ∀  (F : Nat → va_E) (H : Heap) (locs : List Loc) (ls : Array Slot), TH G ttC A s tag L F H locs → (∀ b j : Nat, (tag b ≠ 19 ∨ j ≠ 0) → (tag b ≠ 19 ∨ j ≠ 1) → (tag b ≠ 26 ∨ j ≠ 13) → fld F b j = fld Fo b j) → lv_has ls 4 [(0, .ref p0), (1, .int p1), (2, .int p2), (3, .int p3)] → W p l e { frames := 7, cells := 0, slots := 0, locals := 179 } s m args below meth c H locs 0 0 Q (F0 m 17 ls []) := by
    intro F H locs ls hT hfr hl
    refine lv_aload_n hx hb dX11_in_17 rfl (lv_at hl 0 rfl) ?_
    refine lv_iconst (v := 1) hx hb dX11_in_18 (by decide) ?_
    refine t_cVi (n := 1) (C := RX11) (T := TX11) (N := 16) (As := [.int 1]) (rest := []) X hT (kt97_X11_refuse l G tag L F hT.2.2.2 p0 1 m0 g0) m0 g0 rfl rfl qw_152 qw_153 qw_154 qw_2 qw_155 ⟨rfl, by decide +kernel, by decide +kernel, by decide +kernel⟩ ⟨Nat.le_of_ble_eq_true rfl, Nat.le_of_ble_eq_true rfl⟩ hl rfl rfl (Nat.le_of_ble_eq_true rfl) dX11_in_19 ⟨Nat.le_of_ble_eq_true rfl, Nat.le_of_ble_eq_true rfl⟩ (fun z45975 F H locs hT hz45975 => ?_)
    obtain ⟨hz45975, yz45975⟩ := hz45975
    have hfr : ∀ b j : Nat, (tag b ≠ 19 ∨ j ≠ 0) → (tag b ≠ 19 ∨ j ≠ 1) → (tag b ≠ 26 ∨ j ≠ 13) → fld F b j = fld Fo b j := fun b j n19_0 n19_1 n26_13 => (yz45975 b j n26_13).trans (hfr b j n19_0 n19_1 n26_13)
    exact t_iret hQ X hT (⟨rg_all _, hfr⟩) (Nat.le_of_ble_eq_true rfl) (Nat.le_of_ble_eq_true rfl) dX11_in_22
  have K33 : ∀  (F : Nat → va_E) (H : Heap) (locs : List Loc) (ls : Array Slot), (0 ≤ p1.toInt ∧ p1.toInt ≤ 3) → (0 ≤ p3.toInt ∧ p3.toInt ≤ 4) → TH G ttC A s tag L F H locs → (∀ b j : Nat, (tag b ≠ 19 ∨ j ≠ 0) → (tag b ≠ 19 ∨ j ≠ 1) → (tag b ≠ 26 ∨ j ≠ 13) → fld F b j = fld Fo b j) → lv_has ls 4 [(0, .ref p0), (1, .int p1), (2, .int p2), (3, .int p3)] → W p l e { frames := 7, cells := 0, slots := 0, locals := 179 } s m args below meth c H locs 0 0 Q (F0 m 33 ls []) := by
    intro F H locs ls r9s45976 r9s45977 hT hfr hl
    refine lv_aload_n hx hb dX11_in_33 rfl (lv_at hl 0 rfl) ?_
    refine lv_iconst (v := 2) hx hb dX11_in_34 (by decide) ?_
    refine t_cVi (n := 1) (C := RX11) (T := TX11) (N := 16) (As := [.int 2]) (rest := []) X hT (kt97_X11_refuse l G tag L F hT.2.2.2 p0 2 m0 g0) m0 g0 rfl rfl qw_152 qw_153 qw_154 qw_2 qw_155 ⟨rfl, by decide +kernel, by decide +kernel, by decide +kernel⟩ ⟨Nat.le_of_ble_eq_true rfl, Nat.le_of_ble_eq_true rfl⟩ hl rfl rfl (Nat.le_of_ble_eq_true rfl) dX11_in_35 ⟨Nat.le_of_ble_eq_true rfl, Nat.le_of_ble_eq_true rfl⟩ (fun z45978 F H locs hT hz45978 => ?_)
    obtain ⟨hz45978, yz45978⟩ := hz45978
    have hfr : ∀ b j : Nat, (tag b ≠ 19 ∨ j ≠ 0) → (tag b ≠ 19 ∨ j ≠ 1) → (tag b ≠ 26 ∨ j ≠ 13) → fld F b j = fld Fo b j := fun b j n19_0 n19_1 n26_13 => (yz45978 b j n26_13).trans (hfr b j n19_0 n19_1 n26_13)
    exact t_iret hQ X hT (⟨rg_all _, hfr⟩) (Nat.le_of_ble_eq_true rfl) (Nat.le_of_ble_eq_true rfl) dX11_in_38
  have K152 : ∀ (z45982 : Int32) (b45983 : Nat) (F : Nat → va_E) (H : Heap) (locs : List Loc) (ls : Array Slot), (0 ≤ z45982.toInt ∧ z45982.toInt ≤ 1) → (b45983 ∈ L) → (tag b45983 = 26) → (0 ≤ p1.toInt ∧ p1.toInt ≤ 3) → (0 ≤ p2.toInt ∧ p2.toInt ≤ 60) → (4 ≤ p3.toInt ∧ p3.toInt ≤ 4) → TH G ttC A s tag L F H locs → (∀ b j : Nat, (tag b ≠ 19 ∨ j ≠ 0) → (tag b ≠ 19 ∨ j ≠ 1) → (tag b ≠ 26 ∨ j ≠ 13) → fld F b j = fld Fo b j) → lv_has ls 4 [(0, .ref p0), (1, .int p1), (2, .int p2), (3, .int p3)] → W p l e { frames := 7, cells := 0, slots := 0, locals := 179 } s m args below meth c H locs 0 0 Q (F0 m 152 ls [.int z45982, .ref b45983]) := by
    intro z45982 b45983 F H locs ls rz45982 mb45983 gb45983 r9s45979 r9s45980 r9s45981 hT hfr hl
    refine t_cVi (n := 1) (C := RX11) (T := TX11) (N := 16) (As := [.int z45982]) (rest := []) X hT (kt96_X11_answer l G tag L F hT.2.2.2 b45983 z45982 mb45983 gb45983) mb45983 gb45983 rfl rfl qw_463 qw_464 qw_465 qw_2 qw_466 ⟨rfl, by decide +kernel, by decide +kernel, by decide +kernel⟩ ⟨Nat.le_of_ble_eq_true rfl, Nat.le_of_ble_eq_true rfl⟩ hl rfl rfl (Nat.le_of_ble_eq_true rfl) dX11_in_152 ⟨Nat.le_of_ble_eq_true rfl, Nat.le_of_ble_eq_true rfl⟩ (fun z45984 F H locs hT hz45984 => ?_)
    obtain ⟨hz45984, yz45984⟩ := hz45984
    have hfr : ∀ b j : Nat, (tag b ≠ 19 ∨ j ≠ 0) → (tag b ≠ 19 ∨ j ≠ 1) → (tag b ≠ 26 ∨ j ≠ 13) → fld F b j = fld Fo b j := fun b j n19_0 n19_1 n26_13 => (yz45984 b j n26_13).trans (hfr b j n19_0 n19_1 n26_13)
    exact t_iret hQ X hT (⟨rg_all _, hfr⟩) (Nat.le_of_ble_eq_true rfl) (Nat.le_of_ble_eq_true rfl) dX11_in_155
  refine lv_aload_n hx hb dX11_in_0 rfl (lv_at hl 0 rfl) ?_
  refine lv_iload_n hx hb dX11_in_1 rfl (lv_at hl 1 rfl) ?_
  refine t_cVi (n := 1) (C := RX11) (T := TX11) (N := 16) (As := [.int p1]) (rest := []) X hT (kt93_X11_isHouse l G tag L F hT.2.2.2 p0 p1 m0 g0) m0 g0 rfl rfl qw_770 qw_771 qw_772 qw_2 qw_773 ⟨rfl, by decide +kernel, by decide +kernel, by decide +kernel⟩ ⟨Nat.le_of_ble_eq_true rfl, Nat.le_of_ble_eq_true rfl⟩ hl rfl rfl (Nat.le_of_ble_eq_true rfl) dX11_in_2 ⟨Nat.le_of_ble_eq_true rfl, Nat.le_of_ble_eq_true rfl⟩ (fun z45985 F9 H locs hT hz45985 => ?_)
  obtain ⟨fz45985, hz45985⟩ := hz45985
  rw [fz45985] at hT
  obtain ⟨hz45985, iz45985⟩ := hz45985
  refine lv_if_eq (tgt := 17) hx hb dX11_in_5 (by decide) (fun c45986 => ?_) (fun c45986 => ?_)
  · have w45987 := cv_eq (rfl : z45985.toInt = z45985.toInt) (by decide : (0 : Int32).toInt = 0) c45986
    exact K17  _ _ _ _  hT hfr  (lv_sub hl [0, 1, 2, 3] rfl)
  · have w45988 := cv_ne (rfl : z45985.toInt = z45985.toInt) (by decide : (0 : Int32).toInt = 0) c45986
    have w45989 := (fun h => (iz45985 h)) (by omega)
    refine lv_iload_n hx hb dX11_in_8 rfl (lv_at hl 3 rfl) ?_
    refine lv_if_lt (tgt := 17) hx hb dX11_in_9 (by decide) (fun c45990 => ?_) (fun c45990 => ?_)
    · have w45991 := cv_lt (rfl : p3.toInt = p3.toInt) (by decide : (0 : Int32).toInt = 0) c45990
      exact K17  _ _ _ _  hT hfr  (lv_sub hl [0, 1, 2, 3] rfl)
    · have w45992 := cv_nlt (rfl : p3.toInt = p3.toInt) (by decide : (0 : Int32).toInt = 0) c45990
      refine lv_iload_n hx hb dX11_in_12 rfl (lv_at hl 3 rfl) ?_
      refine lv_iconst (v := 4) hx hb dX11_in_13 (by decide) ?_
      refine lv_icmp_le (tgt := 23) hx hb dX11_in_14 (by decide) (fun c45993 => ?_) (fun c45993 => ?_)
      · have w45994 := cv_le (rfl : p3.toInt = p3.toInt) (by decide : (4 : Int32).toInt = 4) c45993
        refine lv_iload_n hx hb dX11_in_23 rfl (lv_at hl 2 rfl) ?_
        refine lv_if_lt (tgt := 33) hx hb dX11_in_24 (by decide) (fun c45995 => ?_) (fun c45995 => ?_)
        · have w45996 := cv_lt (rfl : p2.toInt = p2.toInt) (by decide : (0 : Int32).toInt = 0) c45995
          exact K33  _ _ _ _ (by omega) (by omega) hT hfr  (lv_sub hl [0, 1, 2, 3] rfl)
        · have w45997 := cv_nlt (rfl : p2.toInt = p2.toInt) (by decide : (0 : Int32).toInt = 0) c45995
          refine lv_iload_n hx hb dX11_in_27 rfl (lv_at hl 2 rfl) ?_
          refine lv_bipush (v := 60) hx hb dX11_in_28 (by decide) ?_
          refine lv_icmp_le (tgt := 39) hx hb dX11_in_30 (by decide) (fun c45998 => ?_) (fun c45998 => ?_)
          · have w45999 := cv_le (rfl : p2.toInt = p2.toInt) (by decide : (60 : Int32).toInt = 60) c45998
            refine lv_aload_n hx hb dX11_in_39 rfl (lv_at hl 0 rfl) ?_
            refine lv_iload_n hx hb dX11_in_40 rfl (lv_at hl 2 rfl) ?_
            refine t_cVv (n := 1) (C := RX11) (T := TX11) (N := 16) (As := [.int p2]) (rest := []) X hT (kt127_X11_goTo l G tag L F hT.2.2.2 p0 p2 m0 g0 (by omega)) m0 g0 rfl rfl qw_1092 qw_1093 qw_1094 qw_2 qw_1095 ⟨rfl, by decide +kernel, by decide +kernel, by decide +kernel⟩ ⟨Nat.le_of_ble_eq_true rfl, Nat.le_of_ble_eq_true rfl⟩ hl rfl rfl (Nat.le_of_ble_eq_true rfl) dX11_in_41 ⟨Nat.le_of_ble_eq_true rfl, Nat.le_of_ble_eq_true rfl⟩ (fun F H locs hT hz46000 => ?_)
            have yz46000 := hz46000
            have hfr : ∀ b j : Nat, (tag b ≠ 19 ∨ j ≠ 0) → (tag b ≠ 19 ∨ j ≠ 1) → (tag b ≠ 26 ∨ j ≠ 13) → fld F b j = fld Fo b j := fun b j n19_0 n19_1 n26_13 => (yz46000 b j n19_0 n19_1).trans (hfr b j n19_0 n19_1 n26_13)
            refine lv_iload_n hx hb dX11_in_44 rfl (lv_at hl 3 rfl) ?_
            by_cases c46001 : p3 = 0
            · have w46002 := cv_eq (rfl : p3.toInt = p3.toInt) (by decide : (0 : Int32).toInt = 0) c46001
              refine lv_tableIn (off := 31) (tgt := 76) hx hb dX11_in_45 (by rw [c46001]; decide) (by rw [c46001]; decide) (by rw [c46001]; decide) (by decide) ?_
              refine lv_aload_n hx hb dX11_in_76 rfl (lv_at hl 0 rfl) ?_
              refine lv_aload_n hx hb dX11_in_77 rfl (lv_at hl 0 rfl) ?_
              refine t_get (C := RX11) (T := TX11) (N := 16) X hT m0 g0 rfl rfl 7 (by decide) qw_25 inlX11 rfl dX11_in_78 (fun v46003 hv46003 ov46003 => ?_)
              obtain ⟨b46004, rfl, mb46004, gb46004⟩ := okV_r ov46003
              have gb46004 : tag b46004 = 19 := tg_of gb46004
              refine t_get (C := RX7) (T := TX7) (N := 7) X hT mb46004 gb46004 rfl rfl 2 (by decide) qw_766 inlX7 rfl dX11_in_81 (fun v46005 hv46005 ov46005 => ?_)
              obtain ⟨b46006, rfl, mb46006, gb46006⟩ := okV_r ov46005
              have gb46006 : tag b46006 = 8 := tg_of gb46006
              refine lv_iload_n hx hb dX11_in_84 rfl (lv_at hl 1 rfl) ?_
              refine t_ild X hT mb46006 gb46006 rfl (by omega) dX11_in_85 (fun z46007 vz46007 rz46007 => ?_)
              have rz46007 : 0 ≤ z46007.toInt ∧ z46007.toInt ≤ 6 := rz46007
              refine t_cVi (n := 1) (C := RX11) (T := TX11) (N := 16) (As := [.int z46007]) (rest := []) X hT (kt96_X11_answer l G tag L F hT.2.2.2 p0 z46007 m0 g0) m0 g0 rfl rfl qw_463 qw_464 qw_465 qw_2 qw_466 ⟨rfl, by decide +kernel, by decide +kernel, by decide +kernel⟩ ⟨Nat.le_of_ble_eq_true rfl, Nat.le_of_ble_eq_true rfl⟩ hl rfl rfl (Nat.le_of_ble_eq_true rfl) dX11_in_86 ⟨Nat.le_of_ble_eq_true rfl, Nat.le_of_ble_eq_true rfl⟩ (fun z46008 F H locs hT hz46008 => ?_)
              obtain ⟨hz46008, yz46008⟩ := hz46008
              have hv46003 := (yz46008 _ 7 (Or.inr (by decide))).trans hv46003
              have hv46005 := (yz46008 _ 2 (Or.inr (by decide))).trans hv46005
              have hfr : ∀ b j : Nat, (tag b ≠ 19 ∨ j ≠ 0) → (tag b ≠ 19 ∨ j ≠ 1) → (tag b ≠ 26 ∨ j ≠ 13) → fld F b j = fld Fo b j := fun b j n19_0 n19_1 n26_13 => (yz46008 b j n26_13).trans (hfr b j n19_0 n19_1 n26_13)
              exact t_iret hQ X hT (⟨rg_all _, hfr⟩) (Nat.le_of_ble_eq_true rfl) (Nat.le_of_ble_eq_true rfl) dX11_in_89
            have w46009 := cv_ne (rfl : p3.toInt = p3.toInt) (by decide : (0 : Int32).toInt = 0) c46001
            by_cases c46010 : p3 = 1
            · have w46011 := cv_eq (rfl : p3.toInt = p3.toInt) (by decide : (1 : Int32).toInt = 1) c46010
              refine lv_tableIn (off := 45) (tgt := 90) hx hb dX11_in_45 (by rw [c46010]; decide) (by rw [c46010]; decide) (by rw [c46010]; decide) (by decide) ?_
              refine lv_aload_n hx hb dX11_in_90 rfl (lv_at hl 0 rfl) ?_
              refine lv_aload_n hx hb dX11_in_91 rfl (lv_at hl 0 rfl) ?_
              refine t_get (C := RX11) (T := TX11) (N := 16) X hT m0 g0 rfl rfl 7 (by decide) qw_25 inlX11 rfl dX11_in_92 (fun v46012 hv46012 ov46012 => ?_)
              obtain ⟨b46013, rfl, mb46013, gb46013⟩ := okV_r ov46012
              have gb46013 : tag b46013 = 19 := tg_of gb46013
              refine t_get (C := RX7) (T := TX7) (N := 7) X hT mb46013 gb46013 rfl rfl 3 (by decide) qw_767 inlX7 rfl dX11_in_95 (fun v46014 hv46014 ov46014 => ?_)
              obtain ⟨b46015, rfl, mb46015, gb46015⟩ := okV_r ov46014
              have gb46015 : tag b46015 = 5 := tg_of gb46015
              refine lv_iload_n hx hb dX11_in_98 rfl (lv_at hl 1 rfl) ?_
              refine t_ild X hT mb46015 gb46015 rfl (by omega) dX11_in_99 (fun z46016 vz46016 rz46016 => ?_)
              have rz46016 : (-2147483648) ≤ z46016.toInt ∧ z46016.toInt ≤ 2147483647 := rz46016
              refine t_cVi (n := 1) (C := RX11) (T := TX11) (N := 16) (As := [.int z46016]) (rest := []) X hT (kt96_X11_answer l G tag L F hT.2.2.2 p0 z46016 m0 g0) m0 g0 rfl rfl qw_463 qw_464 qw_465 qw_2 qw_466 ⟨rfl, by decide +kernel, by decide +kernel, by decide +kernel⟩ ⟨Nat.le_of_ble_eq_true rfl, Nat.le_of_ble_eq_true rfl⟩ hl rfl rfl (Nat.le_of_ble_eq_true rfl) dX11_in_100 ⟨Nat.le_of_ble_eq_true rfl, Nat.le_of_ble_eq_true rfl⟩ (fun z46017 F H locs hT hz46017 => ?_)
              obtain ⟨hz46017, yz46017⟩ := hz46017
              have hv46012 := (yz46017 _ 7 (Or.inr (by decide))).trans hv46012
              have hv46014 := (yz46017 _ 3 (Or.inr (by decide))).trans hv46014
              have hfr : ∀ b j : Nat, (tag b ≠ 19 ∨ j ≠ 0) → (tag b ≠ 19 ∨ j ≠ 1) → (tag b ≠ 26 ∨ j ≠ 13) → fld F b j = fld Fo b j := fun b j n19_0 n19_1 n26_13 => (yz46017 b j n26_13).trans (hfr b j n19_0 n19_1 n26_13)
              exact t_iret hQ X hT (⟨rg_all _, hfr⟩) (Nat.le_of_ble_eq_true rfl) (Nat.le_of_ble_eq_true rfl) dX11_in_103
            have w46018 := cv_ne (rfl : p3.toInt = p3.toInt) (by decide : (1 : Int32).toInt = 1) c46010
            by_cases c46019 : p3 = 2
            · have w46020 := cv_eq (rfl : p3.toInt = p3.toInt) (by decide : (2 : Int32).toInt = 2) c46019
              refine lv_tableIn (off := 59) (tgt := 104) hx hb dX11_in_45 (by rw [c46019]; decide) (by rw [c46019]; decide) (by rw [c46019]; decide) (by decide) ?_
              refine lv_aload_n hx hb dX11_in_104 rfl (lv_at hl 0 rfl) ?_
              refine lv_aload_n hx hb dX11_in_105 rfl (lv_at hl 0 rfl) ?_
              refine t_get (C := RX11) (T := TX11) (N := 16) X hT m0 g0 rfl rfl 7 (by decide) qw_25 inlX11 rfl dX11_in_106 (fun v46021 hv46021 ov46021 => ?_)
              obtain ⟨b46022, rfl, mb46022, gb46022⟩ := okV_r ov46021
              have gb46022 : tag b46022 = 19 := tg_of gb46022
              refine t_get (C := RX7) (T := TX7) (N := 7) X hT mb46022 gb46022 rfl rfl 4 (by decide) qw_768 inlX7 rfl dX11_in_109 (fun v46023 hv46023 ov46023 => ?_)
              obtain ⟨b46024, rfl, mb46024, gb46024⟩ := okV_r ov46023
              have gb46024 : tag b46024 = 5 := tg_of gb46024
              refine lv_iload_n hx hb dX11_in_112 rfl (lv_at hl 1 rfl) ?_
              refine t_ild X hT mb46024 gb46024 rfl (by omega) dX11_in_113 (fun z46025 vz46025 rz46025 => ?_)
              have rz46025 : (-2147483648) ≤ z46025.toInt ∧ z46025.toInt ≤ 2147483647 := rz46025
              refine t_cVi (n := 1) (C := RX11) (T := TX11) (N := 16) (As := [.int z46025]) (rest := []) X hT (kt96_X11_answer l G tag L F hT.2.2.2 p0 z46025 m0 g0) m0 g0 rfl rfl qw_463 qw_464 qw_465 qw_2 qw_466 ⟨rfl, by decide +kernel, by decide +kernel, by decide +kernel⟩ ⟨Nat.le_of_ble_eq_true rfl, Nat.le_of_ble_eq_true rfl⟩ hl rfl rfl (Nat.le_of_ble_eq_true rfl) dX11_in_114 ⟨Nat.le_of_ble_eq_true rfl, Nat.le_of_ble_eq_true rfl⟩ (fun z46026 F H locs hT hz46026 => ?_)
              obtain ⟨hz46026, yz46026⟩ := hz46026
              have hv46021 := (yz46026 _ 7 (Or.inr (by decide))).trans hv46021
              have hv46023 := (yz46026 _ 4 (Or.inr (by decide))).trans hv46023
              have hfr : ∀ b j : Nat, (tag b ≠ 19 ∨ j ≠ 0) → (tag b ≠ 19 ∨ j ≠ 1) → (tag b ≠ 26 ∨ j ≠ 13) → fld F b j = fld Fo b j := fun b j n19_0 n19_1 n26_13 => (yz46026 b j n26_13).trans (hfr b j n19_0 n19_1 n26_13)
              exact t_iret hQ X hT (⟨rg_all _, hfr⟩) (Nat.le_of_ble_eq_true rfl) (Nat.le_of_ble_eq_true rfl) dX11_in_117
            have w46027 := cv_ne (rfl : p3.toInt = p3.toInt) (by decide : (2 : Int32).toInt = 2) c46019
            by_cases c46028 : p3 = 3
            · have w46029 := cv_eq (rfl : p3.toInt = p3.toInt) (by decide : (3 : Int32).toInt = 3) c46028
              refine lv_tableIn (off := 73) (tgt := 118) hx hb dX11_in_45 (by rw [c46028]; decide) (by rw [c46028]; decide) (by rw [c46028]; decide) (by decide) ?_
              refine lv_aload_n hx hb dX11_in_118 rfl (lv_at hl 0 rfl) ?_
              refine lv_aload_n hx hb dX11_in_119 rfl (lv_at hl 0 rfl) ?_
              refine t_get (C := RX11) (T := TX11) (N := 16) X hT m0 g0 rfl rfl 7 (by decide) qw_25 inlX11 rfl dX11_in_120 (fun v46030 hv46030 ov46030 => ?_)
              obtain ⟨b46031, rfl, mb46031, gb46031⟩ := okV_r ov46030
              have gb46031 : tag b46031 = 19 := tg_of gb46031
              refine lv_iload_n hx hb dX11_in_123 rfl (lv_at hl 1 rfl) ?_
              refine t_cVi (n := 1) (C := RX7) (T := TX7) (N := 7) (As := [.int p1]) (rest := [.ref p0]) X hT (kt128_X7_fallen l G tag L F hT.2.2.2 b46031 p1 mb46031 gb46031 (by omega)) mb46031 gb46031 rfl rfl qw_1136 qw_1137 qw_1138 qw_22 qw_1139 ⟨rfl, by decide +kernel, by decide +kernel, by decide +kernel⟩ ⟨Nat.le_of_ble_eq_true rfl, Nat.le_of_ble_eq_true rfl⟩ hl rfl rfl (Nat.le_of_ble_eq_true rfl) dX11_in_124 ⟨Nat.le_of_ble_eq_true rfl, Nat.le_of_ble_eq_true rfl⟩ (fun z46032 F9 H locs hT hz46032 => ?_)
              obtain ⟨fz46032, hz46032⟩ := hz46032
              rw [fz46032] at hT
              refine t_cVi (n := 1) (C := RX11) (T := TX11) (N := 16) (As := [.int z46032]) (rest := []) X hT (kt96_X11_answer l G tag L F hT.2.2.2 p0 z46032 m0 g0) m0 g0 rfl rfl qw_463 qw_464 qw_465 qw_2 qw_466 ⟨rfl, by decide +kernel, by decide +kernel, by decide +kernel⟩ ⟨Nat.le_of_ble_eq_true rfl, Nat.le_of_ble_eq_true rfl⟩ hl rfl rfl (Nat.le_of_ble_eq_true rfl) dX11_in_127 ⟨Nat.le_of_ble_eq_true rfl, Nat.le_of_ble_eq_true rfl⟩ (fun z46033 F H locs hT hz46033 => ?_)
              obtain ⟨hz46033, yz46033⟩ := hz46033
              have hv46030 := (yz46033 _ 7 (Or.inr (by decide))).trans hv46030
              have hfr : ∀ b j : Nat, (tag b ≠ 19 ∨ j ≠ 0) → (tag b ≠ 19 ∨ j ≠ 1) → (tag b ≠ 26 ∨ j ≠ 13) → fld F b j = fld Fo b j := fun b j n19_0 n19_1 n26_13 => (yz46033 b j n26_13).trans (hfr b j n19_0 n19_1 n26_13)
              exact t_iret hQ X hT (⟨rg_all _, hfr⟩) (Nat.le_of_ble_eq_true rfl) (Nat.le_of_ble_eq_true rfl) dX11_in_130
            have w46034 := cv_ne (rfl : p3.toInt = p3.toInt) (by decide : (3 : Int32).toInt = 3) c46028
            refine lv_tableOut (tgt := 131) hx hb dX11_in_45 (by omega) (by decide) ?_
            refine lv_aload_n hx hb dX11_in_131 rfl (lv_at hl 0 rfl) ?_
            refine lv_aload_n hx hb dX11_in_132 rfl (lv_at hl 0 rfl) ?_
            refine t_get (C := RX11) (T := TX11) (N := 16) X hT m0 g0 rfl rfl 3 (by decide) qw_18 inlX11 rfl dX11_in_133 (fun v46035 hv46035 ov46035 => ?_)
            obtain ⟨b46036, rfl, mb46036, gb46036⟩ := okV_r ov46035
            have gb46036 : tag b46036 = 18 := tg_of gb46036
            refine lv_aload_n hx hb dX11_in_136 rfl (lv_at hl 0 rfl) ?_
            refine t_get (C := RX11) (T := TX11) (N := 16) X hT m0 g0 rfl rfl 7 (by decide) qw_25 inlX11 rfl dX11_in_137 (fun v46037 hv46037 ov46037 => ?_)
            obtain ⟨b46038, rfl, mb46038, gb46038⟩ := okV_r ov46037
            have gb46038 : tag b46038 = 19 := tg_of gb46038
            refine lv_iload_n hx hb dX11_in_140 rfl (lv_at hl 1 rfl) ?_
            refine t_cSi (n := 3) (As := [.ref b46036, .ref b46038, .int p1]) (rest := [.ref p0]) X hT (kt124_X6_isShut l G tag L F hT.2.2.2 b46036 b46038 p1 mb46036 gb46036 mb46038 gb46038 (by omega)) qw_774 qw_775 qw_380 qw_776 ⟨by decide +kernel, by decide +kernel, by decide +kernel⟩ ⟨Nat.le_of_ble_eq_true rfl, Nat.le_of_ble_eq_true rfl⟩ hl rfl rfl (Nat.le_of_ble_eq_true rfl) dX11_in_141 ⟨Nat.le_of_ble_eq_true rfl, Nat.le_of_ble_eq_true rfl⟩ (fun z46039 F9 H locs hT hz46039 => ?_)
            obtain ⟨fz46039, hz46039⟩ := hz46039
            rw [fz46039] at hT
            refine lv_if_eq (tgt := 151) hx hb dX11_in_144 (by decide) (fun c46040 => ?_) (fun c46040 => ?_)
            · have w46041 := cv_eq (rfl : z46039.toInt = z46039.toInt) (by decide : (0 : Int32).toInt = 0) c46040
              refine lv_iconst (v := 0) hx hb dX11_in_151 (by decide) ?_
              exact K152 0 p0 _ _ _ _ (by decide) m0 g0 (by omega) (by omega) (by omega) hT hfr  (lv_sub hl [0, 1, 2, 3] rfl)
            · have w46042 := cv_ne (rfl : z46039.toInt = z46039.toInt) (by decide : (0 : Int32).toInt = 0) c46040
              refine lv_iconst (v := 1) hx hb dX11_in_147 (by decide) ?_
              refine lv_goto (tgt := 152) hx hb dX11_in_148 (by decide) ?_
              exact K152 1 p0 _ _ _ _ (by decide) m0 g0 (by omega) (by omega) (by omega) hT hfr  (lv_sub hl [0, 1, 2, 3] rfl)
          · have w46043 := cv_nle (rfl : p2.toInt = p2.toInt) (by decide : (60 : Int32).toInt = 60) c45998
            exact K33  _ _ _ _ (by omega) (by omega) hT hfr  (lv_sub hl [0, 1, 2, 3] rfl)
      · have w46044 := cv_nle (rfl : p3.toInt = p3.toInt) (by decide : (4 : Int32).toInt = 4) c45993
        exact K17  _ _ _ _  hT hfr  (lv_sub hl [0, 1, 2, 3] rfl)
set_option maxHeartbeats 4000000 in
set_option maxRecDepth 100000 in
theorem kt130_X11_isHeir (l : Launch) (G : KG) (tag : Nat → Nat) (L : List Nat) (F : Nat → va_E) (ho : okT G ttC tag L F) (p0 : Nat) (p1 : Int32) (m0 : p0 ∈ L) (g0 : tag p0 = 26) : TMi l yX11_isHeir cX11_isHeir 2 (some .boolean) { frames := 0, cells := 0, slots := 0, locals := 0 } G ttC tag L F [.ref p0, .int p1] (fun r F1 => F1 = F ∧ ((0 ≤ r.toInt ∧ r.toInt ≤ 1) ∧ (r.toInt ≠ 0 → (0 ≤ p1.toInt ∧ p1.toInt ≤ 5)))) := by
  refine t_bodyi (y := yX11_isHeir) (cd := cX11_isHeir) (mL := 2) (rt := (some .boolean)) (rm := { frames := 0, cells := 0, slots := 0, locals := 0 }) (av := [.ref p0, .int p1]) (by decide) (Nat.le_of_ble_eq_true rfl) ho ?_
  intro p e s m args below meth c ls A Q hQ X hT hl
  have hx := X.1.1
  have hb := X.1.2.1
  have hl : lv_has ls 2 [(0, .ref p0), (1, .int p1)] := hl
  have rp1 := rg_all p1
  refine lv_aload_n hx hb dX11_isHeir_0 rfl (lv_at hl 0 rfl) ?_
  refine t_get (C := RX11) (T := TX11) (N := 16) X hT m0 g0 rfl rfl 2 (by decide) qw_150 inlX11 rfl dX11_isHeir_1 (fun v46210 hv46210 ov46210 => ?_)
  obtain ⟨z46211, rfl, rz46211⟩ := okV_i ov46210
  refine lv_if_eq (tgt := 26) hx hb dX11_isHeir_4 (by decide) (fun c46212 => ?_) (fun c46212 => ?_)
  · have w46213 := cv_eq (rfl : z46211.toInt = z46211.toInt) (by decide : (0 : Int32).toInt = 0) c46212
    refine lv_iconst (v := 0) hx hb dX11_isHeir_26 (by decide) ?_
    exact t_zret hQ X hT (by decide) (⟨rfl, ⟨(by decide), fun h => absurd (by decide) h⟩⟩) (Nat.le_of_ble_eq_true rfl) (Nat.le_of_ble_eq_true rfl) dX11_isHeir_27
  · have w46214 := cv_ne (rfl : z46211.toInt = z46211.toInt) (by decide : (0 : Int32).toInt = 0) c46212
    refine lv_iload_n hx hb dX11_isHeir_7 rfl (lv_at hl 1 rfl) ?_
    refine lv_if_lt (tgt := 26) hx hb dX11_isHeir_8 (by decide) (fun c46215 => ?_) (fun c46215 => ?_)
    · have w46216 := cv_lt (rfl : p1.toInt = p1.toInt) (by decide : (0 : Int32).toInt = 0) c46215
      refine lv_iconst (v := 0) hx hb dX11_isHeir_26 (by decide) ?_
      exact t_zret hQ X hT (by decide) (⟨rfl, ⟨(by decide), fun h => absurd (by decide) h⟩⟩) (Nat.le_of_ble_eq_true rfl) (Nat.le_of_ble_eq_true rfl) dX11_isHeir_27
    · have w46217 := cv_nlt (rfl : p1.toInt = p1.toInt) (by decide : (0 : Int32).toInt = 0) c46215
      refine lv_iload_n hx hb dX11_isHeir_11 rfl (lv_at hl 1 rfl) ?_
      refine lv_aload_n hx hb dX11_isHeir_12 rfl (lv_at hl 0 rfl) ?_
      refine t_get (C := RX11) (T := TX11) (N := 16) X hT m0 g0 rfl rfl 3 (by decide) qw_18 inlX11 rfl dX11_isHeir_13 (fun v46218 hv46218 ov46218 => ?_)
      obtain ⟨b46219, rfl, mb46219, gb46219⟩ := okV_r ov46218
      have gb46219 : tag b46219 = 18 := tg_of gb46219
      refine t_get (C := RX1) (T := TX1) (N := 20) X hT mb46219 gb46219 rfl rfl 14 (by decide) qw_891 inlX1 rfl dX11_isHeir_16 (fun v46220 hv46220 ov46220 => ?_)
      obtain ⟨z46221, rfl, rz46221⟩ := okV_i ov46220
      refine lv_icmp_ge (tgt := 26) hx hb dX11_isHeir_19 (by decide) (fun c46222 => ?_) (fun c46222 => ?_)
      · have w46223 := cv_le (rfl : z46221.toInt = z46221.toInt) (rfl : p1.toInt = p1.toInt) c46222
        refine lv_iconst (v := 0) hx hb dX11_isHeir_26 (by decide) ?_
        exact t_zret hQ X hT (by decide) (⟨rfl, ⟨(by decide), fun h => absurd (by decide) h⟩⟩) (Nat.le_of_ble_eq_true rfl) (Nat.le_of_ble_eq_true rfl) dX11_isHeir_27
      · have w46224 := cv_nle (rfl : z46221.toInt = z46221.toInt) (rfl : p1.toInt = p1.toInt) c46222
        refine lv_iconst (v := 1) hx hb dX11_isHeir_22 (by decide) ?_
        refine lv_goto (tgt := 27) hx hb dX11_isHeir_23 (by decide) ?_
        exact t_zret hQ X hT (by decide) (⟨rfl, ⟨(by decide), fun _ => by omega⟩⟩) (Nat.le_of_ble_eq_true rfl) (Nat.le_of_ble_eq_true rfl) dX11_isHeir_27
