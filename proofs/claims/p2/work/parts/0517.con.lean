set_option maxHeartbeats 4000000 in
set_option maxRecDepth 100000 in
theorem kt130_X11_surely (l : Launch) (G : KG) (tag : Nat → Nat) (L : List Nat) (Fo : Nat → va_E) (ho : okT G ttC tag L Fo) (p0 : Nat) (p1 : Int32) (p2 : Int32) (m0 : p0 ∈ L) (g0 : tag p0 = 26) : TMi l yX11_surely cX11_surely 4 (some .int) { frames := 4, cells := 0, slots := 0, locals := 86 } G ttC tag L Fo [.ref p0, .int p1, .int p2] (fun r F1 => ((-2147483648) ≤ r.toInt ∧ r.toInt ≤ 2147483647) ∧ (∀ b j : Nat, (tag b ≠ 22 ∨ j ≠ 2) → (tag b ≠ 26 ∨ j ≠ 13) → fld F1 b j = fld Fo b j)) := by
  refine t_bodyi (y := yX11_surely) (cd := cX11_surely) (mL := 4) (rt := (some .int)) (rm := { frames := 4, cells := 0, slots := 0, locals := 86 }) (av := [.ref p0, .int p1, .int p2]) (by decide) (Nat.le_of_ble_eq_true rfl) ho ?_
  intro p e s m args below meth c ls A Q hQ X hT hl
  have hx := X.1.1
  have hb := X.1.2.1
  have hl : lv_has ls 4 [(0, .ref p0), (1, .int p1), (2, .int p2)] := hl
  have rp1 := rg_all p1
  have rp2 := rg_all p2
  obtain ⟨F, hFo⟩ : ∃ F : Nat → va_E, F = Fo := ⟨_, rfl⟩
  rw [← hFo] at hT
  have hfr : ∀ b j : Nat, (tag b ≠ 22 ∨ j ≠ 2) → (tag b ≠ 26 ∨ j ≠ 13) → fld F b j = fld Fo b j := by
    rw [hFo]
    intros
    rfl
  have K21 : ∀  (F : Nat → va_E) (H : Heap) (locs : List Loc) (ls : Array Slot), TH G ttC A s tag L F H locs → (∀ b j : Nat, (tag b ≠ 22 ∨ j ≠ 2) → (tag b ≠ 26 ∨ j ≠ 13) → fld F b j = fld Fo b j) → lv_has ls 4 [(0, .ref p0), (1, .int p1), (2, .int p2)] → W p l e { frames := 4, cells := 0, slots := 0, locals := 86 } s m args below meth c H locs 0 0 Q (F0 m 21 ls []) := by
    intro F H locs ls hT hfr hl
    refine lv_aload_n hx hb dX11_surely_21 rfl (lv_at hl 0 rfl) ?_
    refine lv_iconst (v := 1) hx hb dX11_surely_22 (by decide) ?_
    refine t_cVi (n := 1) (C := RX11) (T := TX11) (N := 16) (As := [.int 1]) (rest := []) X hT (kt63_X11_refuse l G tag L F hT.2.2.2 p0 1 m0 g0) m0 g0 rfl rfl qw_152 qw_153 qw_154 qw_2 qw_155 ⟨rfl, by decide +kernel, by decide +kernel, by decide +kernel⟩ ⟨Nat.le_of_ble_eq_true rfl, Nat.le_of_ble_eq_true rfl⟩ hl rfl rfl (Nat.le_of_ble_eq_true rfl) dX11_surely_23 ⟨Nat.le_of_ble_eq_true rfl, Nat.le_of_ble_eq_true rfl⟩ (fun z50273 F H locs hT hz50273 => ?_)
    obtain ⟨hz50273, yz50273⟩ := hz50273
    have hfr : ∀ b j : Nat, (tag b ≠ 22 ∨ j ≠ 2) → (tag b ≠ 26 ∨ j ≠ 13) → fld F b j = fld Fo b j := fun b j n22_2 n26_13 => (yz50273 b j n26_13).trans (hfr b j n22_2 n26_13)
    exact t_iret hQ X hT (⟨rg_all _, hfr⟩) (Nat.le_of_ble_eq_true rfl) (Nat.le_of_ble_eq_true rfl) dX11_surely_26
  have K88 : ∀ (z50276 : Int32) (z50277 : Int32) (b50278 : Nat) (F : Nat → va_E) (H : Heap) (locs : List Loc) (ls : Array Slot), (0 ≤ z50276.toInt ∧ z50276.toInt ≤ 1) → (0 ≤ z50277.toInt ∧ z50277.toInt ≤ 1) → (b50278 ∈ L) → (tag b50278 = 26) → (0 ≤ p1.toInt ∧ p1.toInt ≤ 5) → (0 ≤ p2.toInt ∧ p2.toInt ≤ 5) → TH G ttC A s tag L F H locs → (∀ b j : Nat, (tag b ≠ 22 ∨ j ≠ 2) → (tag b ≠ 26 ∨ j ≠ 13) → fld F b j = fld Fo b j) → lv_has ls 4 [(0, .ref p0), (1, .int p1), (2, .int p2), (3, .int z50276)] → W p l e { frames := 4, cells := 0, slots := 0, locals := 86 } s m args below meth c H locs 0 0 Q (F0 m 88 ls [.int z50277, .ref b50278]) := by
    intro z50276 z50277 b50278 F H locs ls rz50276 rz50277 mb50278 gb50278 r9s50274 r9s50275 hT hfr hl
    refine t_cVi (n := 1) (C := RX11) (T := TX11) (N := 16) (As := [.int z50277]) (rest := []) X hT (kt56_X11_answer l G tag L F hT.2.2.2 b50278 z50277 mb50278 gb50278) mb50278 gb50278 rfl rfl qw_463 qw_464 qw_465 qw_2 qw_466 ⟨rfl, by decide +kernel, by decide +kernel, by decide +kernel⟩ ⟨Nat.le_of_ble_eq_true rfl, Nat.le_of_ble_eq_true rfl⟩ hl rfl rfl (Nat.le_of_ble_eq_true rfl) dX11_surely_88 ⟨Nat.le_of_ble_eq_true rfl, Nat.le_of_ble_eq_true rfl⟩ (fun z50279 F H locs hT hz50279 => ?_)
    obtain ⟨hz50279, yz50279⟩ := hz50279
    have hfr : ∀ b j : Nat, (tag b ≠ 22 ∨ j ≠ 2) → (tag b ≠ 26 ∨ j ≠ 13) → fld F b j = fld Fo b j := fun b j n22_2 n26_13 => (yz50279 b j n26_13).trans (hfr b j n22_2 n26_13)
    exact t_iret hQ X hT (⟨rg_all _, hfr⟩) (Nat.le_of_ble_eq_true rfl) (Nat.le_of_ble_eq_true rfl) dX11_surely_91
  have K87 : ∀ (z50282 : Int32) (b50283 : Nat) (F : Nat → va_E) (H : Heap) (locs : List Loc) (ls : Array Slot), (0 ≤ z50282.toInt ∧ z50282.toInt ≤ 1) → (b50283 ∈ L) → (tag b50283 = 26) → (0 ≤ p1.toInt ∧ p1.toInt ≤ 5) → (0 ≤ p2.toInt ∧ p2.toInt ≤ 5) → TH G ttC A s tag L F H locs → (∀ b j : Nat, (tag b ≠ 22 ∨ j ≠ 2) → (tag b ≠ 26 ∨ j ≠ 13) → fld F b j = fld Fo b j) → lv_has ls 4 [(0, .ref p0), (1, .int p1), (2, .int p2), (3, .int z50282)] → W p l e { frames := 4, cells := 0, slots := 0, locals := 86 } s m args below meth c H locs 0 0 Q (F0 m 87 ls [.ref b50283]) := by
    intro z50282 b50283 F H locs ls rz50282 mb50283 gb50283 r9s50280 r9s50281 hT hfr hl
    refine lv_iconst (v := 0) hx hb dX11_surely_87 (by decide) ?_
    exact K88 z50282 0 b50283 _ _ _ _ (by omega) (by decide) mb50283 gb50283 (by omega) (by omega) hT hfr  (lv_sub hl [0, 1, 2, 3] rfl)
  have K67 : ∀ (z50286 : Int32) (F : Nat → va_E) (H : Heap) (locs : List Loc) (ls : Array Slot), (0 ≤ z50286.toInt ∧ z50286.toInt ≤ 1) → (0 ≤ p1.toInt ∧ p1.toInt ≤ 5) → (0 ≤ p2.toInt ∧ p2.toInt ≤ 5) → TH G ttC A s tag L F H locs → (∀ b j : Nat, (tag b ≠ 22 ∨ j ≠ 2) → (tag b ≠ 26 ∨ j ≠ 13) → fld F b j = fld Fo b j) → lv_has ls 4 [(0, .ref p0), (1, .int p1), (2, .int p2)] → W p l e { frames := 4, cells := 0, slots := 0, locals := 86 } s m args below meth c H locs 0 0 Q (F0 m 67 ls [.int z50286]) := by
    intro z50286 F H locs ls rz50286 r9s50284 r9s50285 hT hfr hl
    refine lv_istore_n (lv' := [(3, .int z50286), (0, .ref p0), (1, .int p1), (2, .int p2)]) hx hb dX11_surely_67 rfl hl (by decide) rfl (fun ls hl => ?_)
    refine lv_aload_n hx hb dX11_surely_68 rfl (lv_at hl 1 rfl) ?_
    refine lv_aload_n hx hb dX11_surely_69 rfl (lv_at hl 1 rfl) ?_
    refine t_get (C := RX11) (T := TX11) (N := 16) X hT m0 g0 rfl rfl 11 (by decide) qw_41 inlX11 rfl dX11_surely_70 (fun v50287 hv50287 ov50287 => ?_)
    obtain ⟨b50288, rfl, mb50288, gb50288⟩ := okV_r ov50287
    have gb50288 : tag b50288 = 22 := tg_of gb50288
    refine t_get (C := RX9) (T := TX9) (N := 6) X hT mb50288 gb50288 rfl rfl 2 (by decide) qw_1332 inlX9 rfl dX11_surely_73 (fun v50289 hv50289 ov50289 => ?_)
    obtain ⟨z50290, rfl, rz50290⟩ := okV_i ov50289
    refine lv_if_le (tgt := 87) hx hb dX11_surely_76 (by decide) (fun c50291 => ?_) (fun c50291 => ?_)
    · have w50292 := cv_le (rfl : z50290.toInt = z50290.toInt) (by decide : (0 : Int32).toInt = 0) c50291
      exact K87 z50286 p0 _ _ _ _ (by omega) m0 g0 (by omega) (by omega) hT hfr  (lv_sub hl [1, 2, 3, 0] rfl)
    · have w50293 := cv_nle (rfl : z50290.toInt = z50290.toInt) (by decide : (0 : Int32).toInt = 0) c50291
      refine lv_iload_n hx hb dX11_surely_79 rfl (lv_at hl 0 rfl) ?_
      refine lv_if_eq (tgt := 87) hx hb dX11_surely_80 (by decide) (fun c50294 => ?_) (fun c50294 => ?_)
      · have w50295 := cv_eq (rfl : z50286.toInt = z50286.toInt) (by decide : (0 : Int32).toInt = 0) c50294
        exact K87 z50286 p0 _ _ _ _ (by omega) m0 g0 (by omega) (by omega) hT hfr  (lv_sub hl [1, 2, 3, 0] rfl)
      · have w50296 := cv_ne (rfl : z50286.toInt = z50286.toInt) (by decide : (0 : Int32).toInt = 0) c50294
        refine lv_iconst (v := 1) hx hb dX11_surely_83 (by decide) ?_
        refine lv_goto (tgt := 88) hx hb dX11_surely_84 (by decide) ?_
        exact K88 z50286 1 p0 _ _ _ _ (by omega) (by decide) m0 g0 (by omega) (by omega) hT hfr  (lv_sub hl [1, 2, 3, 0] rfl)
  refine lv_aload_n hx hb dX11_surely_0 rfl (lv_at hl 0 rfl) ?_
  refine lv_iload_n hx hb dX11_surely_1 rfl (lv_at hl 1 rfl) ?_
  refine t_cVi (n := 1) (C := RX11) (T := TX11) (N := 16) (As := [.int p1]) (rest := []) X hT (kt92_X11_isWall l G tag L F hT.2.2.2 p0 p1 m0 g0) m0 g0 rfl rfl qw_1379 qw_1380 qw_1381 qw_2 qw_1382 ⟨rfl, by decide +kernel, by decide +kernel, by decide +kernel⟩ ⟨Nat.le_of_ble_eq_true rfl, Nat.le_of_ble_eq_true rfl⟩ hl rfl rfl (Nat.le_of_ble_eq_true rfl) dX11_surely_2 ⟨Nat.le_of_ble_eq_true rfl, Nat.le_of_ble_eq_true rfl⟩ (fun z50297 F9 H locs hT hz50297 => ?_)
  obtain ⟨fz50297, hz50297⟩ := hz50297
  rw [fz50297] at hT
  obtain ⟨hz50297, iz50297⟩ := hz50297
  refine lv_if_eq (tgt := 21) hx hb dX11_surely_5 (by decide) (fun c50298 => ?_) (fun c50298 => ?_)
  · have w50299 := cv_eq (rfl : z50297.toInt = z50297.toInt) (by decide : (0 : Int32).toInt = 0) c50298
    exact K21  _ _ _ _  hT hfr  (lv_sub hl [0, 1, 2] rfl)
  · have w50300 := cv_ne (rfl : z50297.toInt = z50297.toInt) (by decide : (0 : Int32).toInt = 0) c50298
    have w50301 := (fun h => (iz50297 h)) (by omega)
    refine lv_aload_n hx hb dX11_surely_8 rfl (lv_at hl 0 rfl) ?_
    refine lv_iload_n hx hb dX11_surely_9 rfl (lv_at hl 2 rfl) ?_
    refine t_cVi (n := 1) (C := RX11) (T := TX11) (N := 16) (As := [.int p2]) (rest := []) X hT (kt92_X11_isWall l G tag L F hT.2.2.2 p0 p2 m0 g0) m0 g0 rfl rfl qw_1379 qw_1380 qw_1381 qw_2 qw_1382 ⟨rfl, by decide +kernel, by decide +kernel, by decide +kernel⟩ ⟨Nat.le_of_ble_eq_true rfl, Nat.le_of_ble_eq_true rfl⟩ hl rfl rfl (Nat.le_of_ble_eq_true rfl) dX11_surely_10 ⟨Nat.le_of_ble_eq_true rfl, Nat.le_of_ble_eq_true rfl⟩ (fun z50302 F9 H locs hT hz50302 => ?_)
    obtain ⟨fz50302, hz50302⟩ := hz50302
    rw [fz50302] at hT
    obtain ⟨hz50302, iz50302⟩ := hz50302
    refine lv_if_eq (tgt := 21) hx hb dX11_surely_13 (by decide) (fun c50303 => ?_) (fun c50303 => ?_)
    · have w50304 := cv_eq (rfl : z50302.toInt = z50302.toInt) (by decide : (0 : Int32).toInt = 0) c50303
      exact K21  _ _ _ _  hT hfr  (lv_sub hl [0, 1, 2] rfl)
    · have w50305 := cv_ne (rfl : z50302.toInt = z50302.toInt) (by decide : (0 : Int32).toInt = 0) c50303
      have w50306 := (fun h => (iz50302 h)) (by omega)
      refine lv_iload_n hx hb dX11_surely_16 rfl (lv_at hl 1 rfl) ?_
      refine lv_iload_n hx hb dX11_surely_17 rfl (lv_at hl 2 rfl) ?_
      refine lv_icmp_ne (tgt := 27) hx hb dX11_surely_18 (by decide) (fun c50307 => ?_) (fun c50307 => ?_)
      · have w50308 := cv_ne (rfl : p1.toInt = p1.toInt) (rfl : p2.toInt = p2.toInt) c50307
        refine lv_aload_n hx hb dX11_surely_27 rfl (lv_at hl 0 rfl) ?_
        refine t_get (C := RX11) (T := TX11) (N := 16) X hT m0 g0 rfl rfl 11 (by decide) qw_41 inlX11 rfl dX11_surely_28 (fun v50309 hv50309 ov50309 => ?_)
        obtain ⟨b50310, rfl, mb50310, gb50310⟩ := okV_r ov50309
        have gb50310 : tag b50310 = 22 := tg_of gb50310
        refine lv_aload_n hx hb dX11_surely_31 rfl (lv_at hl 0 rfl) ?_
        refine t_get (C := RX11) (T := TX11) (N := 16) X hT m0 g0 rfl rfl 3 (by decide) qw_18 inlX11 rfl dX11_surely_32 (fun v50311 hv50311 ov50311 => ?_)
        obtain ⟨b50312, rfl, mb50312, gb50312⟩ := okV_r ov50311
        have gb50312 : tag b50312 = 18 := tg_of gb50312
        refine lv_aload_n hx hb dX11_surely_35 rfl (lv_at hl 0 rfl) ?_
        refine t_get (C := RX11) (T := TX11) (N := 16) X hT m0 g0 rfl rfl 5 (by decide) qw_23 inlX11 rfl dX11_surely_36 (fun v50313 hv50313 ov50313 => ?_)
        obtain ⟨b50314, rfl, mb50314, gb50314⟩ := okV_r ov50313
        have gb50314 : tag b50314 = 19 := tg_of gb50314
        refine t_get (C := RX7) (T := TX7) (N := 7) X hT mb50314 gb50314 rfl rfl 0 (by decide) qw_1225 inlX7 rfl dX11_surely_39 (fun v50315 hv50315 ov50315 => ?_)
        obtain ⟨z50316, rfl, rz50316⟩ := okV_i ov50315
        refine t_cVv (n := 2) (C := RX9) (T := TX9) (N := 6) (As := [.ref b50312, .int z50316]) (rest := []) X hT (kt107_X9_lookAtAll l G tag L F hT.2.2.2 b50310 b50312 z50316 mb50310 gb50310 mb50312 gb50312) mb50310 gb50310 rfl rfl qw_1333 qw_1334 qw_1335 qw_40 qw_1336 ⟨rfl, by decide +kernel, by decide +kernel, by decide +kernel⟩ ⟨Nat.le_of_ble_eq_true rfl, Nat.le_of_ble_eq_true rfl⟩ hl rfl rfl (Nat.le_of_ble_eq_true rfl) dX11_surely_42 ⟨Nat.le_of_ble_eq_true rfl, Nat.le_of_ble_eq_true rfl⟩ (fun F H locs hT hz50317 => ?_)
        have yz50317 := hz50317
        have hv50309 := (yz50317 _ 11 (Or.inr (by decide))).trans hv50309
        have hv50311 := (yz50317 _ 3 (Or.inr (by decide))).trans hv50311
        have hv50313 := (yz50317 _ 5 (Or.inr (by decide))).trans hv50313
        have hv50315 := (yz50317 _ 0 (Or.inr (by decide))).trans hv50315
        have hfr : ∀ b j : Nat, (tag b ≠ 22 ∨ j ≠ 2) → (tag b ≠ 26 ∨ j ≠ 13) → fld F b j = fld Fo b j := fun b j n22_2 n26_13 => (yz50317 b j n22_2).trans (hfr b j n22_2 n26_13)
        refine lv_aload_n hx hb dX11_surely_45 rfl (lv_at hl 0 rfl) ?_
        refine t_get (C := RX11) (T := TX11) (N := 16) X hT m0 g0 rfl rfl 11 (by decide) qw_41 inlX11 rfl dX11_surely_46 (fun v50318 hv50318 ov50318 => ?_)
        obtain rfl : v50318 = .ref b50310 := hv50318.symm.trans hv50309
        refine t_get (C := RX9) (T := TX9) (N := 6) X hT mb50310 gb50310 rfl rfl 5 (by decide) qw_1418 inlX9 rfl dX11_surely_49 (fun v50319 hv50319 ov50319 => ?_)
        obtain ⟨b50320, rfl, mb50320, gb50320⟩ := okV_r ov50319
        have gb50320 : tag b50320 = 7 := tg_of gb50320
        refine lv_iload_n hx hb dX11_surely_52 rfl (lv_at hl 2 rfl) ?_
        refine t_ild X hT mb50320 gb50320 rfl (by omega) dX11_surely_53 (fun z50321 vz50321 rz50321 => ?_)
        have rz50321 : (-2147483648) ≤ z50321.toInt ∧ z50321.toInt ≤ 2147483647 := rz50321
        refine lv_iload_n hx hb dX11_surely_54 rfl (lv_at hl 1 rfl) ?_
        refine lv_ishr hx hb dX11_surely_55 ?_
        refine lv_topi (fun z50322 ez50322 => ?_)
        have rz50322 := rg_all z50322
        refine lv_iconst (v := 1) hx hb dX11_surely_56 (by decide) ?_
        refine lv_iand hx hb dX11_surely_57 ?_
        refine lv_topi (fun z50323 ez50323 => ?_)
        have rz50323 : 0 ≤ z50323.toInt ∧ z50323.toInt ≤ 1 := ar_and ez50323 1 (by decide) (by decide)
        refine lv_iconst (v := 1) hx hb dX11_surely_58 (by decide) ?_
        refine lv_icmp_ne (tgt := 66) hx hb dX11_surely_59 (by decide) (fun c50324 => ?_) (fun c50324 => ?_)
        · have w50325 := cv_ne (rfl : z50323.toInt = z50323.toInt) (by decide : (1 : Int32).toInt = 1) c50324
          refine lv_iconst (v := 0) hx hb dX11_surely_66 (by decide) ?_
          exact K67 0 _ _ _ _ (by decide) (by omega) (by omega) hT hfr  (lv_sub hl [0, 1, 2] rfl)
        · have w50326 := cv_eq (rfl : z50323.toInt = z50323.toInt) (by decide : (1 : Int32).toInt = 1) c50324
          refine lv_iconst (v := 1) hx hb dX11_surely_62 (by decide) ?_
          refine lv_goto (tgt := 67) hx hb dX11_surely_63 (by decide) ?_
          exact K67 1 _ _ _ _ (by decide) (by omega) (by omega) hT hfr  (lv_sub hl [0, 1, 2] rfl)
      · have w50327 := cv_eq (rfl : p1.toInt = p1.toInt) (rfl : p2.toInt = p2.toInt) c50307
        exact K21  _ _ _ _  hT hfr  (lv_sub hl [0, 1, 2] rfl)
set_option maxHeartbeats 4000000 in
set_option maxRecDepth 100000 in
theorem kt131_X11_take (l : Launch) (G : KG) (tag : Nat → Nat) (L : List Nat) (Fo : Nat → va_E) (ho : okT G ttC tag L Fo) (p0 : Nat) (p1 : Int32) (m0 : p0 ∈ L) (g0 : tag p0 = 26) : TMi l yX11_take cX11_take 4 (some .int) { frames := 3, cells := 0, slots := 0, locals := 68 } G ttC tag L Fo [.ref p0, .int p1] (fun r F1 => ((-2147483648) ≤ r.toInt ∧ r.toInt ≤ 2147483647) ∧ (∀ b j : Nat, (tag b ≠ 19 ∨ j ≠ 0) → (tag b ≠ 19 ∨ j ≠ 1) → (tag b ≠ 23 ∨ j ≠ 2) → (tag b ≠ 23 ∨ j ≠ 3) → (tag b ≠ 26 ∨ j ≠ 13) → fld F1 b j = fld Fo b j)) := by
  refine t_bodyi (y := yX11_take) (cd := cX11_take) (mL := 4) (rt := (some .int)) (rm := { frames := 3, cells := 0, slots := 0, locals := 68 }) (av := [.ref p0, .int p1]) (by decide) (Nat.le_of_ble_eq_true rfl) ho ?_
  intro p e s m args below meth c ls A Q hQ X hT hl
  have hx := X.1.1
  have hb := X.1.2.1
  have hl : lv_has ls 4 [(0, .ref p0), (1, .int p1)] := hl
  have rp1 := rg_all p1
  obtain ⟨F, hFo⟩ : ∃ F : Nat → va_E, F = Fo := ⟨_, rfl⟩
  rw [← hFo] at hT
  have hfr : ∀ b j : Nat, (tag b ≠ 19 ∨ j ≠ 0) → (tag b ≠ 19 ∨ j ≠ 1) → (tag b ≠ 23 ∨ j ≠ 2) → (tag b ≠ 23 ∨ j ≠ 3) → (tag b ≠ 26 ∨ j ≠ 13) → fld F b j = fld Fo b j := by
    rw [hFo]
    intros
    rfl
  refine lv_aload_n hx hb dX11_take_0 rfl (lv_at hl 0 rfl) ?_
  refine lv_iload_n hx hb dX11_take_1 rfl (lv_at hl 1 rfl) ?_
  refine t_cVi (n := 1) (C := RX11) (T := TX11) (N := 16) (As := [.int p1]) (rest := []) X hT (kt61_X11_isHouse l G tag L F hT.2.2.2 p0 p1 m0 g0) m0 g0 rfl rfl qw_770 qw_771 qw_772 qw_2 qw_773 ⟨rfl, by decide +kernel, by decide +kernel, by decide +kernel⟩ ⟨Nat.le_of_ble_eq_true rfl, Nat.le_of_ble_eq_true rfl⟩ hl rfl rfl (Nat.le_of_ble_eq_true rfl) dX11_take_2 ⟨Nat.le_of_ble_eq_true rfl, Nat.le_of_ble_eq_true rfl⟩ (fun z50735 F9 H locs hT hz50735 => ?_)
  obtain ⟨fz50735, hz50735⟩ := hz50735
  rw [fz50735] at hT
  obtain ⟨hz50735, iz50735⟩ := hz50735
  refine lv_if_ne (tgt := 14) hx hb dX11_take_5 (by decide) (fun c50736 => ?_) (fun c50736 => ?_)
  · have w50737 := cv_ne (rfl : z50735.toInt = z50735.toInt) (by decide : (0 : Int32).toInt = 0) c50736
    have w50738 := (fun h => (iz50735 h)) (by omega)
    refine lv_aload_n hx hb dX11_take_14 rfl (lv_at hl 0 rfl) ?_
    refine t_get (C := RX11) (T := TX11) (N := 16) X hT m0 g0 rfl rfl 5 (by decide) qw_23 inlX11 rfl dX11_take_15 (fun v50739 hv50739 ov50739 => ?_)
    obtain ⟨b50740, rfl, mb50740, gb50740⟩ := okV_r ov50739
    have gb50740 : tag b50740 = 19 := tg_of gb50740
    refine lv_iload_n hx hb dX11_take_18 rfl (lv_at hl 1 rfl) ?_
    refine t_cVi (n := 1) (C := RX7) (T := TX7) (N := 7) (As := [.int p1]) (rest := []) X hT (kt21_X7_inmost l G tag L F hT.2.2.2 b50740 p1 mb50740 gb50740 (by omega)) mb50740 gb50740 rfl rfl qw_1292 qw_1293 qw_1294 qw_22 qw_1295 ⟨rfl, by decide +kernel, by decide +kernel, by decide +kernel⟩ ⟨Nat.le_of_ble_eq_true rfl, Nat.le_of_ble_eq_true rfl⟩ hl rfl rfl (Nat.le_of_ble_eq_true rfl) dX11_take_19 ⟨Nat.le_of_ble_eq_true rfl, Nat.le_of_ble_eq_true rfl⟩ (fun z50741 F9 H locs hT hz50741 => ?_)
    obtain ⟨fz50741, hz50741⟩ := hz50741
    rw [fz50741] at hT
    refine lv_istore_n (lv' := [(2, .int z50741), (0, .ref p0), (1, .int p1)]) hx hb dX11_take_22 rfl hl (by decide) rfl (fun ls hl => ?_)
    refine lv_iload_n hx hb dX11_take_23 rfl (lv_at hl 0 rfl) ?_
    refine lv_if_ne (tgt := 34) hx hb dX11_take_24 (by decide) (fun c50742 => ?_) (fun c50742 => ?_)
    · have w50743 := cv_ne (rfl : z50741.toInt = z50741.toInt) (by decide : (0 : Int32).toInt = 0) c50742
      refine lv_aload_n hx hb dX11_take_34 rfl (lv_at hl 1 rfl) ?_
      refine lv_iload_n hx hb dX11_take_35 rfl (lv_at hl 2 rfl) ?_
      refine lv_iload_n hx hb dX11_take_36 rfl (lv_at hl 0 rfl) ?_
      refine t_cVi (n := 2) (C := RX11) (T := TX11) (N := 16) (As := [.int p1, .int z50741]) (rest := []) X hT (kt76_X11_isLivedIn l G tag L F hT.2.2.2 p0 p1 z50741 m0 g0) m0 g0 rfl rfl qw_1316 qw_1317 qw_1318 qw_2 qw_1319 ⟨rfl, by decide +kernel, by decide +kernel, by decide +kernel⟩ ⟨Nat.le_of_ble_eq_true rfl, Nat.le_of_ble_eq_true rfl⟩ hl rfl rfl (Nat.le_of_ble_eq_true rfl) dX11_take_37 ⟨Nat.le_of_ble_eq_true rfl, Nat.le_of_ble_eq_true rfl⟩ (fun z50744 F9 H locs hT hz50744 => ?_)
      obtain ⟨fz50744, hz50744⟩ := hz50744
      rw [fz50744] at hT
      refine lv_if_eq (tgt := 49) hx hb dX11_take_40 (by decide) (fun c50745 => ?_) (fun c50745 => ?_)
      · have w50746 := cv_eq (rfl : z50744.toInt = z50744.toInt) (by decide : (0 : Int32).toInt = 0) c50745
        refine lv_aload_n hx hb dX11_take_49 rfl (lv_at hl 1 rfl) ?_
        refine t_get (C := RX11) (T := TX11) (N := 16) X hT m0 g0 rfl rfl 12 (by decide) qw_45 inlX11 rfl dX11_take_50 (fun v50747 hv50747 ov50747 => ?_)
        obtain ⟨b50748, rfl, mb50748, gb50748⟩ := okV_r ov50747
        have gb50748 : tag b50748 = 23 := tg_of gb50748
        refine lv_aload_n hx hb dX11_take_53 rfl (lv_at hl 1 rfl) ?_
        refine t_get (C := RX11) (T := TX11) (N := 16) X hT m0 g0 rfl rfl 5 (by decide) qw_23 inlX11 rfl dX11_take_54 (fun v50749 hv50749 ov50749 => ?_)
        obtain rfl : v50749 = .ref b50740 := hv50749.symm.trans hv50739
        refine t_cVv (n := 1) (C := RX2) (T := TX2) (N := 5) (As := [.ref b50740]) (rest := []) X hT (kt66_X2_keep l G tag L F hT.2.2.2 b50748 b50740 mb50748 gb50748 mb50740 gb50740) mb50748 gb50748 rfl rfl qw_1427 qw_1428 qw_1429 qw_44 qw_1430 ⟨rfl, by decide +kernel, by decide +kernel, by decide +kernel⟩ ⟨Nat.le_of_ble_eq_true rfl, Nat.le_of_ble_eq_true rfl⟩ hl rfl rfl (Nat.le_of_ble_eq_true rfl) dX11_take_57 ⟨Nat.le_of_ble_eq_true rfl, Nat.le_of_ble_eq_true rfl⟩ (fun F H locs hT hz50750 => ?_)
        have yz50750 := hz50750
        have hv50739 := (yz50750 _ 5 (Or.inr (by decide)) (Or.inr (by decide)) (Or.inr (by decide)) (Or.inr (by decide))).trans hv50739
        have hv50747 := (yz50750 _ 12 (Or.inr (by decide)) (Or.inr (by decide)) (Or.inr (by decide)) (Or.inr (by decide))).trans hv50747
        have hfr : ∀ b j : Nat, (tag b ≠ 19 ∨ j ≠ 0) → (tag b ≠ 19 ∨ j ≠ 1) → (tag b ≠ 23 ∨ j ≠ 2) → (tag b ≠ 23 ∨ j ≠ 3) → (tag b ≠ 26 ∨ j ≠ 13) → fld F b j = fld Fo b j := fun b j n19_0 n19_1 n23_2 n23_3 n26_13 => (yz50750 b j n19_0 n19_1 n23_2 n23_3).trans (hfr b j n19_0 n19_1 n23_2 n23_3 n26_13)
        refine lv_aload_n hx hb dX11_take_60 rfl (lv_at hl 1 rfl) ?_
        refine lv_iload_n hx hb dX11_take_61 rfl (lv_at hl 2 rfl) ?_
        refine lv_iload_n hx hb dX11_take_62 rfl (lv_at hl 0 rfl) ?_
        refine t_cVi (n := 2) (C := RX11) (T := TX11) (N := 16) (As := [.int p1, .int z50741]) (rest := []) X hT (kt84_X11_goldIn l G tag L F hT.2.2.2 p0 p1 z50741 m0 g0) m0 g0 rfl rfl qw_1296 qw_1297 qw_1298 qw_2 qw_1299 ⟨rfl, by decide +kernel, by decide +kernel, by decide +kernel⟩ ⟨Nat.le_of_ble_eq_true rfl, Nat.le_of_ble_eq_true rfl⟩ hl rfl rfl (Nat.le_of_ble_eq_true rfl) dX11_take_63 ⟨Nat.le_of_ble_eq_true rfl, Nat.le_of_ble_eq_true rfl⟩ (fun z50751 F9 H locs hT hz50751 => ?_)
        obtain ⟨fz50751, hz50751⟩ := hz50751
        rw [fz50751] at hT
        refine lv_istore_n (lv' := [(3, .int z50751), (2, .int z50741), (0, .ref p0), (1, .int p1)]) hx hb dX11_take_66 rfl hl (by decide) rfl (fun ls hl => ?_)
        refine lv_aload_n hx hb dX11_take_67 rfl (lv_at hl 2 rfl) ?_
        refine t_get (C := RX11) (T := TX11) (N := 16) X hT m0 g0 rfl rfl 5 (by decide) qw_23 inlX11 rfl dX11_take_68 (fun v50752 hv50752 ov50752 => ?_)
        obtain rfl : v50752 = .ref b50740 := hv50752.symm.trans hv50739
        refine t_get (C := RX7) (T := TX7) (N := 7) X hT mb50740 gb50740 rfl rfl 4 (by decide) qw_768 inlX7 rfl dX11_take_71 (fun v50753 hv50753 ov50753 => ?_)
        obtain ⟨b50754, rfl, mb50754, gb50754⟩ := okV_r ov50753
        have gb50754 : tag b50754 = 5 := tg_of gb50754
        refine lv_iload_n hx hb dX11_take_74 rfl (lv_at hl 3 rfl) ?_
        refine lv_sipush (v := 999) hx hb dX11_take_75 (by decide) ?_
        refine lv_aload_n hx hb dX11_take_78 rfl (lv_at hl 2 rfl) ?_
        refine t_get (C := RX11) (T := TX11) (N := 16) X hT m0 g0 rfl rfl 5 (by decide) qw_23 inlX11 rfl dX11_take_79 (fun v50755 hv50755 ov50755 => ?_)
        obtain rfl : v50755 = .ref b50740 := hv50755.symm.trans hv50739
        refine t_get (C := RX7) (T := TX7) (N := 7) X hT mb50740 gb50740 rfl rfl 4 (by decide) qw_768 inlX7 rfl dX11_take_82 (fun v50756 hv50756 ov50756 => ?_)
        obtain rfl : v50756 = .ref b50754 := hv50756.symm.trans hv50753
        refine lv_iload_n hx hb dX11_take_85 rfl (lv_at hl 3 rfl) ?_
        refine t_ild X hT mb50754 gb50754 rfl (by omega) dX11_take_86 (fun z50757 vz50757 rz50757 => ?_)
        have rz50757 : (-2147483648) ≤ z50757.toInt ∧ z50757.toInt ≤ 2147483647 := rz50757
        refine lv_iload_n hx hb dX11_take_87 rfl (lv_at hl 0 rfl) ?_
        refine lv_iadd hx hb dX11_take_88 ?_
        refine lv_topi (fun z50758 ez50758 => ?_)
        have rz50758 := rg_all z50758
        refine t_mmin X hl qw_1480 qw_1018 qw_850 qw_1019 (Nat.le_of_ble_eq_true rfl) (Nat.le_of_ble_eq_true rfl) (Nat.le_of_ble_eq_true rfl) (Nat.le_of_ble_eq_true rfl) dX11_take_89 (fun z50759 ez50759 => ?_)
        have hz50759 := mmin_e ez50759 (by decide : (999 : Int32).toInt = 999) (rfl : z50758.toInt = z50758.toInt)
        refine t_ist X hT mb50754 gb50754 rfl (by omega) (show (-2147483648) ≤ (z50759 : Int32).toInt ∧ (z50759 : Int32).toInt ≤ 2147483647 from (by omega)) dX11_take_92 (fun F H locs hT v50760 h1v50760 h2v50760 => ?_)
        have hv50739 := (h2v50760 _ _).trans hv50739
        have hv50747 := (h2v50760 _ _).trans hv50747
        have hv50753 := (h2v50760 _ _).trans hv50753
        have hfr : ∀ b j : Nat, (tag b ≠ 19 ∨ j ≠ 0) → (tag b ≠ 19 ∨ j ≠ 1) → (tag b ≠ 23 ∨ j ≠ 2) → (tag b ≠ 23 ∨ j ≠ 3) → (tag b ≠ 26 ∨ j ≠ 13) → fld F b j = fld Fo b j := fun b j n19_0 n19_1 n23_2 n23_3 n26_13 => (h2v50760 b j).trans (hfr b j n19_0 n19_1 n23_2 n23_3 n26_13)
        refine lv_aload_n hx hb dX11_take_93 rfl (lv_at hl 2 rfl) ?_
        refine t_get (C := RX11) (T := TX11) (N := 16) X hT m0 g0 rfl rfl 5 (by decide) qw_23 inlX11 rfl dX11_take_94 (fun v50761 hv50761 ov50761 => ?_)
        obtain rfl : v50761 = .ref b50740 := hv50761.symm.trans hv50739
        refine lv_iload_n hx hb dX11_take_97 rfl (lv_at hl 3 rfl) ?_
        refine lv_iload_n hx hb dX11_take_98 rfl (lv_at hl 1 rfl) ?_
        refine lv_iconst (v := 5) hx hb dX11_take_99 (by decide) ?_
        refine lv_iconst (v := 1) hx hb dX11_take_100 (by decide) ?_
        refine t_cVv (n := 4) (C := RX7) (T := TX7) (N := 7) (As := [.int p1, .int z50741, .int 5, .int 1]) (rest := []) X hT (kt16_X7_setPart l G tag L F hT.2.2.2 b50740 p1 z50741 5 1 mb50740 gb50740) mb50740 gb50740 rfl rfl qw_1459 qw_423 qw_424 qw_22 qw_425 ⟨rfl, by decide +kernel, by decide +kernel, by decide +kernel⟩ ⟨Nat.le_of_ble_eq_true rfl, Nat.le_of_ble_eq_true rfl⟩ hl rfl rfl (Nat.le_of_ble_eq_true rfl) dX11_take_101 ⟨Nat.le_of_ble_eq_true rfl, Nat.le_of_ble_eq_true rfl⟩ (fun F H locs hT hz50762 => ?_)
        have yz50762 := hz50762
        have hv50739 := (yz50762 _ 5 ).trans hv50739
        have hv50747 := (yz50762 _ 12 ).trans hv50747
        have hv50753 := (yz50762 _ 4 ).trans hv50753
        have hfr : ∀ b j : Nat, (tag b ≠ 19 ∨ j ≠ 0) → (tag b ≠ 19 ∨ j ≠ 1) → (tag b ≠ 23 ∨ j ≠ 2) → (tag b ≠ 23 ∨ j ≠ 3) → (tag b ≠ 26 ∨ j ≠ 13) → fld F b j = fld Fo b j := fun b j n19_0 n19_1 n23_2 n23_3 n26_13 => (yz50762 b j ).trans (hfr b j n19_0 n19_1 n23_2 n23_3 n26_13)
        refine lv_aload_n hx hb dX11_take_104 rfl (lv_at hl 2 rfl) ?_
        refine t_get (C := RX11) (T := TX11) (N := 16) X hT m0 g0 rfl rfl 5 (by decide) qw_23 inlX11 rfl dX11_take_105 (fun v50763 hv50763 ov50763 => ?_)
        obtain rfl : v50763 = .ref b50740 := hv50763.symm.trans hv50739
        refine lv_iload_n hx hb dX11_take_108 rfl (lv_at hl 3 rfl) ?_
        refine lv_iload_n hx hb dX11_take_109 rfl (lv_at hl 1 rfl) ?_
        refine lv_bipush (v := 6) hx hb dX11_take_110 (by decide) ?_
        refine lv_iconst (v := 0) hx hb dX11_take_112 (by decide) ?_
        refine t_cVv (n := 4) (C := RX7) (T := TX7) (N := 7) (As := [.int p1, .int z50741, .int 6, .int 0]) (rest := []) X hT (kt16_X7_setPart l G tag L F hT.2.2.2 b50740 p1 z50741 6 0 mb50740 gb50740) mb50740 gb50740 rfl rfl qw_1459 qw_423 qw_424 qw_22 qw_425 ⟨rfl, by decide +kernel, by decide +kernel, by decide +kernel⟩ ⟨Nat.le_of_ble_eq_true rfl, Nat.le_of_ble_eq_true rfl⟩ hl rfl rfl (Nat.le_of_ble_eq_true rfl) dX11_take_113 ⟨Nat.le_of_ble_eq_true rfl, Nat.le_of_ble_eq_true rfl⟩ (fun F H locs hT hz50764 => ?_)
        have yz50764 := hz50764
        have hv50739 := (yz50764 _ 5 ).trans hv50739
        have hv50747 := (yz50764 _ 12 ).trans hv50747
        have hv50753 := (yz50764 _ 4 ).trans hv50753
        have hfr : ∀ b j : Nat, (tag b ≠ 19 ∨ j ≠ 0) → (tag b ≠ 19 ∨ j ≠ 1) → (tag b ≠ 23 ∨ j ≠ 2) → (tag b ≠ 23 ∨ j ≠ 3) → (tag b ≠ 26 ∨ j ≠ 13) → fld F b j = fld Fo b j := fun b j n19_0 n19_1 n23_2 n23_3 n26_13 => (yz50764 b j ).trans (hfr b j n19_0 n19_1 n23_2 n23_3 n26_13)
        refine lv_aload_n hx hb dX11_take_116 rfl (lv_at hl 2 rfl) ?_
        refine lv_iload_n hx hb dX11_take_117 rfl (lv_at hl 0 rfl) ?_
        refine t_cVi (n := 1) (C := RX11) (T := TX11) (N := 16) (As := [.int z50751]) (rest := []) X hT (kt56_X11_answer l G tag L F hT.2.2.2 p0 z50751 m0 g0) m0 g0 rfl rfl qw_463 qw_464 qw_465 qw_2 qw_466 ⟨rfl, by decide +kernel, by decide +kernel, by decide +kernel⟩ ⟨Nat.le_of_ble_eq_true rfl, Nat.le_of_ble_eq_true rfl⟩ hl rfl rfl (Nat.le_of_ble_eq_true rfl) dX11_take_118 ⟨Nat.le_of_ble_eq_true rfl, Nat.le_of_ble_eq_true rfl⟩ (fun z50765 F H locs hT hz50765 => ?_)
        obtain ⟨hz50765, yz50765⟩ := hz50765
        have hv50739 := (yz50765 _ 5 (Or.inr (by decide))).trans hv50739
        have hv50747 := (yz50765 _ 12 (Or.inr (by decide))).trans hv50747
        have hv50753 := (yz50765 _ 4 (Or.inr (by decide))).trans hv50753
        have hfr : ∀ b j : Nat, (tag b ≠ 19 ∨ j ≠ 0) → (tag b ≠ 19 ∨ j ≠ 1) → (tag b ≠ 23 ∨ j ≠ 2) → (tag b ≠ 23 ∨ j ≠ 3) → (tag b ≠ 26 ∨ j ≠ 13) → fld F b j = fld Fo b j := fun b j n19_0 n19_1 n23_2 n23_3 n26_13 => (yz50765 b j n26_13).trans (hfr b j n19_0 n19_1 n23_2 n23_3 n26_13)
        exact t_iret hQ X hT (⟨rg_all _, hfr⟩) (Nat.le_of_ble_eq_true rfl) (Nat.le_of_ble_eq_true rfl) dX11_take_121
      · have w50766 := cv_ne (rfl : z50744.toInt = z50744.toInt) (by decide : (0 : Int32).toInt = 0) c50745
        refine lv_aload_n hx hb dX11_take_43 rfl (lv_at hl 1 rfl) ?_
        refine lv_iconst (v := 5) hx hb dX11_take_44 (by decide) ?_
        refine t_cVi (n := 1) (C := RX11) (T := TX11) (N := 16) (As := [.int 5]) (rest := []) X hT (kt63_X11_refuse l G tag L F hT.2.2.2 p0 5 m0 g0) m0 g0 rfl rfl qw_152 qw_153 qw_154 qw_2 qw_155 ⟨rfl, by decide +kernel, by decide +kernel, by decide +kernel⟩ ⟨Nat.le_of_ble_eq_true rfl, Nat.le_of_ble_eq_true rfl⟩ hl rfl rfl (Nat.le_of_ble_eq_true rfl) dX11_take_45 ⟨Nat.le_of_ble_eq_true rfl, Nat.le_of_ble_eq_true rfl⟩ (fun z50767 F H locs hT hz50767 => ?_)
        obtain ⟨hz50767, yz50767⟩ := hz50767
        have hv50739 := (yz50767 _ 5 (Or.inr (by decide))).trans hv50739
        have hfr : ∀ b j : Nat, (tag b ≠ 19 ∨ j ≠ 0) → (tag b ≠ 19 ∨ j ≠ 1) → (tag b ≠ 23 ∨ j ≠ 2) → (tag b ≠ 23 ∨ j ≠ 3) → (tag b ≠ 26 ∨ j ≠ 13) → fld F b j = fld Fo b j := fun b j n19_0 n19_1 n23_2 n23_3 n26_13 => (yz50767 b j n26_13).trans (hfr b j n19_0 n19_1 n23_2 n23_3 n26_13)
        exact t_iret hQ X hT (⟨rg_all _, hfr⟩) (Nat.le_of_ble_eq_true rfl) (Nat.le_of_ble_eq_true rfl) dX11_take_48
    · have w50768 := cv_eq (rfl : z50741.toInt = z50741.toInt) (by decide : (0 : Int32).toInt = 0) c50742
      refine lv_aload_n hx hb dX11_take_27 rfl (lv_at hl 1 rfl) ?_
      refine lv_bipush (v := 6) hx hb dX11_take_28 (by decide) ?_
      refine t_cVi (n := 1) (C := RX11) (T := TX11) (N := 16) (As := [.int 6]) (rest := []) X hT (kt63_X11_refuse l G tag L F hT.2.2.2 p0 6 m0 g0) m0 g0 rfl rfl qw_152 qw_153 qw_154 qw_2 qw_155 ⟨rfl, by decide +kernel, by decide +kernel, by decide +kernel⟩ ⟨Nat.le_of_ble_eq_true rfl, Nat.le_of_ble_eq_true rfl⟩ hl rfl rfl (Nat.le_of_ble_eq_true rfl) dX11_take_30 ⟨Nat.le_of_ble_eq_true rfl, Nat.le_of_ble_eq_true rfl⟩ (fun z50769 F H locs hT hz50769 => ?_)
      obtain ⟨hz50769, yz50769⟩ := hz50769
      have hv50739 := (yz50769 _ 5 (Or.inr (by decide))).trans hv50739
      have hfr : ∀ b j : Nat, (tag b ≠ 19 ∨ j ≠ 0) → (tag b ≠ 19 ∨ j ≠ 1) → (tag b ≠ 23 ∨ j ≠ 2) → (tag b ≠ 23 ∨ j ≠ 3) → (tag b ≠ 26 ∨ j ≠ 13) → fld F b j = fld Fo b j := fun b j n19_0 n19_1 n23_2 n23_3 n26_13 => (yz50769 b j n26_13).trans (hfr b j n19_0 n19_1 n23_2 n23_3 n26_13)
      exact t_iret hQ X hT (⟨rg_all _, hfr⟩) (Nat.le_of_ble_eq_true rfl) (Nat.le_of_ble_eq_true rfl) dX11_take_33
  · have w50770 := cv_eq (rfl : z50735.toInt = z50735.toInt) (by decide : (0 : Int32).toInt = 0) c50736
    refine lv_aload_n hx hb dX11_take_8 rfl (lv_at hl 0 rfl) ?_
    refine lv_iconst (v := 1) hx hb dX11_take_9 (by decide) ?_
    refine t_cVi (n := 1) (C := RX11) (T := TX11) (N := 16) (As := [.int 1]) (rest := []) X hT (kt63_X11_refuse l G tag L F hT.2.2.2 p0 1 m0 g0) m0 g0 rfl rfl qw_152 qw_153 qw_154 qw_2 qw_155 ⟨rfl, by decide +kernel, by decide +kernel, by decide +kernel⟩ ⟨Nat.le_of_ble_eq_true rfl, Nat.le_of_ble_eq_true rfl⟩ hl rfl rfl (Nat.le_of_ble_eq_true rfl) dX11_take_10 ⟨Nat.le_of_ble_eq_true rfl, Nat.le_of_ble_eq_true rfl⟩ (fun z50771 F H locs hT hz50771 => ?_)
    obtain ⟨hz50771, yz50771⟩ := hz50771
    have hfr : ∀ b j : Nat, (tag b ≠ 19 ∨ j ≠ 0) → (tag b ≠ 19 ∨ j ≠ 1) → (tag b ≠ 23 ∨ j ≠ 2) → (tag b ≠ 23 ∨ j ≠ 3) → (tag b ≠ 26 ∨ j ≠ 13) → fld F b j = fld Fo b j := fun b j n19_0 n19_1 n23_2 n23_3 n26_13 => (yz50771 b j n26_13).trans (hfr b j n19_0 n19_1 n23_2 n23_3 n26_13)
    exact t_iret hQ X hT (⟨rg_all _, hfr⟩) (Nat.le_of_ble_eq_true rfl) (Nat.le_of_ble_eq_true rfl) dX11_take_13
set_option maxHeartbeats 4000000 in
set_option maxRecDepth 100000 in
theorem kt132_X11_takes (l : Launch) (G : KG) (tag : Nat → Nat) (L : List Nat) (Fo : Nat → va_E) (ho : okT G ttC tag L Fo) (p0 : Nat) (p1 : Int32) (m0 : p0 ∈ L) (g0 : tag p0 = 26) : TMi l yX11_takes cX11_takes 3 (some .int) { frames := 3, cells := 0, slots := 0, locals := 68 } G ttC tag L Fo [.ref p0, .int p1] (fun r F1 => ((-2147483648) ≤ r.toInt ∧ r.toInt ≤ 2147483647) ∧ (∀ b j : Nat, (tag b ≠ 26 ∨ j ≠ 13) → fld F1 b j = fld Fo b j)) := by
  refine t_bodyi (y := yX11_takes) (cd := cX11_takes) (mL := 3) (rt := (some .int)) (rm := { frames := 3, cells := 0, slots := 0, locals := 68 }) (av := [.ref p0, .int p1]) (by decide) (Nat.le_of_ble_eq_true rfl) ho ?_
  intro p e s m args below meth c ls A Q hQ X hT hl
  have hx := X.1.1
  have hb := X.1.2.1
  have hl : lv_has ls 3 [(0, .ref p0), (1, .int p1)] := hl
  have rp1 := rg_all p1
  obtain ⟨F, hFo⟩ : ∃ F : Nat → va_E, F = Fo := ⟨_, rfl⟩
  rw [← hFo] at hT
  have hfr : ∀ b j : Nat, (tag b ≠ 26 ∨ j ≠ 13) → fld F b j = fld Fo b j := by
    rw [hFo]
    intros
    rfl
  have K39 : ∀ (z50949 : Int32) (z50950 : Int32) (b50951 : Nat) (F : Nat → va_E) (H : Heap) (locs : List Loc) (ls : Array Slot), (0 ≤ z50949.toInt ∧ z50949.toInt ≤ 6) → (b50951 ∈ L) → (tag b50951 = 26) → (0 ≤ p1.toInt ∧ p1.toInt ≤ 3) → TH G ttC A s tag L F H locs → (∀ b j : Nat, (tag b ≠ 26 ∨ j ≠ 13) → fld F b j = fld Fo b j) → lv_has ls 3 [(0, .ref p0), (1, .int p1), (2, .int z50949)] → W p l e { frames := 3, cells := 0, slots := 0, locals := 68 } s m args below meth c H locs 0 0 Q (F0 m 39 ls [.int z50950, .ref b50951]) := by
    intro z50949 z50950 b50951 F H locs ls rz50949 mb50951 gb50951 r9s50948 hT hfr hl
    have rz50950 := rg_all z50950
    refine t_cVi (n := 1) (C := RX11) (T := TX11) (N := 16) (As := [.int z50950]) (rest := []) X hT (kt56_X11_answer l G tag L F hT.2.2.2 b50951 z50950 mb50951 gb50951) mb50951 gb50951 rfl rfl qw_463 qw_464 qw_465 qw_2 qw_466 ⟨rfl, by decide +kernel, by decide +kernel, by decide +kernel⟩ ⟨Nat.le_of_ble_eq_true rfl, Nat.le_of_ble_eq_true rfl⟩ hl rfl rfl (Nat.le_of_ble_eq_true rfl) dX11_takes_39 ⟨Nat.le_of_ble_eq_true rfl, Nat.le_of_ble_eq_true rfl⟩ (fun z50952 F H locs hT hz50952 => ?_)
    obtain ⟨hz50952, yz50952⟩ := hz50952
    have hfr : ∀ b j : Nat, (tag b ≠ 26 ∨ j ≠ 13) → fld F b j = fld Fo b j := fun b j n26_13 => (yz50952 b j n26_13).trans (hfr b j n26_13)
    exact t_iret hQ X hT (⟨rg_all _, hfr⟩) (Nat.le_of_ble_eq_true rfl) (Nat.le_of_ble_eq_true rfl) dX11_takes_42
  refine lv_aload_n hx hb dX11_takes_0 rfl (lv_at hl 0 rfl) ?_
  refine lv_iload_n hx hb dX11_takes_1 rfl (lv_at hl 1 rfl) ?_
  refine t_cVi (n := 1) (C := RX11) (T := TX11) (N := 16) (As := [.int p1]) (rest := []) X hT (kt61_X11_isHouse l G tag L F hT.2.2.2 p0 p1 m0 g0) m0 g0 rfl rfl qw_770 qw_771 qw_772 qw_2 qw_773 ⟨rfl, by decide +kernel, by decide +kernel, by decide +kernel⟩ ⟨Nat.le_of_ble_eq_true rfl, Nat.le_of_ble_eq_true rfl⟩ hl rfl rfl (Nat.le_of_ble_eq_true rfl) dX11_takes_2 ⟨Nat.le_of_ble_eq_true rfl, Nat.le_of_ble_eq_true rfl⟩ (fun z50953 F9 H locs hT hz50953 => ?_)
  obtain ⟨fz50953, hz50953⟩ := hz50953
  rw [fz50953] at hT
  obtain ⟨hz50953, iz50953⟩ := hz50953
  refine lv_if_ne (tgt := 14) hx hb dX11_takes_5 (by decide) (fun c50954 => ?_) (fun c50954 => ?_)
  · have w50955 := cv_ne (rfl : z50953.toInt = z50953.toInt) (by decide : (0 : Int32).toInt = 0) c50954
    have w50956 := (fun h => (iz50953 h)) (by omega)
    refine lv_aload_n hx hb dX11_takes_14 rfl (lv_at hl 0 rfl) ?_
    refine t_get (C := RX11) (T := TX11) (N := 16) X hT m0 g0 rfl rfl 5 (by decide) qw_23 inlX11 rfl dX11_takes_15 (fun v50957 hv50957 ov50957 => ?_)
    obtain ⟨b50958, rfl, mb50958, gb50958⟩ := okV_r ov50957
    have gb50958 : tag b50958 = 19 := tg_of gb50958
    refine lv_iload_n hx hb dX11_takes_18 rfl (lv_at hl 1 rfl) ?_
    refine t_cVi (n := 1) (C := RX7) (T := TX7) (N := 7) (As := [.int p1]) (rest := []) X hT (kt21_X7_inmost l G tag L F hT.2.2.2 b50958 p1 mb50958 gb50958 (by omega)) mb50958 gb50958 rfl rfl qw_1292 qw_1293 qw_1294 qw_22 qw_1295 ⟨rfl, by decide +kernel, by decide +kernel, by decide +kernel⟩ ⟨Nat.le_of_ble_eq_true rfl, Nat.le_of_ble_eq_true rfl⟩ hl rfl rfl (Nat.le_of_ble_eq_true rfl) dX11_takes_19 ⟨Nat.le_of_ble_eq_true rfl, Nat.le_of_ble_eq_true rfl⟩ (fun z50959 F9 H locs hT hz50959 => ?_)
    obtain ⟨fz50959, hz50959⟩ := hz50959
    rw [fz50959] at hT
    refine lv_istore_n (lv' := [(2, .int z50959), (0, .ref p0), (1, .int p1)]) hx hb dX11_takes_22 rfl hl (by decide) rfl (fun ls hl => ?_)
    refine lv_aload_n hx hb dX11_takes_23 rfl (lv_at hl 1 rfl) ?_
    refine lv_iload_n hx hb dX11_takes_24 rfl (lv_at hl 0 rfl) ?_
    refine lv_if_ne (tgt := 33) hx hb dX11_takes_25 (by decide) (fun c50960 => ?_) (fun c50960 => ?_)
    · have w50961 := cv_ne (rfl : z50959.toInt = z50959.toInt) (by decide : (0 : Int32).toInt = 0) c50960
      refine lv_aload_n hx hb dX11_takes_33 rfl (lv_at hl 1 rfl) ?_
      refine lv_iload_n hx hb dX11_takes_34 rfl (lv_at hl 2 rfl) ?_
      refine lv_iload_n hx hb dX11_takes_35 rfl (lv_at hl 0 rfl) ?_
      refine t_cVi (n := 2) (C := RX11) (T := TX11) (N := 16) (As := [.int p1, .int z50959]) (rest := [.ref p0]) X hT (kt84_X11_goldIn l G tag L F hT.2.2.2 p0 p1 z50959 m0 g0) m0 g0 rfl rfl qw_1296 qw_1297 qw_1298 qw_2 qw_1299 ⟨rfl, by decide +kernel, by decide +kernel, by decide +kernel⟩ ⟨Nat.le_of_ble_eq_true rfl, Nat.le_of_ble_eq_true rfl⟩ hl rfl rfl (Nat.le_of_ble_eq_true rfl) dX11_takes_36 ⟨Nat.le_of_ble_eq_true rfl, Nat.le_of_ble_eq_true rfl⟩ (fun z50962 F9 H locs hT hz50962 => ?_)
      obtain ⟨fz50962, hz50962⟩ := hz50962
      rw [fz50962] at hT
      exact K39 z50959 z50962 p0 _ _ _ _ (by omega) m0 g0 (by omega) hT hfr  (lv_sub hl [1, 2, 0] rfl)
    · have w50963 := cv_eq (rfl : z50959.toInt = z50959.toInt) (by decide : (0 : Int32).toInt = 0) c50960
      refine lv_bipush (v := (-2)) hx hb dX11_takes_28 (by decide) ?_
      refine lv_goto (tgt := 39) hx hb dX11_takes_30 (by decide) ?_
      exact K39 z50959 (-2) p0 _ _ _ _ (by omega) m0 g0 (by omega) hT hfr  (lv_sub hl [1, 2, 0] rfl)
  · have w50964 := cv_eq (rfl : z50953.toInt = z50953.toInt) (by decide : (0 : Int32).toInt = 0) c50954
    refine lv_aload_n hx hb dX11_takes_8 rfl (lv_at hl 0 rfl) ?_
    refine lv_iconst (v := 1) hx hb dX11_takes_9 (by decide) ?_
    refine t_cVi (n := 1) (C := RX11) (T := TX11) (N := 16) (As := [.int 1]) (rest := []) X hT (kt63_X11_refuse l G tag L F hT.2.2.2 p0 1 m0 g0) m0 g0 rfl rfl qw_152 qw_153 qw_154 qw_2 qw_155 ⟨rfl, by decide +kernel, by decide +kernel, by decide +kernel⟩ ⟨Nat.le_of_ble_eq_true rfl, Nat.le_of_ble_eq_true rfl⟩ hl rfl rfl (Nat.le_of_ble_eq_true rfl) dX11_takes_10 ⟨Nat.le_of_ble_eq_true rfl, Nat.le_of_ble_eq_true rfl⟩ (fun z50965 F H locs hT hz50965 => ?_)
    obtain ⟨hz50965, yz50965⟩ := hz50965
    have hfr : ∀ b j : Nat, (tag b ≠ 26 ∨ j ≠ 13) → fld F b j = fld Fo b j := fun b j n26_13 => (yz50965 b j n26_13).trans (hfr b j n26_13)
    exact t_iret hQ X hT (⟨rg_all _, hfr⟩) (Nat.le_of_ble_eq_true rfl) (Nat.le_of_ble_eq_true rfl) dX11_takes_13
set_option maxHeartbeats 4000000 in
set_option maxRecDepth 100000 in
theorem kt133_X11_through (l : Launch) (G : KG) (tag : Nat → Nat) (L : List Nat) (Fo : Nat → va_E) (ho : okT G ttC tag L Fo) (p0 : Nat) (p1 : Int32) (p2 : Int32) (m0 : p0 ∈ L) (g0 : tag p0 = 26) : TMi l yX11_through cX11_through 3 (some .int) { frames := 6, cells := 0, slots := 0, locals := 149 } G ttC tag L Fo [.ref p0, .int p1, .int p2] (fun r F1 => ((-2147483648) ≤ r.toInt ∧ r.toInt ≤ 2147483647) ∧ (∀ b j : Nat, (tag b ≠ 21 ∨ j ≠ 0) → (tag b ≠ 21 ∨ j ≠ 1) → (tag b ≠ 26 ∨ j ≠ 13) → fld F1 b j = fld Fo b j)) := by
  refine t_bodyi (y := yX11_through) (cd := cX11_through) (mL := 3) (rt := (some .int)) (rm := { frames := 6, cells := 0, slots := 0, locals := 149 }) (av := [.ref p0, .int p1, .int p2]) (by decide) (Nat.le_of_ble_eq_true rfl) ho ?_
  intro p e s m args below meth c ls A Q hQ X hT hl
  have hx := X.1.1
  have hb := X.1.2.1
  have hl : lv_has ls 3 [(0, .ref p0), (1, .int p1), (2, .int p2)] := hl
  have rp1 := rg_all p1
  have rp2 := rg_all p2
  obtain ⟨F, hFo⟩ : ∃ F : Nat → va_E, F = Fo := ⟨_, rfl⟩
  rw [← hFo] at hT
  have hfr : ∀ b j : Nat, (tag b ≠ 21 ∨ j ≠ 0) → (tag b ≠ 21 ∨ j ≠ 1) → (tag b ≠ 26 ∨ j ≠ 13) → fld F b j = fld Fo b j := by
    rw [hFo]
    intros
    rfl
  refine lv_aload_n hx hb dX11_through_0 rfl (lv_at hl 0 rfl) ?_
  refine lv_iload_n hx hb dX11_through_1 rfl (lv_at hl 1 rfl) ?_
  refine lv_iload_n hx hb dX11_through_2 rfl (lv_at hl 2 rfl) ?_
  refine t_cVi (n := 2) (C := RX11) (T := TX11) (N := 16) (As := [.int p1, .int p2]) (rest := []) X hT (kt62_X11_isRoom l G tag L F hT.2.2.2 p0 p1 p2 m0 g0) m0 g0 rfl rfl qw_827 qw_828 qw_829 qw_2 qw_830 ⟨rfl, by decide +kernel, by decide +kernel, by decide +kernel⟩ ⟨Nat.le_of_ble_eq_true rfl, Nat.le_of_ble_eq_true rfl⟩ hl rfl rfl (Nat.le_of_ble_eq_true rfl) dX11_through_3 ⟨Nat.le_of_ble_eq_true rfl, Nat.le_of_ble_eq_true rfl⟩ (fun z51142 F9 H locs hT hz51142 => ?_)
  obtain ⟨fz51142, hz51142⟩ := hz51142
  rw [fz51142] at hT
  obtain ⟨hz51142, iz51142⟩ := hz51142
  refine lv_if_ne (tgt := 15) hx hb dX11_through_6 (by decide) (fun c51143 => ?_) (fun c51143 => ?_)
  · have w51144 := cv_ne (rfl : z51142.toInt = z51142.toInt) (by decide : (0 : Int32).toInt = 0) c51143
    have w51145 := (fun h => (iz51142 h).1) (by omega)
    have w51146 := (fun h => (iz51142 h).2) (by omega)
    refine lv_aload_n hx hb dX11_through_15 rfl (lv_at hl 0 rfl) ?_
    refine lv_aload_n hx hb dX11_through_16 rfl (lv_at hl 0 rfl) ?_
    refine t_get (C := RX11) (T := TX11) (N := 16) X hT m0 g0 rfl rfl 10 (by decide) qw_37 inlX11 rfl dX11_through_17 (fun v51147 hv51147 ov51147 => ?_)
    obtain ⟨b51148, rfl, mb51148, gb51148⟩ := okV_r ov51147
    have gb51148 : tag b51148 = 21 := tg_of gb51148
    refine lv_aload_n hx hb dX11_through_20 rfl (lv_at hl 0 rfl) ?_
    refine t_get (C := RX11) (T := TX11) (N := 16) X hT m0 g0 rfl rfl 3 (by decide) qw_18 inlX11 rfl dX11_through_21 (fun v51149 hv51149 ov51149 => ?_)
    obtain ⟨b51150, rfl, mb51150, gb51150⟩ := okV_r ov51149
    have gb51150 : tag b51150 = 18 := tg_of gb51150
    refine lv_aload_n hx hb dX11_through_24 rfl (lv_at hl 0 rfl) ?_
    refine t_get (C := RX11) (T := TX11) (N := 16) X hT m0 g0 rfl rfl 5 (by decide) qw_23 inlX11 rfl dX11_through_25 (fun v51151 hv51151 ov51151 => ?_)
    obtain ⟨b51152, rfl, mb51152, gb51152⟩ := okV_r ov51151
    have gb51152 : tag b51152 = 19 := tg_of gb51152
    refine lv_iload_n hx hb dX11_through_28 rfl (lv_at hl 1 rfl) ?_
    refine lv_iload_n hx hb dX11_through_29 rfl (lv_at hl 2 rfl) ?_
    refine t_cVi (n := 4) (C := RX0) (T := TX0) (N := 2) (As := [.ref b51150, .ref b51152, .int p1, .int p2]) (rest := [.ref p0]) X hT (kt41_X0_cheapest l G tag L F hT.2.2.2 b51148 b51150 b51152 p1 p2 mb51148 gb51148 mb51150 gb51150 mb51152 gb51152 (by omega)) mb51148 gb51148 rfl rfl qw_1012 qw_1013 qw_1014 qw_36 qw_1015 ⟨rfl, by decide +kernel, by decide +kernel, by decide +kernel⟩ ⟨Nat.le_of_ble_eq_true rfl, Nat.le_of_ble_eq_true rfl⟩ hl rfl rfl (Nat.le_of_ble_eq_true rfl) dX11_through_30 ⟨Nat.le_of_ble_eq_true rfl, Nat.le_of_ble_eq_true rfl⟩ (fun z51153 F H locs hT hz51153 => ?_)
    obtain ⟨hz51153, yz51153⟩ := hz51153
    have hv51147 := (yz51153 _ 10 (Or.inr (by decide)) (Or.inr (by decide))).trans hv51147
    have hv51149 := (yz51153 _ 3 (Or.inr (by decide)) (Or.inr (by decide))).trans hv51149
    have hv51151 := (yz51153 _ 5 (Or.inr (by decide)) (Or.inr (by decide))).trans hv51151
    have hfr : ∀ b j : Nat, (tag b ≠ 21 ∨ j ≠ 0) → (tag b ≠ 21 ∨ j ≠ 1) → (tag b ≠ 26 ∨ j ≠ 13) → fld F b j = fld Fo b j := fun b j n21_0 n21_1 n26_13 => (yz51153 b j n21_0 n21_1).trans (hfr b j n21_0 n21_1 n26_13)
    refine lv_bipush (v := 8) hx hb dX11_through_33 (by decide) ?_
    refine lv_idiv hx hb dX11_through_35 (by decide) ?_
    refine lv_topi (fun z51154 ez51154 => ?_)
    have rz51154 := rg_all z51154
    refine t_cVi (n := 1) (C := RX11) (T := TX11) (N := 16) (As := [.int z51154]) (rest := []) X hT (kt56_X11_answer l G tag L F hT.2.2.2 p0 z51154 m0 g0) m0 g0 rfl rfl qw_463 qw_464 qw_465 qw_2 qw_466 ⟨rfl, by decide +kernel, by decide +kernel, by decide +kernel⟩ ⟨Nat.le_of_ble_eq_true rfl, Nat.le_of_ble_eq_true rfl⟩ hl rfl rfl (Nat.le_of_ble_eq_true rfl) dX11_through_36 ⟨Nat.le_of_ble_eq_true rfl, Nat.le_of_ble_eq_true rfl⟩ (fun z51155 F H locs hT hz51155 => ?_)
    obtain ⟨hz51155, yz51155⟩ := hz51155
    have hv51147 := (yz51155 _ 10 (Or.inr (by decide))).trans hv51147
    have hv51149 := (yz51155 _ 3 (Or.inr (by decide))).trans hv51149
    have hv51151 := (yz51155 _ 5 (Or.inr (by decide))).trans hv51151
    have hfr : ∀ b j : Nat, (tag b ≠ 21 ∨ j ≠ 0) → (tag b ≠ 21 ∨ j ≠ 1) → (tag b ≠ 26 ∨ j ≠ 13) → fld F b j = fld Fo b j := fun b j n21_0 n21_1 n26_13 => (yz51155 b j n26_13).trans (hfr b j n21_0 n21_1 n26_13)
    exact t_iret hQ X hT (⟨rg_all _, hfr⟩) (Nat.le_of_ble_eq_true rfl) (Nat.le_of_ble_eq_true rfl) dX11_through_39
  · have w51156 := cv_eq (rfl : z51142.toInt = z51142.toInt) (by decide : (0 : Int32).toInt = 0) c51143
    refine lv_aload_n hx hb dX11_through_9 rfl (lv_at hl 0 rfl) ?_
    refine lv_iconst (v := 1) hx hb dX11_through_10 (by decide) ?_
    refine t_cVi (n := 1) (C := RX11) (T := TX11) (N := 16) (As := [.int 1]) (rest := []) X hT (kt63_X11_refuse l G tag L F hT.2.2.2 p0 1 m0 g0) m0 g0 rfl rfl qw_152 qw_153 qw_154 qw_2 qw_155 ⟨rfl, by decide +kernel, by decide +kernel, by decide +kernel⟩ ⟨Nat.le_of_ble_eq_true rfl, Nat.le_of_ble_eq_true rfl⟩ hl rfl rfl (Nat.le_of_ble_eq_true rfl) dX11_through_11 ⟨Nat.le_of_ble_eq_true rfl, Nat.le_of_ble_eq_true rfl⟩ (fun z51157 F H locs hT hz51157 => ?_)
    obtain ⟨hz51157, yz51157⟩ := hz51157
    have hfr : ∀ b j : Nat, (tag b ≠ 21 ∨ j ≠ 0) → (tag b ≠ 21 ∨ j ≠ 1) → (tag b ≠ 26 ∨ j ≠ 13) → fld F b j = fld Fo b j := fun b j n21_0 n21_1 n26_13 => (yz51157 b j n26_13).trans (hfr b j n21_0 n21_1 n26_13)
    exact t_iret hQ X hT (⟨rg_all _, hfr⟩) (Nat.le_of_ble_eq_true rfl) (Nat.le_of_ble_eq_true rfl) dX11_through_14
set_option maxHeartbeats 4000000 in
set_option maxRecDepth 100000 in
theorem kt134_X11_trouble (l : Launch) (G : KG) (tag : Nat → Nat) (L : List Nat) (F : Nat → va_E) (ho : okT G ttC tag L F) (p0 : Nat) (m0 : p0 ∈ L) (g0 : tag p0 = 26) : TMi l yX11_trouble cX11_trouble 1 (some .int) { frames := 0, cells := 0, slots := 0, locals := 0 } G ttC tag L F [.ref p0] (fun r F1 => F1 = F ∧ ((-2147483648) ≤ r.toInt ∧ r.toInt ≤ 2147483647)) := by
  refine t_bodyi (y := yX11_trouble) (cd := cX11_trouble) (mL := 1) (rt := (some .int)) (rm := { frames := 0, cells := 0, slots := 0, locals := 0 }) (av := [.ref p0]) (by decide) (Nat.le_of_ble_eq_true rfl) ho ?_
  intro p e s m args below meth c ls A Q hQ X hT hl
  have hx := X.1.1
  have hb := X.1.2.1
  have hl : lv_has ls 1 [(0, .ref p0)] := hl
  refine lv_aload_n hx hb dX11_trouble_0 rfl (lv_at hl 0 rfl) ?_
  refine t_get (C := RX11) (T := TX11) (N := 16) X hT m0 g0 rfl rfl 13 (by decide) qw_156 inlX11 rfl dX11_trouble_1 (fun v51180 hv51180 ov51180 => ?_)
  obtain ⟨z51181, rfl, rz51181⟩ := okV_i ov51180
  exact t_iret hQ X hT (⟨rfl, rg_all _⟩) (Nat.le_of_ble_eq_true rfl) (Nat.le_of_ble_eq_true rfl) dX11_trouble_4
set_option maxHeartbeats 4000000 in
set_option maxRecDepth 100000 in
theorem kt135_X2_stepBack (l : Launch) (G : KG) (tag : Nat → Nat) (L : List Nat) (Fo : Nat → va_E) (ho : okT G ttC tag L Fo) (p0 : Nat) (p1 : Nat) (m0 : p0 ∈ L) (g0 : tag p0 = 23) (m1 : p1 ∈ L) (g1 : tag p1 = 19) : TMi l yX2_stepBack cX2_stepBack 2 (some .boolean) { frames := 2, cells := 0, slots := 0, locals := 45 } G ttC tag L Fo [.ref p0, .ref p1] (fun r F1 => (0 ≤ r.toInt ∧ r.toInt ≤ 1) ∧ (∀ b j : Nat, (tag b ≠ 19 ∨ j ≠ 0) → (tag b ≠ 19 ∨ j ≠ 1) → (tag b ≠ 23 ∨ j ≠ 3) → fld F1 b j = fld Fo b j)) := by
  refine t_bodyi (y := yX2_stepBack) (cd := cX2_stepBack) (mL := 2) (rt := (some .boolean)) (rm := { frames := 2, cells := 0, slots := 0, locals := 45 }) (av := [.ref p0, .ref p1]) (by decide) (Nat.le_of_ble_eq_true rfl) ho ?_
  intro p e s m args below meth c ls A Q hQ X hT hl
  have hx := X.1.1
  have hb := X.1.2.1
  have hl : lv_has ls 2 [(0, .ref p0), (1, .ref p1)] := hl
  obtain ⟨F, hFo⟩ : ∃ F : Nat → va_E, F = Fo := ⟨_, rfl⟩
  rw [← hFo] at hT
  have hfr : ∀ b j : Nat, (tag b ≠ 19 ∨ j ≠ 0) → (tag b ≠ 19 ∨ j ≠ 1) → (tag b ≠ 23 ∨ j ≠ 3) → fld F b j = fld Fo b j := by
    rw [hFo]
    intros
    rfl
  refine lv_aload_n hx hb dX2_stepBack_0 rfl (lv_at hl 0 rfl) ?_
  refine t_get (C := RX2) (T := TX2) (N := 5) X hT m0 g0 rfl rfl 3 (by decide) qw_461 inlX2 rfl dX2_stepBack_1 (fun v51373 hv51373 ov51373 => ?_)
  obtain ⟨z51374, rfl, rz51374⟩ := okV_i ov51373
  refine lv_if_ne (tgt := 9) hx hb dX2_stepBack_4 (by decide) (fun c51375 => ?_) (fun c51375 => ?_)
  · have w51376 := cv_ne (rfl : z51374.toInt = z51374.toInt) (by decide : (0 : Int32).toInt = 0) c51375
    refine lv_aload_n hx hb dX2_stepBack_9 rfl (lv_at hl 0 rfl) ?_
    refine lv_dup hx hb dX2_stepBack_10 rfl ?_
    refine t_get (C := RX2) (T := TX2) (N := 5) X hT m0 g0 rfl rfl 3 (by decide) qw_461 inlX2 rfl dX2_stepBack_11 (fun v51377 hv51377 ov51377 => ?_)
    obtain rfl : v51377 = .int z51374 := hv51377.symm.trans hv51373
    refine lv_iconst (v := 1) hx hb dX2_stepBack_14 (by decide) ?_
    refine lv_isub hx hb dX2_stepBack_15 ?_
    refine lv_topi (fun z51378 ez51378 => ?_)
    have hz51378 : z51378.toInt = z51374.toInt - 1 := ar_sub ez51378 (rfl : z51374.toInt = z51374.toInt) (by decide : (1 : Int32).toInt = 1) (by omega) (by omega)
    have rz51378 : 0 ≤ z51378.toInt ∧ z51378.toInt ≤ 9 := by omega
    refine t_put (C := RX2) (T := TX2) (N := 5) (v := .int z51378) X hT m0 g0 rfl tyX2 tyX2_ok nmX2 rfl 3 (by decide) qw_461 inlX2 rfl (by first | rfl | decide) (by first | rfl | decide) rfl (⟨_, rfl, (show 0 ≤ (z51378 : Int32).toInt from (by omega)), (show (z51378 : Int32).toInt ≤ 10 from (by omega))⟩) dX2_stepBack_16 (fun F H locs hT v51379 h1v51379 h2v51379 => ?_)
    have hfr : ∀ b j : Nat, (tag b ≠ 19 ∨ j ≠ 0) → (tag b ≠ 19 ∨ j ≠ 1) → (tag b ≠ 23 ∨ j ≠ 3) → fld F b j = fld Fo b j := fun b j n19_0 n19_1 n23_3 => (h1v51379 b j (fr_ne g0 n23_3)).trans (hfr b j n19_0 n19_1 n23_3)
    refine lv_aload_n hx hb dX2_stepBack_19 rfl (lv_at hl 1 rfl) ?_
    refine lv_aload_n hx hb dX2_stepBack_20 rfl (lv_at hl 0 rfl) ?_
    refine t_get (C := RX2) (T := TX2) (N := 5) X hT m0 g0 rfl rfl 0 (by decide) qw_103 inlX2 rfl dX2_stepBack_21 (fun v51380 hv51380 ov51380 => ?_)
    obtain ⟨b51381, rfl, mb51381, gb51381⟩ := okV_r ov51380
    have gb51381 : tag b51381 = 16 := tg_of gb51381
    refine lv_aload_n hx hb dX2_stepBack_24 rfl (lv_at hl 0 rfl) ?_
    refine t_get (C := RX2) (T := TX2) (N := 5) X hT m0 g0 rfl rfl 2 (by decide) qw_1431 inlX2 rfl dX2_stepBack_25 (fun v51382 hv51382 ov51382 => ?_)
    obtain ⟨z51383, rfl, rz51383⟩ := okV_i ov51382
    refine lv_aload_n hx hb dX2_stepBack_28 rfl (lv_at hl 0 rfl) ?_
    refine t_get (C := RX2) (T := TX2) (N := 5) X hT m0 g0 rfl rfl 3 (by decide) qw_461 inlX2 rfl dX2_stepBack_29 (fun v51384 hv51384 ov51384 => ?_)
    obtain rfl : v51384 = .int z51378 := hv51384.symm.trans v51379
    refine lv_iadd hx hb dX2_stepBack_32 ?_
    refine lv_topi (fun z51385 ez51385 => ?_)
    have hz51385 : z51385.toInt = z51383.toInt + z51378.toInt := ar_add ez51385 (rfl : z51383.toInt = z51383.toInt) (rfl : z51378.toInt = z51378.toInt) (by omega) (by omega)
    have rz51385 : 0 ≤ z51385.toInt ∧ z51385.toInt ≤ 18 := by omega
    refine lv_bipush (v := 10) hx hb dX2_stepBack_33 (by decide) ?_
    refine lv_irem hx hb dX2_stepBack_35 (by decide) ?_
    refine lv_topi (fun z51386 ez51386 => ?_)
    have hz51386 : z51386.toInt = z51385.toInt % 10 := ar_rem ez51386 (rfl : z51385.toInt = z51385.toInt) (by decide : (10 : Int32).toInt = 10) (by omega) (by omega)
    have rz51386 : 0 ≤ z51386.toInt ∧ z51386.toInt ≤ 9 := by omega
    refine t_ald X hT mb51381 gb51381 rfl (by omega) dX2_stepBack_36 (fun b51387 mb51387 gb51387 => ?_)
    have gb51387 : tag b51387 = 19 := tg_of gb51387
    refine t_cVv (n := 1) (C := RX7) (T := TX7) (N := 7) (As := [.ref b51387]) (rest := []) X hT (kt49_X7_copyFrom l G tag L F hT.2.2.2 p1 b51387 m1 g1 mb51387 gb51387) m1 g1 rfl rfl qw_1432 qw_450 qw_451 qw_22 qw_452 ⟨rfl, by decide +kernel, by decide +kernel, by decide +kernel⟩ ⟨Nat.le_of_ble_eq_true rfl, Nat.le_of_ble_eq_true rfl⟩ hl rfl rfl (Nat.le_of_ble_eq_true rfl) dX2_stepBack_37 ⟨Nat.le_of_ble_eq_true rfl, Nat.le_of_ble_eq_true rfl⟩ (fun F H locs hT hz51388 => ?_)
    have yz51388 := hz51388
    have v51379 := (yz51388 _ 3 (Or.inr (by decide)) (Or.inr (by decide))).trans v51379
    have hv51380 := (yz51388 _ 0 (Or.inl (by rw [g0]; decide)) (Or.inr (by decide))).trans hv51380
    have hv51382 := (yz51388 _ 2 (Or.inr (by decide)) (Or.inr (by decide))).trans hv51382
    have hfr : ∀ b j : Nat, (tag b ≠ 19 ∨ j ≠ 0) → (tag b ≠ 19 ∨ j ≠ 1) → (tag b ≠ 23 ∨ j ≠ 3) → fld F b j = fld Fo b j := fun b j n19_0 n19_1 n23_3 => (yz51388 b j n19_0 n19_1).trans (hfr b j n19_0 n19_1 n23_3)
    refine lv_iconst (v := 1) hx hb dX2_stepBack_40 (by decide) ?_
    exact t_zret hQ X hT (by decide) (⟨(by decide), hfr⟩) (Nat.le_of_ble_eq_true rfl) (Nat.le_of_ble_eq_true rfl) dX2_stepBack_41
  · have w51389 := cv_eq (rfl : z51374.toInt = z51374.toInt) (by decide : (0 : Int32).toInt = 0) c51375
    refine lv_iconst (v := 0) hx hb dX2_stepBack_7 (by decide) ?_
    exact t_zret hQ X hT (by decide) (⟨(by decide), hfr⟩) (Nat.le_of_ble_eq_true rfl) (Nat.le_of_ble_eq_true rfl) dX2_stepBack_8
set_option maxHeartbeats 4000000 in
set_option maxRecDepth 100000 in
theorem kt136_X11_undo (l : Launch) (G : KG) (tag : Nat → Nat) (L : List Nat) (Fo : Nat → va_E) (ho : okT G ttC tag L Fo) (p0 : Nat) (m0 : p0 ∈ L) (g0 : tag p0 = 26) : TMi l yX11_undo cX11_undo 1 (some .boolean) { frames := 3, cells := 0, slots := 0, locals := 66 } G ttC tag L Fo [.ref p0] (fun r F1 => (0 ≤ r.toInt ∧ r.toInt ≤ 1) ∧ (∀ b j : Nat, (tag b ≠ 19 ∨ j ≠ 0) → (tag b ≠ 19 ∨ j ≠ 1) → (tag b ≠ 23 ∨ j ≠ 3) → (tag b ≠ 26 ∨ j ≠ 13) → fld F1 b j = fld Fo b j)) := by
  refine t_bodyi (y := yX11_undo) (cd := cX11_undo) (mL := 1) (rt := (some .boolean)) (rm := { frames := 3, cells := 0, slots := 0, locals := 66 }) (av := [.ref p0]) (by decide) (Nat.le_of_ble_eq_true rfl) ho ?_
  intro p e s m args below meth c ls A Q hQ X hT hl
  have hx := X.1.1
  have hb := X.1.2.1
  have hl : lv_has ls 1 [(0, .ref p0)] := hl
  obtain ⟨F, hFo⟩ : ∃ F : Nat → va_E, F = Fo := ⟨_, rfl⟩
  rw [← hFo] at hT
  have hfr : ∀ b j : Nat, (tag b ≠ 19 ∨ j ≠ 0) → (tag b ≠ 19 ∨ j ≠ 1) → (tag b ≠ 23 ∨ j ≠ 3) → (tag b ≠ 26 ∨ j ≠ 13) → fld F b j = fld Fo b j := by
    rw [hFo]
    intros
    rfl
  refine lv_aload_n hx hb dX11_undo_0 rfl (lv_at hl 0 rfl) ?_
  refine t_get (C := RX11) (T := TX11) (N := 16) X hT m0 g0 rfl rfl 12 (by decide) qw_45 inlX11 rfl dX11_undo_1 (fun v51496 hv51496 ov51496 => ?_)
  obtain ⟨b51497, rfl, mb51497, gb51497⟩ := okV_r ov51496
  have gb51497 : tag b51497 = 23 := tg_of gb51497
  refine lv_aload_n hx hb dX11_undo_4 rfl (lv_at hl 0 rfl) ?_
  refine t_get (C := RX11) (T := TX11) (N := 16) X hT m0 g0 rfl rfl 5 (by decide) qw_23 inlX11 rfl dX11_undo_5 (fun v51498 hv51498 ov51498 => ?_)
  obtain ⟨b51499, rfl, mb51499, gb51499⟩ := okV_r ov51498
  have gb51499 : tag b51499 = 19 := tg_of gb51499
  refine t_cVi (n := 1) (C := RX2) (T := TX2) (N := 5) (As := [.ref b51499]) (rest := []) X hT (kt135_X2_stepBack l G tag L F hT.2.2.2 b51497 b51499 mb51497 gb51497 mb51499 gb51499) mb51497 gb51497 rfl rfl qw_1521 qw_1522 qw_1523 qw_44 qw_1524 ⟨rfl, by decide +kernel, by decide +kernel, by decide +kernel⟩ ⟨Nat.le_of_ble_eq_true rfl, Nat.le_of_ble_eq_true rfl⟩ hl rfl rfl (Nat.le_of_ble_eq_true rfl) dX11_undo_8 ⟨Nat.le_of_ble_eq_true rfl, Nat.le_of_ble_eq_true rfl⟩ (fun z51500 F H locs hT hz51500 => ?_)
  obtain ⟨hz51500, yz51500⟩ := hz51500
  have hv51496 := (yz51500 _ 12 (Or.inr (by decide)) (Or.inr (by decide)) (Or.inr (by decide))).trans hv51496
  have hv51498 := (yz51500 _ 5 (Or.inr (by decide)) (Or.inr (by decide)) (Or.inr (by decide))).trans hv51498
  have hfr : ∀ b j : Nat, (tag b ≠ 19 ∨ j ≠ 0) → (tag b ≠ 19 ∨ j ≠ 1) → (tag b ≠ 23 ∨ j ≠ 3) → (tag b ≠ 26 ∨ j ≠ 13) → fld F b j = fld Fo b j := fun b j n19_0 n19_1 n23_3 n26_13 => (yz51500 b j n19_0 n19_1 n23_3).trans (hfr b j n19_0 n19_1 n23_3 n26_13)
  refine lv_if_eq (tgt := 21) hx hb dX11_undo_11 (by decide) (fun c51501 => ?_) (fun c51501 => ?_)
  · have w51502 := cv_eq (rfl : z51500.toInt = z51500.toInt) (by decide : (0 : Int32).toInt = 0) c51501
    refine lv_aload_n hx hb dX11_undo_21 rfl (lv_at hl 0 rfl) ?_
    refine lv_bipush (v := 6) hx hb dX11_undo_22 (by decide) ?_
    refine t_cVi (n := 1) (C := RX11) (T := TX11) (N := 16) (As := [.int 6]) (rest := []) X hT (kt58_X11_no l G tag L F hT.2.2.2 p0 6 m0 g0) m0 g0 rfl rfl qw_1454 qw_1455 qw_1456 qw_2 qw_1457 ⟨rfl, by decide +kernel, by decide +kernel, by decide +kernel⟩ ⟨Nat.le_of_ble_eq_true rfl, Nat.le_of_ble_eq_true rfl⟩ hl rfl rfl (Nat.le_of_ble_eq_true rfl) dX11_undo_24 ⟨Nat.le_of_ble_eq_true rfl, Nat.le_of_ble_eq_true rfl⟩ (fun z51503 F H locs hT hz51503 => ?_)
    obtain ⟨hz51503, yz51503⟩ := hz51503
    have hv51496 := (yz51503 _ 12 (Or.inr (by decide))).trans hv51496
    have hv51498 := (yz51503 _ 5 (Or.inr (by decide))).trans hv51498
    have hfr : ∀ b j : Nat, (tag b ≠ 19 ∨ j ≠ 0) → (tag b ≠ 19 ∨ j ≠ 1) → (tag b ≠ 23 ∨ j ≠ 3) → (tag b ≠ 26 ∨ j ≠ 13) → fld F b j = fld Fo b j := fun b j n19_0 n19_1 n23_3 n26_13 => (yz51503 b j n26_13).trans (hfr b j n19_0 n19_1 n23_3 n26_13)
    exact t_zret hQ X hT (nar_z (by omega)) (⟨(by omega), hfr⟩) (Nat.le_of_ble_eq_true rfl) (Nat.le_of_ble_eq_true rfl) dX11_undo_27
  · have w51504 := cv_ne (rfl : z51500.toInt = z51500.toInt) (by decide : (0 : Int32).toInt = 0) c51501
    refine lv_aload_n hx hb dX11_undo_14 rfl (lv_at hl 0 rfl) ?_
    refine t_cVi (n := 0) (C := RX11) (T := TX11) (N := 16) (As := []) (rest := []) X hT (kt59_X11_yes l G tag L F hT.2.2.2 p0 m0 g0) m0 g0 rfl rfl qw_1460 qw_1461 qw_1462 qw_2 qw_1463 ⟨rfl, by decide +kernel, by decide +kernel, by decide +kernel⟩ ⟨Nat.le_of_ble_eq_true rfl, Nat.le_of_ble_eq_true rfl⟩ hl rfl rfl (Nat.le_of_ble_eq_true rfl) dX11_undo_15 ⟨Nat.le_of_ble_eq_true rfl, Nat.le_of_ble_eq_true rfl⟩ (fun z51505 F H locs hT hz51505 => ?_)
    obtain ⟨hz51505, yz51505⟩ := hz51505
    have hv51496 := (yz51505 _ 12 (Or.inr (by decide))).trans hv51496
    have hv51498 := (yz51505 _ 5 (Or.inr (by decide))).trans hv51498
    have hfr : ∀ b j : Nat, (tag b ≠ 19 ∨ j ≠ 0) → (tag b ≠ 19 ∨ j ≠ 1) → (tag b ≠ 23 ∨ j ≠ 3) → (tag b ≠ 26 ∨ j ≠ 13) → fld F b j = fld Fo b j := fun b j n19_0 n19_1 n23_3 n26_13 => (yz51505 b j n26_13).trans (hfr b j n19_0 n19_1 n23_3 n26_13)
    refine lv_goto (tgt := 27) hx hb dX11_undo_18 (by decide) ?_
    exact t_zret hQ X hT (nar_z (by omega)) (⟨(by omega), hfr⟩) (Nat.le_of_ble_eq_true rfl) (Nat.le_of_ble_eq_true rfl) dX11_undo_27
set_option maxHeartbeats 4000000 in
set_option maxRecDepth 100000 in
theorem kt137_X11_warm (l : Launch) (G : KG) (tag : Nat → Nat) (L : List Nat) (Fo : Nat → va_E) (ho : okT G ttC tag L Fo) (p0 : Nat) (p1 : Int32) (p2 : Int32) (m0 : p0 ∈ L) (g0 : tag p0 = 26) : TMi l yX11_warm cX11_warm 3 (some .int) { frames := 3, cells := 0, slots := 0, locals := 70 } G ttC tag L Fo [.ref p0, .int p1, .int p2] (fun r F1 => ((-2147483648) ≤ r.toInt ∧ r.toInt ≤ 2147483647) ∧ (∀ b j : Nat, (tag b ≠ 26 ∨ j ≠ 13) → fld F1 b j = fld Fo b j)) := by
  refine t_bodyi (y := yX11_warm) (cd := cX11_warm) (mL := 3) (rt := (some .int)) (rm := { frames := 3, cells := 0, slots := 0, locals := 70 }) (av := [.ref p0, .int p1, .int p2]) (by decide) (Nat.le_of_ble_eq_true rfl) ho ?_
  intro p e s m args below meth c ls A Q hQ X hT hl
  have hx := X.1.1
  have hb := X.1.2.1
  have hl : lv_has ls 3 [(0, .ref p0), (1, .int p1), (2, .int p2)] := hl
  have rp1 := rg_all p1
  have rp2 := rg_all p2
  obtain ⟨F, hFo⟩ : ∃ F : Nat → va_E, F = Fo := ⟨_, rfl⟩
  rw [← hFo] at hT
  have hfr : ∀ b j : Nat, (tag b ≠ 26 ∨ j ≠ 13) → fld F b j = fld Fo b j := by
    rw [hFo]
    intros
    rfl
  refine lv_aload_n hx hb dX11_warm_0 rfl (lv_at hl 0 rfl) ?_
  refine lv_iload_n hx hb dX11_warm_1 rfl (lv_at hl 1 rfl) ?_
  refine lv_iload_n hx hb dX11_warm_2 rfl (lv_at hl 2 rfl) ?_
  refine t_cVi (n := 2) (C := RX11) (T := TX11) (N := 16) (As := [.int p1, .int p2]) (rest := []) X hT (kt62_X11_isRoom l G tag L F hT.2.2.2 p0 p1 p2 m0 g0) m0 g0 rfl rfl qw_827 qw_828 qw_829 qw_2 qw_830 ⟨rfl, by decide +kernel, by decide +kernel, by decide +kernel⟩ ⟨Nat.le_of_ble_eq_true rfl, Nat.le_of_ble_eq_true rfl⟩ hl rfl rfl (Nat.le_of_ble_eq_true rfl) dX11_warm_3 ⟨Nat.le_of_ble_eq_true rfl, Nat.le_of_ble_eq_true rfl⟩ (fun z51605 F9 H locs hT hz51605 => ?_)
  obtain ⟨fz51605, hz51605⟩ := hz51605
  rw [fz51605] at hT
  obtain ⟨hz51605, iz51605⟩ := hz51605
  refine lv_if_ne (tgt := 15) hx hb dX11_warm_6 (by decide) (fun c51606 => ?_) (fun c51606 => ?_)
  · have w51607 := cv_ne (rfl : z51605.toInt = z51605.toInt) (by decide : (0 : Int32).toInt = 0) c51606
    have w51608 := (fun h => (iz51605 h).1) (by omega)
    have w51609 := (fun h => (iz51605 h).2) (by omega)
    refine lv_aload_n hx hb dX11_warm_15 rfl (lv_at hl 0 rfl) ?_
    refine lv_aload_n hx hb dX11_warm_16 rfl (lv_at hl 0 rfl) ?_
    refine lv_iload_n hx hb dX11_warm_17 rfl (lv_at hl 1 rfl) ?_
    refine lv_iload_n hx hb dX11_warm_18 rfl (lv_at hl 2 rfl) ?_
    refine t_cVi (n := 2) (C := RX11) (T := TX11) (N := 16) (As := [.int p1, .int p2]) (rest := [.ref p0]) X hT (kt87_X11_warmth l G tag L F hT.2.2.2 p0 p1 p2 m0 g0 (by omega)) m0 g0 rfl rfl qw_844 qw_845 qw_846 qw_2 qw_847 ⟨rfl, by decide +kernel, by decide +kernel, by decide +kernel⟩ ⟨Nat.le_of_ble_eq_true rfl, Nat.le_of_ble_eq_true rfl⟩ hl rfl rfl (Nat.le_of_ble_eq_true rfl) dX11_warm_19 ⟨Nat.le_of_ble_eq_true rfl, Nat.le_of_ble_eq_true rfl⟩ (fun z51610 F9 H locs hT hz51610 => ?_)
    obtain ⟨fz51610, hz51610⟩ := hz51610
    rw [fz51610] at hT
    refine t_cVi (n := 1) (C := RX11) (T := TX11) (N := 16) (As := [.int z51610]) (rest := []) X hT (kt56_X11_answer l G tag L F hT.2.2.2 p0 z51610 m0 g0) m0 g0 rfl rfl qw_463 qw_464 qw_465 qw_2 qw_466 ⟨rfl, by decide +kernel, by decide +kernel, by decide +kernel⟩ ⟨Nat.le_of_ble_eq_true rfl, Nat.le_of_ble_eq_true rfl⟩ hl rfl rfl (Nat.le_of_ble_eq_true rfl) dX11_warm_22 ⟨Nat.le_of_ble_eq_true rfl, Nat.le_of_ble_eq_true rfl⟩ (fun z51611 F H locs hT hz51611 => ?_)
    obtain ⟨hz51611, yz51611⟩ := hz51611
    have hfr : ∀ b j : Nat, (tag b ≠ 26 ∨ j ≠ 13) → fld F b j = fld Fo b j := fun b j n26_13 => (yz51611 b j n26_13).trans (hfr b j n26_13)
    exact t_iret hQ X hT (⟨rg_all _, hfr⟩) (Nat.le_of_ble_eq_true rfl) (Nat.le_of_ble_eq_true rfl) dX11_warm_25
  · have w51612 := cv_eq (rfl : z51605.toInt = z51605.toInt) (by decide : (0 : Int32).toInt = 0) c51606
    refine lv_aload_n hx hb dX11_warm_9 rfl (lv_at hl 0 rfl) ?_
    refine lv_iconst (v := 1) hx hb dX11_warm_10 (by decide) ?_
    refine t_cVi (n := 1) (C := RX11) (T := TX11) (N := 16) (As := [.int 1]) (rest := []) X hT (kt63_X11_refuse l G tag L F hT.2.2.2 p0 1 m0 g0) m0 g0 rfl rfl qw_152 qw_153 qw_154 qw_2 qw_155 ⟨rfl, by decide +kernel, by decide +kernel, by decide +kernel⟩ ⟨Nat.le_of_ble_eq_true rfl, Nat.le_of_ble_eq_true rfl⟩ hl rfl rfl (Nat.le_of_ble_eq_true rfl) dX11_warm_11 ⟨Nat.le_of_ble_eq_true rfl, Nat.le_of_ble_eq_true rfl⟩ (fun z51613 F H locs hT hz51613 => ?_)
    obtain ⟨hz51613, yz51613⟩ := hz51613
    have hfr : ∀ b j : Nat, (tag b ≠ 26 ∨ j ≠ 13) → fld F b j = fld Fo b j := fun b j n26_13 => (yz51613 b j n26_13).trans (hfr b j n26_13)
    exact t_iret hQ X hT (⟨rg_all _, hfr⟩) (Nat.le_of_ble_eq_true rfl) (Nat.le_of_ble_eq_true rfl) dX11_warm_14
