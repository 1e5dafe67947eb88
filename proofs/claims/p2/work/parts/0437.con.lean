set_option maxHeartbeats 4000000 in
set_option maxRecDepth 100000 in
theorem km263_X13_led (l : Launch) (G : KG) (tag : Nat → Nat) (L : List Nat) (Fo : Nat → va_E) (ho : okT G ttC tag L Fo) (p0 : Nat) (p1 : Int32) (m0 : p0 ∈ L) (g0 : tag p0 = 46) (pf0 : fld Fo p0 3 = .null) : TMi l yX13_led cX13_led 4 (some .int) { frames := 5, cells := 0, slots := 0, locals := 121 } G ttC tag L Fo [.ref p0, .int p1] (fun r F1 => ((-2147483648) ≤ r.toInt ∧ r.toInt ≤ 2147483647) ∧ ((∀ b j : Nat, (tag b ≠ 46 ∨ j ≠ 0) → fld F1 b j = fld Fo b j) ∧ (∀ b j : Nat, elm F1 b j = elm Fo b j))) := by
  refine t_bodyi (y := yX13_led) (cd := cX13_led) (mL := 4) (rt := (some .int)) (rm := { frames := 5, cells := 0, slots := 0, locals := 121 }) (av := [.ref p0, .int p1]) (by decide) (Nat.le_of_ble_eq_true rfl) ho ?_
  intro p e s m args below meth c ls A Q hQ X hT hl
  have hx := X.1.1
  have hb := X.1.2.1
  have hl : lv_has ls 4 [(0, .ref p0), (1, .int p1)] := hl
  have rp1 := rg_all p1
  obtain ⟨F, hFo⟩ : ∃ F : Nat → va_E, F = Fo := ⟨_, rfl⟩
  rw [← hFo] at hT pf0
  have hfr : (∀ b j : Nat, (tag b ≠ 46 ∨ j ≠ 0) → fld F b j = fld Fo b j) ∧ (∀ b j : Nat, elm F b j = elm Fo b j) := by
    rw [hFo]
    exact ⟨by intros; rfl, by intros; rfl⟩
  have K58 : ∀ (z80487 : Int32) (z80488 : Int32) (z80489 : Int32) (F : Nat → va_E) (H : Heap) (locs : List Loc) (ls : Array Slot), (0 ≤ z80487.toInt ∧ z80487.toInt ≤ 0) → (0 ≤ z80488.toInt ∧ z80488.toInt ≤ 0) → (0 ≤ z80489.toInt ∧ z80489.toInt ≤ 0) → TH G ttC A s tag L F H locs → ((∀ b j : Nat, (tag b ≠ 46 ∨ j ≠ 0) → fld F b j = fld Fo b j) ∧ (∀ b j : Nat, elm F b j = elm Fo b j)) → (fld F p0 3 = .null) → (fld F p0 0 = .int z80489) → lv_has ls 4 [(0, .ref p0), (1, .int p1), (2, .int z80487), (3, .int z80488)] → W p l e { frames := 5, cells := 0, slots := 0, locals := 121 } s m args below meth c H locs 0 0 Q (F0 m 58 ls []) := by
    intro z80487 z80488 z80489 F H locs ls rz80487 rz80488 rz80489 hT hfr pf0 qz80489 hl
    refine lv_aload_n hx hb dX13_led_58 rfl (lv_at hl 0 rfl) ?_
    refine lv_iconst (v := 1) hx hb dX13_led_59 (by decide) ?_
    refine t_put (C := RX13) (T := TX13) (N := 37) (v := .int 1) X hT m0 g0 rfl tyX13 tyX13_ok nmX13 rfl 0 (by decide) qw_140 inlX13 rfl (by first | rfl | decide) (by first | rfl | decide) rfl (⟨_, rfl, (show (-2147483648) ≤ (1 : Int32).toInt from (by decide)), (show (1 : Int32).toInt ≤ 2147483647 from (by decide))⟩) dX13_led_60 (fun F H locs hT v80490 h1v80490 h2v80490 => ?_)
    have pf0 := (h1v80490 _ _ (Or.inr (by decide))).trans pf0
    have hfr : (∀ b j : Nat, (tag b ≠ 46 ∨ j ≠ 0) → fld F b j = fld Fo b j) ∧ (∀ b j : Nat, elm F b j = elm Fo b j) := ⟨fun b j n46_0 => (h1v80490 b j (fr_ne g0 n46_0)).trans (hfr.1 b j n46_0), fun b j  => (h2v80490 b j).trans (hfr.2 b j )⟩
    refine lv_iconst (v := 0) hx hb dX13_led_63 (by decide) ?_
    have k80491 : (0 : Int32).toInt = 0 := by decide
    exact t_iret hQ X hT (⟨rg_all _, hfr⟩) (Nat.le_of_ble_eq_true rfl) (Nat.le_of_ble_eq_true rfl) dX13_led_64
  have K9 : ∀ (z80492 : Int32) (z80493 : Int32) (z80494 : Int32) (F : Nat → va_E) (H : Heap) (locs : List Loc) (ls : Array Slot), (0 ≤ z80492.toInt ∧ z80492.toInt ≤ 0) → (0 ≤ z80493.toInt ∧ z80493.toInt ≤ 0) → (0 ≤ z80494.toInt ∧ z80494.toInt ≤ 0) → TH G ttC A s tag L F H locs → ((∀ b j : Nat, (tag b ≠ 46 ∨ j ≠ 0) → fld F b j = fld Fo b j) ∧ (∀ b j : Nat, elm F b j = elm Fo b j)) → (fld F p0 3 = .null) → (fld F p0 0 = .int z80494) → lv_has ls 4 [(0, .ref p0), (1, .int p1), (2, .int z80492), (3, .int z80493)] → W p l e { frames := 5, cells := 0, slots := 0, locals := 121 } s m args below meth c H locs 0 0 Q (F0 m 9 ls []) := by
    intro z80492 z80493 z80494 F H locs ls rz80492 rz80493 rz80494 hT hfr pf0 qz80494 hl
    refine lv_aload_n hx hb dX13_led_9 rfl (lv_at hl 0 rfl) ?_
    refine t_get (C := RX13) (T := TX13) (N := 37) X hT m0 g0 rfl rfl 3 (by decide) qw_481 inlX13 rfl dX13_led_10 (fun v80495 hv80495 ov80495 => ?_)
    obtain rfl : v80495 = .null := hv80495.symm.trans pf0
    refine lv_ifnullN (tgt := 58) hx hb dX13_led_13 (by decide) ?_
    exact K58 z80492 z80493 z80494 _ _ _ _ (by omega) (by omega) (by omega) hT hfr pf0 qz80494 (lv_sub hl [0, 1, 2, 3] rfl)
  refine lv_aload_n hx hb dX13_led_0 rfl (lv_at hl 0 rfl) ?_
  refine lv_iconst (v := 0) hx hb dX13_led_1 (by decide) ?_
  refine t_put (C := RX13) (T := TX13) (N := 37) (v := .int 0) X hT m0 g0 rfl tyX13 tyX13_ok nmX13 rfl 0 (by decide) qw_140 inlX13 rfl (by first | rfl | decide) (by first | rfl | decide) rfl (⟨_, rfl, (show (-2147483648) ≤ (0 : Int32).toInt from (by decide)), (show (0 : Int32).toInt ≤ 2147483647 from (by decide))⟩) dX13_led_2 (fun F H locs hT v80496 h1v80496 h2v80496 => ?_)
  have pf0 := (h1v80496 _ _ (Or.inr (by decide))).trans pf0
  have hfr : (∀ b j : Nat, (tag b ≠ 46 ∨ j ≠ 0) → fld F b j = fld Fo b j) ∧ (∀ b j : Nat, elm F b j = elm Fo b j) := ⟨fun b j n46_0 => (h1v80496 b j (fr_ne g0 n46_0)).trans (hfr.1 b j n46_0), fun b j  => (h2v80496 b j).trans (hfr.2 b j )⟩
  refine lv_iconst (v := 0) hx hb dX13_led_5 (by decide) ?_
  refine lv_istore_n (lv' := [(2, .int 0), (0, .ref p0), (1, .int p1)]) hx hb dX13_led_6 rfl hl (by decide) rfl (fun ls hl => ?_)
  refine lv_iconst (v := 0) hx hb dX13_led_7 (by decide) ?_
  refine lv_istore_n (lv' := [(3, .int 0), (2, .int 0), (0, .ref p0), (1, .int p1)]) hx hb dX13_led_8 rfl hl (by decide) rfl (fun ls hl => ?_)
  have k80497 : (0 : Int32).toInt = 0 := by decide
  have k80498 : (0 : Int32).toInt = 0 := by decide
  have k80499 : (0 : Int32).toInt = 0 := by decide
  exact K9 0 0 0 _ _ _ _ (by decide) (by decide) (by decide) hT hfr pf0 v80496 (lv_sub hl [2, 3, 1, 0] rfl)
theorem kp_X13_led (l : Launch) (G : KG) (tag : Nat → Nat) (L : List Nat) (Fo : Nat → va_E) (ho : okT G ttC tag L Fo) (p0 : Nat) (p1 : Int32) (m0 : p0 ∈ L) (g0 : tag p0 = 46) : TMi l yX13_led cX13_led 4 (some .int) { frames := 5, cells := 0, slots := 0, locals := 121 } G ttC tag L Fo [.ref p0, .int p1] (fun r F1 => ((-2147483648) ≤ r.toInt ∧ r.toInt ≤ 2147483647) ∧ ((∀ b j : Nat, (tag b ≠ 46 ∨ j ≠ 0) → fld F1 b j = fld Fo b j) ∧ (∀ b j : Nat, elm F1 b j = elm Fo b j))) := by
  rcases t_fldn ho m0 g0 rfl 3 rfl with h9 | ⟨b9, h9, m9, t9⟩
  · exact km263_X13_led l G tag L Fo ho p0 p1  m0 g0 h9 
  · exact km262_X13_led l G tag L Fo ho p0 p1 b9  m0 g0 m9 (tg_of t9) h9 
set_option maxHeartbeats 4000000 in
set_option maxRecDepth 100000 in
theorem km265_X13_size (l : Launch) (G : KG) (tag : Nat → Nat) (L : List Nat) (Fo : Nat → va_E) (ho : okT G ttC tag L Fo) (p0 : Nat) (p1 : Int32) (x0 : Nat) (m0 : p0 ∈ L) (g0 : tag p0 = 46) (mx0 : x0 ∈ L) (gx0 : tag x0 = 45) (pf0 : fld Fo p0 3 = .ref x0) : TMi l yX13_size cX13_size 2 (some .int) { frames := 1, cells := 0, slots := 0, locals := 22 } G ttC tag L Fo [.ref p0, .int p1] (fun r F1 => ((-2147483648) ≤ r.toInt ∧ r.toInt ≤ 2147483647) ∧ ((∀ b j : Nat, (tag b ≠ 46 ∨ j ≠ 0) → fld F1 b j = fld Fo b j) ∧ (∀ b j : Nat, elm F1 b j = elm Fo b j))) := by
  refine t_bodyi (y := yX13_size) (cd := cX13_size) (mL := 2) (rt := (some .int)) (rm := { frames := 1, cells := 0, slots := 0, locals := 22 }) (av := [.ref p0, .int p1]) (by decide) (Nat.le_of_ble_eq_true rfl) ho ?_
  intro p e s m args below meth c ls A Q hQ X hT hl
  have hx := X.1.1
  have hb := X.1.2.1
  have hl : lv_has ls 2 [(0, .ref p0), (1, .int p1)] := hl
  have rp1 := rg_all p1
  obtain ⟨F, hFo⟩ : ∃ F : Nat → va_E, F = Fo := ⟨_, rfl⟩
  rw [← hFo] at hT pf0
  have hfr : (∀ b j : Nat, (tag b ≠ 46 ∨ j ≠ 0) → fld F b j = fld Fo b j) ∧ (∀ b j : Nat, elm F b j = elm Fo b j) := by
    rw [hFo]
    exact ⟨by intros; rfl, by intros; rfl⟩
  refine lv_aload_n hx hb dX13_size_0 rfl (lv_at hl 0 rfl) ?_
  refine lv_iconst (v := 0) hx hb dX13_size_1 (by decide) ?_
  refine t_put (C := RX13) (T := TX13) (N := 37) (v := .int 0) X hT m0 g0 rfl tyX13 tyX13_ok nmX13 rfl 0 (by decide) qw_140 inlX13 rfl (by first | rfl | decide) (by first | rfl | decide) rfl (⟨_, rfl, (show (-2147483648) ≤ (0 : Int32).toInt from (by decide)), (show (0 : Int32).toInt ≤ 2147483647 from (by decide))⟩) dX13_size_2 (fun F H locs hT v81457 h1v81457 h2v81457 => ?_)
  have pf0 := (h1v81457 _ _ (Or.inr (by decide))).trans pf0
  have hfr : (∀ b j : Nat, (tag b ≠ 46 ∨ j ≠ 0) → fld F b j = fld Fo b j) ∧ (∀ b j : Nat, elm F b j = elm Fo b j) := ⟨fun b j n46_0 => (h1v81457 b j (fr_ne g0 n46_0)).trans (hfr.1 b j n46_0), fun b j  => (h2v81457 b j).trans (hfr.2 b j )⟩
  refine lv_iload_n hx hb dX13_size_5 rfl (lv_at hl 1 rfl) ?_
  refine lv_bipush (v := 12) hx hb dX13_size_6 (by decide) ?_
  refine lv_icmp_ne (tgt := 16) hx hb dX13_size_8 (by decide) (fun c81458 => ?_) (fun c81458 => ?_)
  · have w81459 := cv_ne (rfl : p1.toInt = p1.toInt) (by decide : (12 : Int32).toInt = 12) c81458
    refine lv_iload_n hx hb dX13_size_16 rfl (lv_at hl 1 rfl) ?_
    refine lv_iconst (v := 0) hx hb dX13_size_17 (by decide) ?_
    refine lv_bipush (v := 11) hx hb dX13_size_18 (by decide) ?_
    refine t_cSi (n := 3) (As := [.int p1, .int 0, .int 11]) (rest := []) X hT (km19_X13_within l G tag L F hT.2.2.2 p1 0 11 ) qw_568 qw_569 qw_5 qw_570 ⟨by decide +kernel, by decide +kernel, by decide +kernel⟩ ⟨Nat.le_of_ble_eq_true rfl, Nat.le_of_ble_eq_true rfl⟩ hl rfl rfl (Nat.le_of_ble_eq_true rfl) dX13_size_20 ⟨Nat.le_of_ble_eq_true rfl, Nat.le_of_ble_eq_true rfl⟩ (fun z81460 F9 H locs hT hz81460 => ?_)
    obtain ⟨fz81460, hz81460, xz81460_0⟩ := hz81460
    rw [fz81460] at hT
    have k81461 : (0 : Int32).toInt = 0 := by decide
    have k81462 : (11 : Int32).toInt = 11 := by decide
    refine lv_if_ne (tgt := 28) hx hb dX13_size_23 (by decide) (fun c81463 => ?_) (fun c81463 => ?_)
    · have w81464 := cv_ne (rfl : z81460.toInt = z81460.toInt) (by decide : (0 : Int32).toInt = 0) c81463
      have w81465 := xz81460_0 (by omega)
      refine lv_aload_n hx hb dX13_size_28 rfl (lv_at hl 0 rfl) ?_
      refine t_get (C := RX13) (T := TX13) (N := 37) X hT m0 g0 rfl rfl 3 (by decide) qw_481 inlX13 rfl dX13_size_29 (fun v81466 hv81466 ov81466 => ?_)
      obtain rfl : v81466 = .ref x0 := hv81466.symm.trans pf0
      refine lv_ifnonnull (tgt := 37) hx hb dX13_size_32 (by decide) ?_
      refine lv_iload_n hx hb dX13_size_37 rfl (lv_at hl 1 rfl) ?_
      by_cases c81467 : p1 = 0
      · have w81468 := cv_eq (rfl : p1.toInt = p1.toInt) (by decide : (0 : Int32).toInt = 0) c81467
        refine lv_tableIn (off := 58) (tgt := 96) hx hb dX13_size_38 (by rw [c81467]; decide) (by rw [c81467]; decide) (by rw [c81467]; decide) (by decide) ?_
        refine lv_aload_n hx hb dX13_size_96 rfl (lv_at hl 0 rfl) ?_
        refine t_get (C := RX13) (T := TX13) (N := 37) X hT m0 g0 rfl rfl 3 (by decide) qw_481 inlX13 rfl dX13_size_97 (fun v81469 hv81469 ov81469 => ?_)
        obtain rfl : v81469 = .ref x0 := hv81469.symm.trans pf0
        refine t_getN (C := RX12) (T := TX12) (N := 31) X hT mx0 gx0 rfl rfl 0 (by decide) (List.mem_of_getElem? (i := 4) rfl) inlX12 rfl dX13_size_100 (fun v81470 hv81470 ov81470 => ?_)
        obtain ⟨z81471, rfl, rz81471⟩ := okV_i ov81470
        exact t_iret hQ X hT (⟨rg_all _, hfr⟩) (Nat.le_of_ble_eq_true rfl) (Nat.le_of_ble_eq_true rfl) dX13_size_103
      have w81472 := cv_ne (rfl : p1.toInt = p1.toInt) (by decide : (0 : Int32).toInt = 0) c81467
      by_cases c81473 : p1 = 1
      · have w81474 := cv_eq (rfl : p1.toInt = p1.toInt) (by decide : (1 : Int32).toInt = 1) c81473
        refine lv_tableIn (off := 66) (tgt := 104) hx hb dX13_size_38 (by rw [c81473]; decide) (by rw [c81473]; decide) (by rw [c81473]; decide) (by decide) ?_
        refine lv_aload_n hx hb dX13_size_104 rfl (lv_at hl 0 rfl) ?_
        refine t_get (C := RX13) (T := TX13) (N := 37) X hT m0 g0 rfl rfl 3 (by decide) qw_481 inlX13 rfl dX13_size_105 (fun v81475 hv81475 ov81475 => ?_)
        obtain rfl : v81475 = .ref x0 := hv81475.symm.trans pf0
        refine t_getN (C := RX12) (T := TX12) (N := 31) X hT mx0 gx0 rfl rfl 1 (by decide) (List.mem_of_getElem? (i := 5) rfl) inlX12 rfl dX13_size_108 (fun v81476 hv81476 ov81476 => ?_)
        obtain ⟨z81477, rfl, rz81477⟩ := okV_i ov81476
        exact t_iret hQ X hT (⟨rg_all _, hfr⟩) (Nat.le_of_ble_eq_true rfl) (Nat.le_of_ble_eq_true rfl) dX13_size_111
      have w81478 := cv_ne (rfl : p1.toInt = p1.toInt) (by decide : (1 : Int32).toInt = 1) c81473
      by_cases c81479 : p1 = 2
      · have w81480 := cv_eq (rfl : p1.toInt = p1.toInt) (by decide : (2 : Int32).toInt = 2) c81479
        refine lv_tableIn (off := 74) (tgt := 112) hx hb dX13_size_38 (by rw [c81479]; decide) (by rw [c81479]; decide) (by rw [c81479]; decide) (by decide) ?_
        refine lv_aload_n hx hb dX13_size_112 rfl (lv_at hl 0 rfl) ?_
        refine t_get (C := RX13) (T := TX13) (N := 37) X hT m0 g0 rfl rfl 3 (by decide) qw_481 inlX13 rfl dX13_size_113 (fun v81481 hv81481 ov81481 => ?_)
        obtain rfl : v81481 = .ref x0 := hv81481.symm.trans pf0
        refine t_getN (C := RX12) (T := TX12) (N := 31) X hT mx0 gx0 rfl rfl 13 (by decide) (List.mem_of_getElem? (i := 17) rfl) inlX12 rfl dX13_size_116 (fun v81482 hv81482 ov81482 => ?_)
        obtain ⟨z81483, rfl, rz81483⟩ := okV_i ov81482
        refine lv_if_eq (tgt := 126) hx hb dX13_size_119 (by decide) (fun c81484 => ?_) (fun c81484 => ?_)
        · have w81485 := cv_eq (rfl : z81483.toInt = z81483.toInt) (by decide : (0 : Int32).toInt = 0) c81484
          refine lv_iconst (v := 0) hx hb dX13_size_126 (by decide) ?_
          have k81486 : (0 : Int32).toInt = 0 := by decide
          exact t_iret hQ X hT (⟨rg_all _, hfr⟩) (Nat.le_of_ble_eq_true rfl) (Nat.le_of_ble_eq_true rfl) dX13_size_127
        · have w81487 := cv_ne (rfl : z81483.toInt = z81483.toInt) (by decide : (0 : Int32).toInt = 0) c81484
          refine lv_iconst (v := 1) hx hb dX13_size_122 (by decide) ?_
          refine lv_goto (tgt := 127) hx hb dX13_size_123 (by decide) ?_
          have k81488 : (1 : Int32).toInt = 1 := by decide
          exact t_iret hQ X hT (⟨rg_all _, hfr⟩) (Nat.le_of_ble_eq_true rfl) (Nat.le_of_ble_eq_true rfl) dX13_size_127
      have w81489 := cv_ne (rfl : p1.toInt = p1.toInt) (by decide : (2 : Int32).toInt = 2) c81479
      by_cases c81490 : p1 = 3
      · have w81491 := cv_eq (rfl : p1.toInt = p1.toInt) (by decide : (3 : Int32).toInt = 3) c81490
        refine lv_tableIn (off := 90) (tgt := 128) hx hb dX13_size_38 (by rw [c81490]; decide) (by rw [c81490]; decide) (by rw [c81490]; decide) (by decide) ?_
        refine lv_aload_n hx hb dX13_size_128 rfl (lv_at hl 0 rfl) ?_
        refine t_get (C := RX13) (T := TX13) (N := 37) X hT m0 g0 rfl rfl 3 (by decide) qw_481 inlX13 rfl dX13_size_129 (fun v81492 hv81492 ov81492 => ?_)
        obtain rfl : v81492 = .ref x0 := hv81492.symm.trans pf0
        refine t_getN (C := RX12) (T := TX12) (N := 31) X hT mx0 gx0 rfl rfl 14 (by decide) (List.mem_of_getElem? (i := 18) rfl) inlX12 rfl dX13_size_132 (fun v81493 hv81493 ov81493 => ?_)
        obtain ⟨z81494, rfl, rz81494⟩ := okV_i ov81493
        refine lv_if_eq (tgt := 142) hx hb dX13_size_135 (by decide) (fun c81495 => ?_) (fun c81495 => ?_)
        · have w81496 := cv_eq (rfl : z81494.toInt = z81494.toInt) (by decide : (0 : Int32).toInt = 0) c81495
          refine lv_iconst (v := 0) hx hb dX13_size_142 (by decide) ?_
          have k81497 : (0 : Int32).toInt = 0 := by decide
          exact t_iret hQ X hT (⟨rg_all _, hfr⟩) (Nat.le_of_ble_eq_true rfl) (Nat.le_of_ble_eq_true rfl) dX13_size_143
        · have w81498 := cv_ne (rfl : z81494.toInt = z81494.toInt) (by decide : (0 : Int32).toInt = 0) c81495
          refine lv_iconst (v := 1) hx hb dX13_size_138 (by decide) ?_
          refine lv_goto (tgt := 143) hx hb dX13_size_139 (by decide) ?_
          have k81499 : (1 : Int32).toInt = 1 := by decide
          exact t_iret hQ X hT (⟨rg_all _, hfr⟩) (Nat.le_of_ble_eq_true rfl) (Nat.le_of_ble_eq_true rfl) dX13_size_143
      have w81500 := cv_ne (rfl : p1.toInt = p1.toInt) (by decide : (3 : Int32).toInt = 3) c81490
      by_cases c81501 : p1 = 4
      · have w81502 := cv_eq (rfl : p1.toInt = p1.toInt) (by decide : (4 : Int32).toInt = 4) c81501
        refine lv_tableIn (off := 106) (tgt := 144) hx hb dX13_size_38 (by rw [c81501]; decide) (by rw [c81501]; decide) (by rw [c81501]; decide) (by decide) ?_
        refine lv_aload_n hx hb dX13_size_144 rfl (lv_at hl 0 rfl) ?_
        refine t_get (C := RX13) (T := TX13) (N := 37) X hT m0 g0 rfl rfl 3 (by decide) qw_481 inlX13 rfl dX13_size_145 (fun v81503 hv81503 ov81503 => ?_)
        obtain rfl : v81503 = .ref x0 := hv81503.symm.trans pf0
        refine t_getN (C := RX12) (T := TX12) (N := 31) X hT mx0 gx0 rfl rfl 7 (by decide) (List.mem_of_getElem? (i := 11) rfl) inlX12 rfl dX13_size_148 (fun v81504 hv81504 ov81504 => ?_)
        obtain ⟨z81505, rfl, rz81505⟩ := okV_i ov81504
        exact t_iret hQ X hT (⟨rg_all _, hfr⟩) (Nat.le_of_ble_eq_true rfl) (Nat.le_of_ble_eq_true rfl) dX13_size_151
      have w81506 := cv_ne (rfl : p1.toInt = p1.toInt) (by decide : (4 : Int32).toInt = 4) c81501
      by_cases c81507 : p1 = 5
      · have w81508 := cv_eq (rfl : p1.toInt = p1.toInt) (by decide : (5 : Int32).toInt = 5) c81507
        refine lv_tableIn (off := 114) (tgt := 152) hx hb dX13_size_38 (by rw [c81507]; decide) (by rw [c81507]; decide) (by rw [c81507]; decide) (by decide) ?_
        refine lv_aload_n hx hb dX13_size_152 rfl (lv_at hl 0 rfl) ?_
        refine t_get (C := RX13) (T := TX13) (N := 37) X hT m0 g0 rfl rfl 3 (by decide) qw_481 inlX13 rfl dX13_size_153 (fun v81509 hv81509 ov81509 => ?_)
        obtain rfl : v81509 = .ref x0 := hv81509.symm.trans pf0
        refine t_getN (C := RX12) (T := TX12) (N := 31) X hT mx0 gx0 rfl rfl 8 (by decide) (List.mem_of_getElem? (i := 12) rfl) inlX12 rfl dX13_size_156 (fun v81510 hv81510 ov81510 => ?_)
        obtain ⟨z81511, rfl, rz81511⟩ := okV_i ov81510
        exact t_iret hQ X hT (⟨rg_all _, hfr⟩) (Nat.le_of_ble_eq_true rfl) (Nat.le_of_ble_eq_true rfl) dX13_size_159
      have w81512 := cv_ne (rfl : p1.toInt = p1.toInt) (by decide : (5 : Int32).toInt = 5) c81507
      by_cases c81513 : p1 = 6
      · have w81514 := cv_eq (rfl : p1.toInt = p1.toInt) (by decide : (6 : Int32).toInt = 6) c81513
        refine lv_tableIn (off := 122) (tgt := 160) hx hb dX13_size_38 (by rw [c81513]; decide) (by rw [c81513]; decide) (by rw [c81513]; decide) (by decide) ?_
        refine lv_aload_n hx hb dX13_size_160 rfl (lv_at hl 0 rfl) ?_
        refine t_get (C := RX13) (T := TX13) (N := 37) X hT m0 g0 rfl rfl 3 (by decide) qw_481 inlX13 rfl dX13_size_161 (fun v81515 hv81515 ov81515 => ?_)
        obtain rfl : v81515 = .ref x0 := hv81515.symm.trans pf0
        refine t_getN (C := RX12) (T := TX12) (N := 31) X hT mx0 gx0 rfl rfl 9 (by decide) (List.mem_of_getElem? (i := 13) rfl) inlX12 rfl dX13_size_164 (fun v81516 hv81516 ov81516 => ?_)
        obtain ⟨z81517, rfl, rz81517⟩ := okV_i ov81516
        exact t_iret hQ X hT (⟨rg_all _, hfr⟩) (Nat.le_of_ble_eq_true rfl) (Nat.le_of_ble_eq_true rfl) dX13_size_167
      have w81518 := cv_ne (rfl : p1.toInt = p1.toInt) (by decide : (6 : Int32).toInt = 6) c81513
      by_cases c81519 : p1 = 7
      · have w81520 := cv_eq (rfl : p1.toInt = p1.toInt) (by decide : (7 : Int32).toInt = 7) c81519
        refine lv_tableIn (off := 130) (tgt := 168) hx hb dX13_size_38 (by rw [c81519]; decide) (by rw [c81519]; decide) (by rw [c81519]; decide) (by decide) ?_
        refine lv_aload_n hx hb dX13_size_168 rfl (lv_at hl 0 rfl) ?_
        refine t_get (C := RX13) (T := TX13) (N := 37) X hT m0 g0 rfl rfl 3 (by decide) qw_481 inlX13 rfl dX13_size_169 (fun v81521 hv81521 ov81521 => ?_)
        obtain rfl : v81521 = .ref x0 := hv81521.symm.trans pf0
        refine t_getN (C := RX12) (T := TX12) (N := 31) X hT mx0 gx0 rfl rfl 10 (by decide) (List.mem_of_getElem? (i := 14) rfl) inlX12 rfl dX13_size_172 (fun v81522 hv81522 ov81522 => ?_)
        obtain ⟨z81523, rfl, rz81523⟩ := okV_i ov81522
        exact t_iret hQ X hT (⟨rg_all _, hfr⟩) (Nat.le_of_ble_eq_true rfl) (Nat.le_of_ble_eq_true rfl) dX13_size_175
      have w81524 := cv_ne (rfl : p1.toInt = p1.toInt) (by decide : (7 : Int32).toInt = 7) c81519
      by_cases c81525 : p1 = 8
      · have w81526 := cv_eq (rfl : p1.toInt = p1.toInt) (by decide : (8 : Int32).toInt = 8) c81525
        refine lv_tableIn (off := 138) (tgt := 176) hx hb dX13_size_38 (by rw [c81525]; decide) (by rw [c81525]; decide) (by rw [c81525]; decide) (by decide) ?_
        refine lv_aload_n hx hb dX13_size_176 rfl (lv_at hl 0 rfl) ?_
        refine t_get (C := RX13) (T := TX13) (N := 37) X hT m0 g0 rfl rfl 16 (by decide) qw_112 inlX13 rfl dX13_size_177 (fun v81527 hv81527 ov81527 => ?_)
        obtain ⟨b81528, rfl, mb81528, gb81528⟩ := okV_r ov81527
        have gb81528 : tag b81528 = 37 := tg_of gb81528
        refine lv_sipush (v := 210) hx hb dX13_size_180 (by decide) ?_
        refine t_ild X hT mb81528 gb81528 rfl (by decide) dX13_size_183 (fun z81529 vz81529 rz81529 => ?_)
        have oz81529 := rz81529
        have rz81529 := rg_all z81529
        exact t_iret hQ X hT (⟨rg_all _, hfr⟩) (Nat.le_of_ble_eq_true rfl) (Nat.le_of_ble_eq_true rfl) dX13_size_184
      have w81530 := cv_ne (rfl : p1.toInt = p1.toInt) (by decide : (8 : Int32).toInt = 8) c81525
      by_cases c81531 : p1 = 9
      · have w81532 := cv_eq (rfl : p1.toInt = p1.toInt) (by decide : (9 : Int32).toInt = 9) c81531
        refine lv_tableIn (off := 147) (tgt := 185) hx hb dX13_size_38 (by rw [c81531]; decide) (by rw [c81531]; decide) (by rw [c81531]; decide) (by decide) ?_
        refine lv_aload_n hx hb dX13_size_185 rfl (lv_at hl 0 rfl) ?_
        refine t_get (C := RX13) (T := TX13) (N := 37) X hT m0 g0 rfl rfl 16 (by decide) qw_112 inlX13 rfl dX13_size_186 (fun v81533 hv81533 ov81533 => ?_)
        obtain ⟨b81534, rfl, mb81534, gb81534⟩ := okV_r ov81533
        have gb81534 : tag b81534 = 37 := tg_of gb81534
        refine lv_sipush (v := 211) hx hb dX13_size_189 (by decide) ?_
        refine t_ild X hT mb81534 gb81534 rfl (by decide) dX13_size_192 (fun z81535 vz81535 rz81535 => ?_)
        have oz81535 := rz81535
        have rz81535 := rg_all z81535
        exact t_iret hQ X hT (⟨rg_all _, hfr⟩) (Nat.le_of_ble_eq_true rfl) (Nat.le_of_ble_eq_true rfl) dX13_size_193
      have w81536 := cv_ne (rfl : p1.toInt = p1.toInt) (by decide : (9 : Int32).toInt = 9) c81531
      by_cases c81537 : p1 = 10
      · have w81538 := cv_eq (rfl : p1.toInt = p1.toInt) (by decide : (10 : Int32).toInt = 10) c81537
        refine lv_tableIn (off := 156) (tgt := 194) hx hb dX13_size_38 (by rw [c81537]; decide) (by rw [c81537]; decide) (by rw [c81537]; decide) (by decide) ?_
        refine lv_aload_n hx hb dX13_size_194 rfl (lv_at hl 0 rfl) ?_
        refine t_get (C := RX13) (T := TX13) (N := 37) X hT m0 g0 rfl rfl 20 (by decide) qw_482 inlX13 rfl dX13_size_195 (fun v81539 hv81539 ov81539 => ?_)
        obtain ⟨z81540, rfl, rz81540⟩ := okV_i ov81539
        exact t_iret hQ X hT (⟨rg_all _, hfr⟩) (Nat.le_of_ble_eq_true rfl) (Nat.le_of_ble_eq_true rfl) dX13_size_198
      have w81541 := cv_ne (rfl : p1.toInt = p1.toInt) (by decide : (10 : Int32).toInt = 10) c81537
      refine lv_tableOut (tgt := 199) hx hb dX13_size_38 (by omega) (by decide) ?_
      refine lv_aload_n hx hb dX13_size_199 rfl (lv_at hl 0 rfl) ?_
      refine t_get (C := RX13) (T := TX13) (N := 37) X hT m0 g0 rfl rfl 21 (by decide) qw_483 inlX13 rfl dX13_size_200 (fun v81542 hv81542 ov81542 => ?_)
      obtain ⟨z81543, rfl, rz81543⟩ := okV_i ov81542
      exact t_iret hQ X hT (⟨rg_all _, hfr⟩) (Nat.le_of_ble_eq_true rfl) (Nat.le_of_ble_eq_true rfl) dX13_size_203
    · have w81544 := cv_eq (rfl : z81460.toInt = z81460.toInt) (by decide : (0 : Int32).toInt = 0) c81463
      refine lv_iconst (v := (-1)) hx hb dX13_size_26 (by decide) ?_
      have k81545 : ((-1) : Int32).toInt = (-1) := by decide
      exact t_iret hQ X hT (⟨rg_all _, hfr⟩) (Nat.le_of_ble_eq_true rfl) (Nat.le_of_ble_eq_true rfl) dX13_size_27
  · have w81546 := cv_eq (rfl : p1.toInt = p1.toInt) (by decide : (12 : Int32).toInt = 12) c81458
    refine lv_aload_n hx hb dX13_size_11 rfl (lv_at hl 0 rfl) ?_
    refine t_get (C := RX13) (T := TX13) (N := 37) X hT m0 g0 rfl rfl 6 (by decide) qw_141 inlX13 rfl dX13_size_12 (fun v81547 hv81547 ov81547 => ?_)
    obtain ⟨z81548, rfl, rz81548⟩ := okV_i ov81547
    exact t_iret hQ X hT (⟨rg_all _, hfr⟩) (Nat.le_of_ble_eq_true rfl) (Nat.le_of_ble_eq_true rfl) dX13_size_15
set_option maxHeartbeats 4000000 in
set_option maxRecDepth 100000 in
theorem km266_X13_size (l : Launch) (G : KG) (tag : Nat → Nat) (L : List Nat) (Fo : Nat → va_E) (ho : okT G ttC tag L Fo) (p0 : Nat) (p1 : Int32) (m0 : p0 ∈ L) (g0 : tag p0 = 46) (pf0 : fld Fo p0 3 = .null) : TMi l yX13_size cX13_size 2 (some .int) { frames := 1, cells := 0, slots := 0, locals := 22 } G ttC tag L Fo [.ref p0, .int p1] (fun r F1 => ((-2147483648) ≤ r.toInt ∧ r.toInt ≤ 2147483647) ∧ ((∀ b j : Nat, (tag b ≠ 46 ∨ j ≠ 0) → fld F1 b j = fld Fo b j) ∧ (∀ b j : Nat, elm F1 b j = elm Fo b j))) := by
  refine t_bodyi (y := yX13_size) (cd := cX13_size) (mL := 2) (rt := (some .int)) (rm := { frames := 1, cells := 0, slots := 0, locals := 22 }) (av := [.ref p0, .int p1]) (by decide) (Nat.le_of_ble_eq_true rfl) ho ?_
  intro p e s m args below meth c ls A Q hQ X hT hl
  have hx := X.1.1
  have hb := X.1.2.1
  have hl : lv_has ls 2 [(0, .ref p0), (1, .int p1)] := hl
  have rp1 := rg_all p1
  obtain ⟨F, hFo⟩ : ∃ F : Nat → va_E, F = Fo := ⟨_, rfl⟩
  rw [← hFo] at hT pf0
  have hfr : (∀ b j : Nat, (tag b ≠ 46 ∨ j ≠ 0) → fld F b j = fld Fo b j) ∧ (∀ b j : Nat, elm F b j = elm Fo b j) := by
    rw [hFo]
    exact ⟨by intros; rfl, by intros; rfl⟩
  refine lv_aload_n hx hb dX13_size_0 rfl (lv_at hl 0 rfl) ?_
  refine lv_iconst (v := 0) hx hb dX13_size_1 (by decide) ?_
  refine t_put (C := RX13) (T := TX13) (N := 37) (v := .int 0) X hT m0 g0 rfl tyX13 tyX13_ok nmX13 rfl 0 (by decide) qw_140 inlX13 rfl (by first | rfl | decide) (by first | rfl | decide) rfl (⟨_, rfl, (show (-2147483648) ≤ (0 : Int32).toInt from (by decide)), (show (0 : Int32).toInt ≤ 2147483647 from (by decide))⟩) dX13_size_2 (fun F H locs hT v81703 h1v81703 h2v81703 => ?_)
  have pf0 := (h1v81703 _ _ (Or.inr (by decide))).trans pf0
  have hfr : (∀ b j : Nat, (tag b ≠ 46 ∨ j ≠ 0) → fld F b j = fld Fo b j) ∧ (∀ b j : Nat, elm F b j = elm Fo b j) := ⟨fun b j n46_0 => (h1v81703 b j (fr_ne g0 n46_0)).trans (hfr.1 b j n46_0), fun b j  => (h2v81703 b j).trans (hfr.2 b j )⟩
  refine lv_iload_n hx hb dX13_size_5 rfl (lv_at hl 1 rfl) ?_
  refine lv_bipush (v := 12) hx hb dX13_size_6 (by decide) ?_
  refine lv_icmp_ne (tgt := 16) hx hb dX13_size_8 (by decide) (fun c81704 => ?_) (fun c81704 => ?_)
  · have w81705 := cv_ne (rfl : p1.toInt = p1.toInt) (by decide : (12 : Int32).toInt = 12) c81704
    refine lv_iload_n hx hb dX13_size_16 rfl (lv_at hl 1 rfl) ?_
    refine lv_iconst (v := 0) hx hb dX13_size_17 (by decide) ?_
    refine lv_bipush (v := 11) hx hb dX13_size_18 (by decide) ?_
    refine t_cSi (n := 3) (As := [.int p1, .int 0, .int 11]) (rest := []) X hT (km19_X13_within l G tag L F hT.2.2.2 p1 0 11 ) qw_568 qw_569 qw_5 qw_570 ⟨by decide +kernel, by decide +kernel, by decide +kernel⟩ ⟨Nat.le_of_ble_eq_true rfl, Nat.le_of_ble_eq_true rfl⟩ hl rfl rfl (Nat.le_of_ble_eq_true rfl) dX13_size_20 ⟨Nat.le_of_ble_eq_true rfl, Nat.le_of_ble_eq_true rfl⟩ (fun z81706 F9 H locs hT hz81706 => ?_)
    obtain ⟨fz81706, hz81706, xz81706_0⟩ := hz81706
    rw [fz81706] at hT
    have k81707 : (0 : Int32).toInt = 0 := by decide
    have k81708 : (11 : Int32).toInt = 11 := by decide
    refine lv_if_ne (tgt := 28) hx hb dX13_size_23 (by decide) (fun c81709 => ?_) (fun c81709 => ?_)
    · have w81710 := cv_ne (rfl : z81706.toInt = z81706.toInt) (by decide : (0 : Int32).toInt = 0) c81709
      have w81711 := xz81706_0 (by omega)
      refine lv_aload_n hx hb dX13_size_28 rfl (lv_at hl 0 rfl) ?_
      refine t_get (C := RX13) (T := TX13) (N := 37) X hT m0 g0 rfl rfl 3 (by decide) qw_481 inlX13 rfl dX13_size_29 (fun v81712 hv81712 ov81712 => ?_)
      obtain rfl : v81712 = .null := hv81712.symm.trans pf0
      refine lv_ifnonnullN hx hb dX13_size_32 ?_
      refine lv_iconst (v := 0) hx hb dX13_size_35 (by decide) ?_
      have k81713 : (0 : Int32).toInt = 0 := by decide
      exact t_iret hQ X hT (⟨rg_all _, hfr⟩) (Nat.le_of_ble_eq_true rfl) (Nat.le_of_ble_eq_true rfl) dX13_size_36
    · have w81714 := cv_eq (rfl : z81706.toInt = z81706.toInt) (by decide : (0 : Int32).toInt = 0) c81709
      refine lv_iconst (v := (-1)) hx hb dX13_size_26 (by decide) ?_
      have k81715 : ((-1) : Int32).toInt = (-1) := by decide
      exact t_iret hQ X hT (⟨rg_all _, hfr⟩) (Nat.le_of_ble_eq_true rfl) (Nat.le_of_ble_eq_true rfl) dX13_size_27
  · have w81716 := cv_eq (rfl : p1.toInt = p1.toInt) (by decide : (12 : Int32).toInt = 12) c81704
    refine lv_aload_n hx hb dX13_size_11 rfl (lv_at hl 0 rfl) ?_
    refine t_get (C := RX13) (T := TX13) (N := 37) X hT m0 g0 rfl rfl 6 (by decide) qw_141 inlX13 rfl dX13_size_12 (fun v81717 hv81717 ov81717 => ?_)
    obtain ⟨z81718, rfl, rz81718⟩ := okV_i ov81717
    exact t_iret hQ X hT (⟨rg_all _, hfr⟩) (Nat.le_of_ble_eq_true rfl) (Nat.le_of_ble_eq_true rfl) dX13_size_15
theorem kp_X13_size (l : Launch) (G : KG) (tag : Nat → Nat) (L : List Nat) (Fo : Nat → va_E) (ho : okT G ttC tag L Fo) (p0 : Nat) (p1 : Int32) (m0 : p0 ∈ L) (g0 : tag p0 = 46) : TMi l yX13_size cX13_size 2 (some .int) { frames := 1, cells := 0, slots := 0, locals := 22 } G ttC tag L Fo [.ref p0, .int p1] (fun r F1 => ((-2147483648) ≤ r.toInt ∧ r.toInt ≤ 2147483647) ∧ ((∀ b j : Nat, (tag b ≠ 46 ∨ j ≠ 0) → fld F1 b j = fld Fo b j) ∧ (∀ b j : Nat, elm F1 b j = elm Fo b j))) := by
  rcases t_fldn ho m0 g0 rfl 3 rfl with h9 | ⟨b9, h9, m9, t9⟩
  · exact km266_X13_size l G tag L Fo ho p0 p1  m0 g0 h9 
  · exact km265_X13_size l G tag L Fo ho p0 p1 b9  m0 g0 m9 (tg_of t9) h9 
set_option maxHeartbeats 4000000 in
set_option maxRecDepth 100000 in
theorem km268_X13_denied (l : Launch) (G : KG) (tag : Nat → Nat) (L : List Nat) (Fo : Nat → va_E) (ho : okT G ttC tag L Fo) (p0 : Nat) (p1 : Int32) (m0 : p0 ∈ L) (g0 : tag p0 = 46) : TMi l yX13_denied cX13_denied 2 (some .boolean) { frames := 1, cells := 0, slots := 0, locals := 21 } G ttC tag L Fo [.ref p0, .int p1] (fun r F1 => (0 ≤ r.toInt ∧ r.toInt ≤ 0) ∧ ((∀ b j : Nat, (tag b ≠ 46 ∨ j ≠ 1) → (tag b ≠ 46 ∨ j ≠ 2) → fld F1 b j = fld Fo b j) ∧ (∀ b j : Nat, elm F1 b j = elm Fo b j))) := by
  refine t_bodyi (y := yX13_denied) (cd := cX13_denied) (mL := 2) (rt := (some .boolean)) (rm := { frames := 1, cells := 0, slots := 0, locals := 21 }) (av := [.ref p0, .int p1]) (by decide) (Nat.le_of_ble_eq_true rfl) ho ?_
  intro p e s m args below meth c ls A Q hQ X hT hl
  have hx := X.1.1
  have hb := X.1.2.1
  have hl : lv_has ls 2 [(0, .ref p0), (1, .int p1)] := hl
  have rp1 := rg_all p1
  obtain ⟨F, hFo⟩ : ∃ F : Nat → va_E, F = Fo := ⟨_, rfl⟩
  rw [← hFo] at hT
  have hfr : (∀ b j : Nat, (tag b ≠ 46 ∨ j ≠ 1) → (tag b ≠ 46 ∨ j ≠ 2) → fld F b j = fld Fo b j) ∧ (∀ b j : Nat, elm F b j = elm Fo b j) := by
    rw [hFo]
    exact ⟨by intros; rfl, by intros; rfl⟩
  refine lv_aload_n hx hb dX13_denied_0 rfl (lv_at hl 0 rfl) ?_
  refine lv_iload_n hx hb dX13_denied_1 rfl (lv_at hl 1 rfl) ?_
  refine t_cVi (n := 1) (C := RX13) (T := TX13) (N := 37) (As := [.int p1]) (rest := []) X hT (km88_X13_refused l G tag L F hT.2.2.2 p0 p1 m0 g0) m0 g0 rfl rfl qw_484 qw_485 qw_486 qw_5 qw_487 ⟨rfl, by decide +kernel, by decide +kernel, by decide +kernel⟩ ⟨Nat.le_of_ble_eq_true rfl, Nat.le_of_ble_eq_true rfl⟩ hl rfl rfl (Nat.le_of_ble_eq_true rfl) dX13_denied_2 ⟨Nat.le_of_ble_eq_true rfl, Nat.le_of_ble_eq_true rfl⟩ (fun z81743 F H locs hT hz81743 => ?_)
  obtain ⟨hz81743, yz81743⟩ := hz81743
  have hfr : (∀ b j : Nat, (tag b ≠ 46 ∨ j ≠ 1) → (tag b ≠ 46 ∨ j ≠ 2) → fld F b j = fld Fo b j) ∧ (∀ b j : Nat, elm F b j = elm Fo b j) := ⟨fun b j n46_1 n46_2 => (yz81743.1 b j n46_1 n46_2).trans (hfr.1 b j n46_1 n46_2), fun b j  => (yz81743.2 b j ).trans (hfr.2 b j )⟩
  refine lv_pop hx hb dX13_denied_5 rfl ?_
  refine lv_iconst (v := 0) hx hb dX13_denied_6 (by decide) ?_
  have k81744 : (0 : Int32).toInt = 0 := by decide
  exact t_zret hQ X hT (by decide) (⟨(by decide), hfr⟩) (Nat.le_of_ble_eq_true rfl) (Nat.le_of_ble_eq_true rfl) dX13_denied_7
set_option maxHeartbeats 4000000 in
set_option maxRecDepth 100000 in
theorem km269_X13_granted (l : Launch) (G : KG) (tag : Nat → Nat) (L : List Nat) (Fo : Nat → va_E) (ho : okT G ttC tag L Fo) (p0 : Nat) (m0 : p0 ∈ L) (g0 : tag p0 = 46) : TMi l yX13_granted cX13_granted 1 (some .boolean) { frames := 1, cells := 0, slots := 0, locals := 21 } G ttC tag L Fo [.ref p0] (fun r F1 => (1 ≤ r.toInt ∧ r.toInt ≤ 1) ∧ ((∀ b j : Nat, (tag b ≠ 46 ∨ j ≠ 1) → (tag b ≠ 46 ∨ j ≠ 2) → fld F1 b j = fld Fo b j) ∧ (∀ b j : Nat, elm F1 b j = elm Fo b j))) := by
  refine t_bodyi (y := yX13_granted) (cd := cX13_granted) (mL := 1) (rt := (some .boolean)) (rm := { frames := 1, cells := 0, slots := 0, locals := 21 }) (av := [.ref p0]) (by decide) (Nat.le_of_ble_eq_true rfl) ho ?_
  intro p e s m args below meth c ls A Q hQ X hT hl
  have hx := X.1.1
  have hb := X.1.2.1
  have hl : lv_has ls 1 [(0, .ref p0)] := hl
  obtain ⟨F, hFo⟩ : ∃ F : Nat → va_E, F = Fo := ⟨_, rfl⟩
  rw [← hFo] at hT
  have hfr : (∀ b j : Nat, (tag b ≠ 46 ∨ j ≠ 1) → (tag b ≠ 46 ∨ j ≠ 2) → fld F b j = fld Fo b j) ∧ (∀ b j : Nat, elm F b j = elm Fo b j) := by
    rw [hFo]
    exact ⟨by intros; rfl, by intros; rfl⟩
  refine lv_aload_n hx hb dX13_granted_0 rfl (lv_at hl 0 rfl) ?_
  refine lv_iconst (v := 0) hx hb dX13_granted_1 (by decide) ?_
  refine t_cVi (n := 1) (C := RX13) (T := TX13) (N := 37) (As := [.int 0]) (rest := []) X hT (km93_X13_good l G tag L F hT.2.2.2 p0 0 m0 g0) m0 g0 rfl rfl qw_687 qw_688 qw_689 qw_5 qw_690 ⟨rfl, by decide +kernel, by decide +kernel, by decide +kernel⟩ ⟨Nat.le_of_ble_eq_true rfl, Nat.le_of_ble_eq_true rfl⟩ hl rfl rfl (Nat.le_of_ble_eq_true rfl) dX13_granted_2 ⟨Nat.le_of_ble_eq_true rfl, Nat.le_of_ble_eq_true rfl⟩ (fun z81774 F H locs hT hz81774 => ?_)
  obtain ⟨hz81774, yz81774⟩ := hz81774
  have hfr : (∀ b j : Nat, (tag b ≠ 46 ∨ j ≠ 1) → (tag b ≠ 46 ∨ j ≠ 2) → fld F b j = fld Fo b j) ∧ (∀ b j : Nat, elm F b j = elm Fo b j) := ⟨fun b j n46_1 n46_2 => (yz81774.1 b j n46_1 n46_2).trans (hfr.1 b j n46_1 n46_2), fun b j  => (yz81774.2 b j ).trans (hfr.2 b j )⟩
  refine lv_pop hx hb dX13_granted_5 rfl ?_
  refine lv_iconst (v := 1) hx hb dX13_granted_6 (by decide) ?_
  have k81775 : (1 : Int32).toInt = 1 := by decide
  exact t_zret hQ X hT (by decide) (⟨(by decide), hfr⟩) (Nat.le_of_ble_eq_true rfl) (Nat.le_of_ble_eq_true rfl) dX13_granted_7
set_option maxHeartbeats 4000000 in
set_option maxRecDepth 100000 in
theorem km270_X13_fill (l : Launch) (G : KG) (tag : Nat → Nat) (L : List Nat) (Fo : Nat → va_E) (ho : okT G ttC tag L Fo) (p0 : Nat) (p1 : Int32) (p2 : Int32) (x0 : Nat) (m0 : p0 ∈ L) (g0 : tag p0 = 46) (mx0 : x0 ∈ L) (gx0 : tag x0 = 45) (pf0 : fld Fo p0 3 = .ref x0) : TMi l yX13_fill cX13_fill 3 (some .boolean) { frames := 2, cells := 0, slots := 0, locals := 43 } G ttC tag L Fo [.ref p0, .int p1, .int p2] (fun r F1 => (0 ≤ r.toInt ∧ r.toInt ≤ 1) ∧ ((∀ b j : Nat, (tag b ≠ 46 ∨ j ≠ 0) → (tag b ≠ 46 ∨ j ≠ 1) → (tag b ≠ 46 ∨ j ≠ 2) → (tag b ≠ 46 ∨ j ≠ 20) → fld F1 b j = fld Fo b j) ∧ (∀ b j : Nat, tag b ≠ 37 → tag b ≠ 38 → elm F1 b j = elm Fo b j))) := by
  refine t_bodyi (y := yX13_fill) (cd := cX13_fill) (mL := 3) (rt := (some .boolean)) (rm := { frames := 2, cells := 0, slots := 0, locals := 43 }) (av := [.ref p0, .int p1, .int p2]) (by decide) (Nat.le_of_ble_eq_true rfl) ho ?_
  intro p e s m args below meth c ls A Q hQ X hT hl
  have hx := X.1.1
  have hb := X.1.2.1
  have hl : lv_has ls 3 [(0, .ref p0), (1, .int p1), (2, .int p2)] := hl
  have rp1 := rg_all p1
  have rp2 := rg_all p2
  obtain ⟨F, hFo⟩ : ∃ F : Nat → va_E, F = Fo := ⟨_, rfl⟩
  rw [← hFo] at hT pf0
  have hfr : (∀ b j : Nat, (tag b ≠ 46 ∨ j ≠ 0) → (tag b ≠ 46 ∨ j ≠ 1) → (tag b ≠ 46 ∨ j ≠ 2) → (tag b ≠ 46 ∨ j ≠ 20) → fld F b j = fld Fo b j) ∧ (∀ b j : Nat, tag b ≠ 37 → tag b ≠ 38 → elm F b j = elm Fo b j) := by
    rw [hFo]
    exact ⟨by intros; rfl, by intros; rfl⟩
  refine lv_aload_n hx hb dX13_fill_0 rfl (lv_at hl 0 rfl) ?_
  refine lv_iconst (v := 0) hx hb dX13_fill_1 (by decide) ?_
  refine t_put (C := RX13) (T := TX13) (N := 37) (v := .int 0) X hT m0 g0 rfl tyX13 tyX13_ok nmX13 rfl 0 (by decide) qw_140 inlX13 rfl (by first | rfl | decide) (by first | rfl | decide) rfl (⟨_, rfl, (show (-2147483648) ≤ (0 : Int32).toInt from (by decide)), (show (0 : Int32).toInt ≤ 2147483647 from (by decide))⟩) dX13_fill_2 (fun F H locs hT v82141 h1v82141 h2v82141 => ?_)
  have pf0 := (h1v82141 _ _ (Or.inr (by decide))).trans pf0
  have hfr : (∀ b j : Nat, (tag b ≠ 46 ∨ j ≠ 0) → (tag b ≠ 46 ∨ j ≠ 1) → (tag b ≠ 46 ∨ j ≠ 2) → (tag b ≠ 46 ∨ j ≠ 20) → fld F b j = fld Fo b j) ∧ (∀ b j : Nat, tag b ≠ 37 → tag b ≠ 38 → elm F b j = elm Fo b j) := ⟨fun b j n46_0 n46_1 n46_2 n46_20 => (h1v82141 b j (fr_ne g0 n46_0)).trans (hfr.1 b j n46_0 n46_1 n46_2 n46_20), fun b j a37 a38 => (h2v82141 b j).trans (hfr.2 b j a37 a38)⟩
  refine lv_aload_n hx hb dX13_fill_5 rfl (lv_at hl 0 rfl) ?_
  refine lv_iload_n hx hb dX13_fill_6 rfl (lv_at hl 1 rfl) ?_
  refine lv_iload_n hx hb dX13_fill_7 rfl (lv_at hl 2 rfl) ?_
  refine t_cVi (n := 2) (C := RX13) (T := TX13) (N := 37) (As := [.int p1, .int p2]) (rest := []) X hT (km119_X13_isSkin l G tag L F hT.2.2.2 p0 p1 p2 x0 m0 g0 mx0 gx0 pf0) m0 g0 rfl rfl qw_836 qw_837 qw_838 qw_5 qw_839 ⟨rfl, by decide +kernel, by decide +kernel, by decide +kernel⟩ ⟨Nat.le_of_ble_eq_true rfl, Nat.le_of_ble_eq_true rfl⟩ hl rfl rfl (Nat.le_of_ble_eq_true rfl) dX13_fill_8 ⟨Nat.le_of_ble_eq_true rfl, Nat.le_of_ble_eq_true rfl⟩ (fun z82142 F9 H locs hT hz82142 => ?_)
  obtain ⟨fz82142, hz82142⟩ := hz82142
  rw [fz82142] at hT
  obtain ⟨hz82142, iz82142⟩ := hz82142
  refine lv_if_ne (tgt := 20) hx hb dX13_fill_11 (by decide) (fun c82143 => ?_) (fun c82143 => ?_)
  · have w82144 := cv_ne (rfl : z82142.toInt = z82142.toInt) (by decide : (0 : Int32).toInt = 0) c82143
    have w82145 := (fun h => (iz82142 h).1) (by omega)
    have w82146 := (fun h => (iz82142 h).2) (by omega)
    refine lv_aload_n hx hb dX13_fill_20 rfl (lv_at hl 0 rfl) ?_
    refine t_get (C := RX13) (T := TX13) (N := 37) X hT m0 g0 rfl rfl 16 (by decide) qw_112 inlX13 rfl dX13_fill_21 (fun v82147 hv82147 ov82147 => ?_)
    obtain ⟨b82148, rfl, mb82148, gb82148⟩ := okV_r ov82147
    have gb82148 : tag b82148 = 37 := tg_of gb82148
    refine lv_iload_n hx hb dX13_fill_24 rfl (lv_at hl 1 rfl) ?_
    refine lv_iload_n hx hb dX13_fill_25 rfl (lv_at hl 2 rfl) ?_
    refine lv_bipush (v := 6) hx hb dX13_fill_26 (by decide) ?_
    refine t_cSi (n := 3) (As := [.int p1, .int p2, .int 6]) (rest := [.ref b82148]) X hT (km49_X13_part l G tag L F hT.2.2.2 p1 p2 6 (by omega) (by omega) (by decide)) qw_661 qw_662 qw_5 qw_663 ⟨by decide +kernel, by decide +kernel, by decide +kernel⟩ ⟨Nat.le_of_ble_eq_true rfl, Nat.le_of_ble_eq_true rfl⟩ hl rfl rfl (Nat.le_of_ble_eq_true rfl) dX13_fill_28 ⟨Nat.le_of_ble_eq_true rfl, Nat.le_of_ble_eq_true rfl⟩ (fun z82149 F9 H locs hT hz82149 => ?_)
    obtain ⟨fz82149, hz82149, xz82149_0⟩ := hz82149
    rw [fz82149] at hT
    have k82150 : (6 : Int32).toInt = 6 := by decide
    refine t_ild X hT mb82148 gb82148 rfl (by omega) dX13_fill_31 (fun z82151 vz82151 rz82151 => ?_)
    have oz82151 := rz82151
    have rz82151 := rg_all z82151
    refine lv_iconst (v := 1) hx hb dX13_fill_32 (by decide) ?_
    refine lv_icmp_eq (tgt := 60) hx hb dX13_fill_33 (by decide) (fun c82152 => ?_) (fun c82152 => ?_)
    · have w82153 := cv_eq (rfl : z82151.toInt = z82151.toInt) (by decide : (1 : Int32).toInt = 1) c82152
      refine lv_aload_n hx hb dX13_fill_60 rfl (lv_at hl 0 rfl) ?_
      refine lv_iconst (v := 5) hx hb dX13_fill_61 (by decide) ?_
      refine t_cVi (n := 1) (C := RX13) (T := TX13) (N := 37) (As := [.int 5]) (rest := []) X hT (km268_X13_denied l G tag L F hT.2.2.2 p0 5 m0 g0) m0 g0 rfl rfl qw_1468 qw_1469 qw_1470 qw_5 qw_1471 ⟨rfl, by decide +kernel, by decide +kernel, by decide +kernel⟩ ⟨Nat.le_of_ble_eq_true rfl, Nat.le_of_ble_eq_true rfl⟩ hl rfl rfl (Nat.le_of_ble_eq_true rfl) dX13_fill_62 ⟨Nat.le_of_ble_eq_true rfl, Nat.le_of_ble_eq_true rfl⟩ (fun z82154 F H locs hT hz82154 => ?_)
      obtain ⟨hz82154, yz82154⟩ := hz82154
      have pf0 := (yz82154.1 _ 3 (Or.inr (by decide)) (Or.inr (by decide))).trans pf0
      have v82141 := (yz82154.1 _ 0 (Or.inr (by decide)) (Or.inr (by decide))).trans v82141
      have hv82147 := (yz82154.1 _ 16 (Or.inr (by decide)) (Or.inr (by decide))).trans hv82147
      have vz82151 := (yz82154.2 _ _ ).trans vz82151
      have hfr : (∀ b j : Nat, (tag b ≠ 46 ∨ j ≠ 0) → (tag b ≠ 46 ∨ j ≠ 1) → (tag b ≠ 46 ∨ j ≠ 2) → (tag b ≠ 46 ∨ j ≠ 20) → fld F b j = fld Fo b j) ∧ (∀ b j : Nat, tag b ≠ 37 → tag b ≠ 38 → elm F b j = elm Fo b j) := ⟨fun b j n46_0 n46_1 n46_2 n46_20 => (yz82154.1 b j n46_1 n46_2).trans (hfr.1 b j n46_0 n46_1 n46_2 n46_20), fun b j a37 a38 => (yz82154.2 b j ).trans (hfr.2 b j a37 a38)⟩
      exact t_zret hQ X hT (nar_z (by omega)) (⟨(by omega), hfr⟩) (Nat.le_of_ble_eq_true rfl) (Nat.le_of_ble_eq_true rfl) dX13_fill_65
    · have w82155 := cv_ne (rfl : z82151.toInt = z82151.toInt) (by decide : (1 : Int32).toInt = 1) c82152
      refine lv_aload_n hx hb dX13_fill_36 rfl (lv_at hl 0 rfl) ?_
      refine t_get (C := RX13) (T := TX13) (N := 37) X hT m0 g0 rfl rfl 16 (by decide) qw_112 inlX13 rfl dX13_fill_37 (fun v82156 hv82156 ov82156 => ?_)
      obtain rfl : v82156 = .ref b82148 := hv82156.symm.trans hv82147
      refine lv_iload_n hx hb dX13_fill_40 rfl (lv_at hl 1 rfl) ?_
      refine lv_iload_n hx hb dX13_fill_41 rfl (lv_at hl 2 rfl) ?_
      refine lv_iconst (v := 5) hx hb dX13_fill_42 (by decide) ?_
      refine t_cSi (n := 3) (As := [.int p1, .int p2, .int 5]) (rest := [.ref b82148]) X hT (km49_X13_part l G tag L F hT.2.2.2 p1 p2 5 (by omega) (by omega) (by decide)) qw_661 qw_662 qw_5 qw_663 ⟨by decide +kernel, by decide +kernel, by decide +kernel⟩ ⟨Nat.le_of_ble_eq_true rfl, Nat.le_of_ble_eq_true rfl⟩ hl rfl rfl (Nat.le_of_ble_eq_true rfl) dX13_fill_43 ⟨Nat.le_of_ble_eq_true rfl, Nat.le_of_ble_eq_true rfl⟩ (fun z82157 F9 H locs hT hz82157 => ?_)
      obtain ⟨fz82157, hz82157, xz82157_0⟩ := hz82157
      rw [fz82157] at hT
      have k82158 : (5 : Int32).toInt = 5 := by decide
      refine t_ild X hT mb82148 gb82148 rfl (by omega) dX13_fill_46 (fun z82159 vz82159 rz82159 => ?_)
      have oz82159 := rz82159
      have rz82159 := rg_all z82159
      refine lv_iconst (v := 1) hx hb dX13_fill_47 (by decide) ?_
      refine lv_icmp_eq (tgt := 60) hx hb dX13_fill_48 (by decide) (fun c82160 => ?_) (fun c82160 => ?_)
      · have w82161 := cv_eq (rfl : z82159.toInt = z82159.toInt) (by decide : (1 : Int32).toInt = 1) c82160
        refine lv_aload_n hx hb dX13_fill_60 rfl (lv_at hl 0 rfl) ?_
        refine lv_iconst (v := 5) hx hb dX13_fill_61 (by decide) ?_
        refine t_cVi (n := 1) (C := RX13) (T := TX13) (N := 37) (As := [.int 5]) (rest := []) X hT (km268_X13_denied l G tag L F hT.2.2.2 p0 5 m0 g0) m0 g0 rfl rfl qw_1468 qw_1469 qw_1470 qw_5 qw_1471 ⟨rfl, by decide +kernel, by decide +kernel, by decide +kernel⟩ ⟨Nat.le_of_ble_eq_true rfl, Nat.le_of_ble_eq_true rfl⟩ hl rfl rfl (Nat.le_of_ble_eq_true rfl) dX13_fill_62 ⟨Nat.le_of_ble_eq_true rfl, Nat.le_of_ble_eq_true rfl⟩ (fun z82162 F H locs hT hz82162 => ?_)
        obtain ⟨hz82162, yz82162⟩ := hz82162
        have pf0 := (yz82162.1 _ 3 (Or.inr (by decide)) (Or.inr (by decide))).trans pf0
        have v82141 := (yz82162.1 _ 0 (Or.inr (by decide)) (Or.inr (by decide))).trans v82141
        have hv82147 := (yz82162.1 _ 16 (Or.inr (by decide)) (Or.inr (by decide))).trans hv82147
        have vz82151 := (yz82162.2 _ _ ).trans vz82151
        have vz82159 := (yz82162.2 _ _ ).trans vz82159
        have hfr : (∀ b j : Nat, (tag b ≠ 46 ∨ j ≠ 0) → (tag b ≠ 46 ∨ j ≠ 1) → (tag b ≠ 46 ∨ j ≠ 2) → (tag b ≠ 46 ∨ j ≠ 20) → fld F b j = fld Fo b j) ∧ (∀ b j : Nat, tag b ≠ 37 → tag b ≠ 38 → elm F b j = elm Fo b j) := ⟨fun b j n46_0 n46_1 n46_2 n46_20 => (yz82162.1 b j n46_1 n46_2).trans (hfr.1 b j n46_0 n46_1 n46_2 n46_20), fun b j a37 a38 => (yz82162.2 b j ).trans (hfr.2 b j a37 a38)⟩
        exact t_zret hQ X hT (nar_z (by omega)) (⟨(by omega), hfr⟩) (Nat.le_of_ble_eq_true rfl) (Nat.le_of_ble_eq_true rfl) dX13_fill_65
      · have w82163 := cv_ne (rfl : z82159.toInt = z82159.toInt) (by decide : (1 : Int32).toInt = 1) c82160
        refine lv_aload_n hx hb dX13_fill_51 rfl (lv_at hl 0 rfl) ?_
        refine lv_iload_n hx hb dX13_fill_52 rfl (lv_at hl 1 rfl) ?_
        refine lv_iload_n hx hb dX13_fill_53 rfl (lv_at hl 2 rfl) ?_
        refine t_cVi (n := 2) (C := RX13) (T := TX13) (N := 37) (As := [.int p1, .int p2]) (rest := []) X hT (km219_X13_isLivedIn l G tag L F hT.2.2.2 p0 p1 p2 x0 m0 g0 mx0 gx0 pf0) m0 g0 rfl rfl qw_1324 qw_1325 qw_1326 qw_5 qw_1327 ⟨rfl, by decide +kernel, by decide +kernel, by decide +kernel⟩ ⟨Nat.le_of_ble_eq_true rfl, Nat.le_of_ble_eq_true rfl⟩ hl rfl rfl (Nat.le_of_ble_eq_true rfl) dX13_fill_54 ⟨Nat.le_of_ble_eq_true rfl, Nat.le_of_ble_eq_true rfl⟩ (fun z82164 F9 H locs hT hz82164 => ?_)
        obtain ⟨fz82164, hz82164⟩ := hz82164
        rw [fz82164] at hT
        refine lv_if_eq (tgt := 66) hx hb dX13_fill_57 (by decide) (fun c82165 => ?_) (fun c82165 => ?_)
        · have w82166 := cv_eq (rfl : z82164.toInt = z82164.toInt) (by decide : (0 : Int32).toInt = 0) c82165
          refine lv_aload_n hx hb dX13_fill_66 rfl (lv_at hl 0 rfl) ?_
          refine t_cVv (n := 0) (C := RX13) (T := TX13) (N := 37) (As := []) (rest := []) X hT (km245_X13_keeps l G tag L F hT.2.2.2 p0 m0 g0) m0 g0 rfl rfl qw_1437 qw_1438 qw_1439 qw_5 qw_1440 ⟨rfl, by decide +kernel, by decide +kernel, by decide +kernel⟩ ⟨Nat.le_of_ble_eq_true rfl, Nat.le_of_ble_eq_true rfl⟩ hl rfl rfl (Nat.le_of_ble_eq_true rfl) dX13_fill_67 ⟨Nat.le_of_ble_eq_true rfl, Nat.le_of_ble_eq_true rfl⟩ (fun F H locs hT hz82167 => ?_)
          have yz82167 := hz82167
          have pf0 := (yz82167.1 _ 3 (Or.inr (by decide))).trans pf0
          have v82141 := (yz82167.1 _ 0 (Or.inr (by decide))).trans v82141
          have hv82147 := (yz82167.1 _ 16 (Or.inr (by decide))).trans hv82147
          have vz82151 := (yz82167.2 _ _ (by rw [gb82148]; decide)).trans vz82151
          have vz82159 := (yz82167.2 _ _ (by rw [gb82148]; decide)).trans vz82159
          have hfr : (∀ b j : Nat, (tag b ≠ 46 ∨ j ≠ 0) → (tag b ≠ 46 ∨ j ≠ 1) → (tag b ≠ 46 ∨ j ≠ 2) → (tag b ≠ 46 ∨ j ≠ 20) → fld F b j = fld Fo b j) ∧ (∀ b j : Nat, tag b ≠ 37 → tag b ≠ 38 → elm F b j = elm Fo b j) := ⟨fun b j n46_0 n46_1 n46_2 n46_20 => (yz82167.1 b j n46_20).trans (hfr.1 b j n46_0 n46_1 n46_2 n46_20), fun b j a37 a38 => (yz82167.2 b j a38).trans (hfr.2 b j a37 a38)⟩
          refine lv_aload_n hx hb dX13_fill_70 rfl (lv_at hl 0 rfl) ?_
          refine t_get (C := RX13) (T := TX13) (N := 37) X hT m0 g0 rfl rfl 16 (by decide) qw_112 inlX13 rfl dX13_fill_71 (fun v82168 hv82168 ov82168 => ?_)
          obtain rfl : v82168 = .ref b82148 := hv82168.symm.trans hv82147
          refine lv_iload_n hx hb dX13_fill_74 rfl (lv_at hl 1 rfl) ?_
          refine lv_iload_n hx hb dX13_fill_75 rfl (lv_at hl 2 rfl) ?_
          refine lv_bipush (v := 6) hx hb dX13_fill_76 (by decide) ?_
          refine t_cSi (n := 3) (As := [.int p1, .int p2, .int 6]) (rest := [.ref b82148]) X hT (km49_X13_part l G tag L F hT.2.2.2 p1 p2 6 (by omega) (by omega) (by decide)) qw_661 qw_662 qw_5 qw_663 ⟨by decide +kernel, by decide +kernel, by decide +kernel⟩ ⟨Nat.le_of_ble_eq_true rfl, Nat.le_of_ble_eq_true rfl⟩ hl rfl rfl (Nat.le_of_ble_eq_true rfl) dX13_fill_78 ⟨Nat.le_of_ble_eq_true rfl, Nat.le_of_ble_eq_true rfl⟩ (fun z82169 F9 H locs hT hz82169 => ?_)
          obtain ⟨fz82169, hz82169, xz82169_0⟩ := hz82169
          rw [fz82169] at hT
          have k82170 : (6 : Int32).toInt = 6 := by decide
          refine lv_iconst (v := 1) hx hb dX13_fill_81 (by decide) ?_
          refine t_ist X hT mb82148 gb82148 rfl (by omega) (row_fv (by omega) (Or.inr (Or.inr (by omega)))) dX13_fill_82 (fun F H locs hT v82171 h1v82171 h2v82171 => ?_)
          have pf0 := (h2v82171 _ _).trans pf0
          have v82141 := (h2v82171 _ _).trans v82141
          have hv82147 := (h2v82171 _ _).trans hv82147
          have hfr : (∀ b j : Nat, (tag b ≠ 46 ∨ j ≠ 0) → (tag b ≠ 46 ∨ j ≠ 1) → (tag b ≠ 46 ∨ j ≠ 2) → (tag b ≠ 46 ∨ j ≠ 20) → fld F b j = fld Fo b j) ∧ (∀ b j : Nat, tag b ≠ 37 → tag b ≠ 38 → elm F b j = elm Fo b j) := ⟨fun b j n46_0 n46_1 n46_2 n46_20 => (h2v82171 b j).trans (hfr.1 b j n46_0 n46_1 n46_2 n46_20), fun b j a37 a38 => (h1v82171 b j (Or.inl (at_ne gb82148 a37))).trans (hfr.2 b j a37 a38)⟩
          refine lv_aload_n hx hb dX13_fill_83 rfl (lv_at hl 0 rfl) ?_
          refine t_cVi (n := 0) (C := RX13) (T := TX13) (N := 37) (As := []) (rest := []) X hT (km269_X13_granted l G tag L F hT.2.2.2 p0 m0 g0) m0 g0 rfl rfl qw_1472 qw_1473 qw_1474 qw_5 qw_1475 ⟨rfl, by decide +kernel, by decide +kernel, by decide +kernel⟩ ⟨Nat.le_of_ble_eq_true rfl, Nat.le_of_ble_eq_true rfl⟩ hl rfl rfl (Nat.le_of_ble_eq_true rfl) dX13_fill_84 ⟨Nat.le_of_ble_eq_true rfl, Nat.le_of_ble_eq_true rfl⟩ (fun z82172 F H locs hT hz82172 => ?_)
          obtain ⟨hz82172, yz82172⟩ := hz82172
          have pf0 := (yz82172.1 _ 3 (Or.inr (by decide)) (Or.inr (by decide))).trans pf0
          have v82141 := (yz82172.1 _ 0 (Or.inr (by decide)) (Or.inr (by decide))).trans v82141
          have hv82147 := (yz82172.1 _ 16 (Or.inr (by decide)) (Or.inr (by decide))).trans hv82147
          have v82171 := (yz82172.2 _ _ ).trans v82171
          have hfr : (∀ b j : Nat, (tag b ≠ 46 ∨ j ≠ 0) → (tag b ≠ 46 ∨ j ≠ 1) → (tag b ≠ 46 ∨ j ≠ 2) → (tag b ≠ 46 ∨ j ≠ 20) → fld F b j = fld Fo b j) ∧ (∀ b j : Nat, tag b ≠ 37 → tag b ≠ 38 → elm F b j = elm Fo b j) := ⟨fun b j n46_0 n46_1 n46_2 n46_20 => (yz82172.1 b j n46_1 n46_2).trans (hfr.1 b j n46_0 n46_1 n46_2 n46_20), fun b j a37 a38 => (yz82172.2 b j ).trans (hfr.2 b j a37 a38)⟩
          exact t_zret hQ X hT (nar_z (by omega)) (⟨(by omega), hfr⟩) (Nat.le_of_ble_eq_true rfl) (Nat.le_of_ble_eq_true rfl) dX13_fill_87
        · have w82173 := cv_ne (rfl : z82164.toInt = z82164.toInt) (by decide : (0 : Int32).toInt = 0) c82165
          refine lv_aload_n hx hb dX13_fill_60 rfl (lv_at hl 0 rfl) ?_
          refine lv_iconst (v := 5) hx hb dX13_fill_61 (by decide) ?_
          refine t_cVi (n := 1) (C := RX13) (T := TX13) (N := 37) (As := [.int 5]) (rest := []) X hT (km268_X13_denied l G tag L F hT.2.2.2 p0 5 m0 g0) m0 g0 rfl rfl qw_1468 qw_1469 qw_1470 qw_5 qw_1471 ⟨rfl, by decide +kernel, by decide +kernel, by decide +kernel⟩ ⟨Nat.le_of_ble_eq_true rfl, Nat.le_of_ble_eq_true rfl⟩ hl rfl rfl (Nat.le_of_ble_eq_true rfl) dX13_fill_62 ⟨Nat.le_of_ble_eq_true rfl, Nat.le_of_ble_eq_true rfl⟩ (fun z82174 F H locs hT hz82174 => ?_)
          obtain ⟨hz82174, yz82174⟩ := hz82174
          have pf0 := (yz82174.1 _ 3 (Or.inr (by decide)) (Or.inr (by decide))).trans pf0
          have v82141 := (yz82174.1 _ 0 (Or.inr (by decide)) (Or.inr (by decide))).trans v82141
          have hv82147 := (yz82174.1 _ 16 (Or.inr (by decide)) (Or.inr (by decide))).trans hv82147
          have vz82151 := (yz82174.2 _ _ ).trans vz82151
          have vz82159 := (yz82174.2 _ _ ).trans vz82159
          have hfr : (∀ b j : Nat, (tag b ≠ 46 ∨ j ≠ 0) → (tag b ≠ 46 ∨ j ≠ 1) → (tag b ≠ 46 ∨ j ≠ 2) → (tag b ≠ 46 ∨ j ≠ 20) → fld F b j = fld Fo b j) ∧ (∀ b j : Nat, tag b ≠ 37 → tag b ≠ 38 → elm F b j = elm Fo b j) := ⟨fun b j n46_0 n46_1 n46_2 n46_20 => (yz82174.1 b j n46_1 n46_2).trans (hfr.1 b j n46_0 n46_1 n46_2 n46_20), fun b j a37 a38 => (yz82174.2 b j ).trans (hfr.2 b j a37 a38)⟩
          exact t_zret hQ X hT (nar_z (by omega)) (⟨(by omega), hfr⟩) (Nat.le_of_ble_eq_true rfl) (Nat.le_of_ble_eq_true rfl) dX13_fill_65
  · have w82175 := cv_eq (rfl : z82142.toInt = z82142.toInt) (by decide : (0 : Int32).toInt = 0) c82143
    refine lv_aload_n hx hb dX13_fill_14 rfl (lv_at hl 0 rfl) ?_
    refine lv_iconst (v := 1) hx hb dX13_fill_15 (by decide) ?_
    refine t_cVi (n := 1) (C := RX13) (T := TX13) (N := 37) (As := [.int 1]) (rest := []) X hT (km268_X13_denied l G tag L F hT.2.2.2 p0 1 m0 g0) m0 g0 rfl rfl qw_1468 qw_1469 qw_1470 qw_5 qw_1471 ⟨rfl, by decide +kernel, by decide +kernel, by decide +kernel⟩ ⟨Nat.le_of_ble_eq_true rfl, Nat.le_of_ble_eq_true rfl⟩ hl rfl rfl (Nat.le_of_ble_eq_true rfl) dX13_fill_16 ⟨Nat.le_of_ble_eq_true rfl, Nat.le_of_ble_eq_true rfl⟩ (fun z82176 F H locs hT hz82176 => ?_)
    obtain ⟨hz82176, yz82176⟩ := hz82176
    have pf0 := (yz82176.1 _ 3 (Or.inr (by decide)) (Or.inr (by decide))).trans pf0
    have v82141 := (yz82176.1 _ 0 (Or.inr (by decide)) (Or.inr (by decide))).trans v82141
    have hfr : (∀ b j : Nat, (tag b ≠ 46 ∨ j ≠ 0) → (tag b ≠ 46 ∨ j ≠ 1) → (tag b ≠ 46 ∨ j ≠ 2) → (tag b ≠ 46 ∨ j ≠ 20) → fld F b j = fld Fo b j) ∧ (∀ b j : Nat, tag b ≠ 37 → tag b ≠ 38 → elm F b j = elm Fo b j) := ⟨fun b j n46_0 n46_1 n46_2 n46_20 => (yz82176.1 b j n46_1 n46_2).trans (hfr.1 b j n46_0 n46_1 n46_2 n46_20), fun b j a37 a38 => (yz82176.2 b j ).trans (hfr.2 b j a37 a38)⟩
    exact t_zret hQ X hT (nar_z (by omega)) (⟨(by omega), hfr⟩) (Nat.le_of_ble_eq_true rfl) (Nat.le_of_ble_eq_true rfl) dX13_fill_19
set_option maxHeartbeats 4000000 in
set_option maxRecDepth 100000 in
theorem km271_X13_fill (l : Launch) (G : KG) (tag : Nat → Nat) (L : List Nat) (Fo : Nat → va_E) (ho : okT G ttC tag L Fo) (p0 : Nat) (p1 : Int32) (p2 : Int32) (m0 : p0 ∈ L) (g0 : tag p0 = 46) (pf0 : fld Fo p0 3 = .null) : TMi l yX13_fill cX13_fill 3 (some .boolean) { frames := 2, cells := 0, slots := 0, locals := 43 } G ttC tag L Fo [.ref p0, .int p1, .int p2] (fun r F1 => (0 ≤ r.toInt ∧ r.toInt ≤ 1) ∧ ((∀ b j : Nat, (tag b ≠ 46 ∨ j ≠ 0) → (tag b ≠ 46 ∨ j ≠ 1) → (tag b ≠ 46 ∨ j ≠ 2) → (tag b ≠ 46 ∨ j ≠ 20) → fld F1 b j = fld Fo b j) ∧ (∀ b j : Nat, tag b ≠ 37 → tag b ≠ 38 → elm F1 b j = elm Fo b j))) := by
  refine t_bodyi (y := yX13_fill) (cd := cX13_fill) (mL := 3) (rt := (some .boolean)) (rm := { frames := 2, cells := 0, slots := 0, locals := 43 }) (av := [.ref p0, .int p1, .int p2]) (by decide) (Nat.le_of_ble_eq_true rfl) ho ?_
  intro p e s m args below meth c ls A Q hQ X hT hl
  have hx := X.1.1
  have hb := X.1.2.1
  have hl : lv_has ls 3 [(0, .ref p0), (1, .int p1), (2, .int p2)] := hl
  have rp1 := rg_all p1
  have rp2 := rg_all p2
  obtain ⟨F, hFo⟩ : ∃ F : Nat → va_E, F = Fo := ⟨_, rfl⟩
  rw [← hFo] at hT pf0
  have hfr : (∀ b j : Nat, (tag b ≠ 46 ∨ j ≠ 0) → (tag b ≠ 46 ∨ j ≠ 1) → (tag b ≠ 46 ∨ j ≠ 2) → (tag b ≠ 46 ∨ j ≠ 20) → fld F b j = fld Fo b j) ∧ (∀ b j : Nat, tag b ≠ 37 → tag b ≠ 38 → elm F b j = elm Fo b j) := by
    rw [hFo]
    exact ⟨by intros; rfl, by intros; rfl⟩
  refine lv_aload_n hx hb dX13_fill_0 rfl (lv_at hl 0 rfl) ?_
  refine lv_iconst (v := 0) hx hb dX13_fill_1 (by decide) ?_
  refine t_put (C := RX13) (T := TX13) (N := 37) (v := .int 0) X hT m0 g0 rfl tyX13 tyX13_ok nmX13 rfl 0 (by decide) qw_140 inlX13 rfl (by first | rfl | decide) (by first | rfl | decide) rfl (⟨_, rfl, (show (-2147483648) ≤ (0 : Int32).toInt from (by decide)), (show (0 : Int32).toInt ≤ 2147483647 from (by decide))⟩) dX13_fill_2 (fun F H locs hT v82243 h1v82243 h2v82243 => ?_)
  have pf0 := (h1v82243 _ _ (Or.inr (by decide))).trans pf0
  have hfr : (∀ b j : Nat, (tag b ≠ 46 ∨ j ≠ 0) → (tag b ≠ 46 ∨ j ≠ 1) → (tag b ≠ 46 ∨ j ≠ 2) → (tag b ≠ 46 ∨ j ≠ 20) → fld F b j = fld Fo b j) ∧ (∀ b j : Nat, tag b ≠ 37 → tag b ≠ 38 → elm F b j = elm Fo b j) := ⟨fun b j n46_0 n46_1 n46_2 n46_20 => (h1v82243 b j (fr_ne g0 n46_0)).trans (hfr.1 b j n46_0 n46_1 n46_2 n46_20), fun b j a37 a38 => (h2v82243 b j).trans (hfr.2 b j a37 a38)⟩
  refine lv_aload_n hx hb dX13_fill_5 rfl (lv_at hl 0 rfl) ?_
  refine lv_iload_n hx hb dX13_fill_6 rfl (lv_at hl 1 rfl) ?_
  refine lv_iload_n hx hb dX13_fill_7 rfl (lv_at hl 2 rfl) ?_
  refine t_cVi (n := 2) (C := RX13) (T := TX13) (N := 37) (As := [.int p1, .int p2]) (rest := []) X hT (km121_X13_isSkin l G tag L F hT.2.2.2 p0 p1 p2 m0 g0 pf0) m0 g0 rfl rfl qw_836 qw_837 qw_838 qw_5 qw_839 ⟨rfl, by decide +kernel, by decide +kernel, by decide +kernel⟩ ⟨Nat.le_of_ble_eq_true rfl, Nat.le_of_ble_eq_true rfl⟩ hl rfl rfl (Nat.le_of_ble_eq_true rfl) dX13_fill_8 ⟨Nat.le_of_ble_eq_true rfl, Nat.le_of_ble_eq_true rfl⟩ (fun z82244 F9 H locs hT hz82244 => ?_)
  obtain ⟨fz82244, hz82244⟩ := hz82244
  rw [fz82244] at hT
  refine lv_if_ne (tgt := 20) hx hb dX13_fill_11 (by decide) (fun c82245 => ?_) (fun c82245 => ?_)
  · have w82246 := cv_ne (rfl : z82244.toInt = z82244.toInt) (by decide : (0 : Int32).toInt = 0) c82245
    exfalso
    omega
  · have w82247 := cv_eq (rfl : z82244.toInt = z82244.toInt) (by decide : (0 : Int32).toInt = 0) c82245
    refine lv_aload_n hx hb dX13_fill_14 rfl (lv_at hl 0 rfl) ?_
    refine lv_iconst (v := 1) hx hb dX13_fill_15 (by decide) ?_
    refine t_cVi (n := 1) (C := RX13) (T := TX13) (N := 37) (As := [.int 1]) (rest := []) X hT (km268_X13_denied l G tag L F hT.2.2.2 p0 1 m0 g0) m0 g0 rfl rfl qw_1468 qw_1469 qw_1470 qw_5 qw_1471 ⟨rfl, by decide +kernel, by decide +kernel, by decide +kernel⟩ ⟨Nat.le_of_ble_eq_true rfl, Nat.le_of_ble_eq_true rfl⟩ hl rfl rfl (Nat.le_of_ble_eq_true rfl) dX13_fill_16 ⟨Nat.le_of_ble_eq_true rfl, Nat.le_of_ble_eq_true rfl⟩ (fun z82248 F H locs hT hz82248 => ?_)
    obtain ⟨hz82248, yz82248⟩ := hz82248
    have pf0 := (yz82248.1 _ 3 (Or.inr (by decide)) (Or.inr (by decide))).trans pf0
    have v82243 := (yz82248.1 _ 0 (Or.inr (by decide)) (Or.inr (by decide))).trans v82243
    have hfr : (∀ b j : Nat, (tag b ≠ 46 ∨ j ≠ 0) → (tag b ≠ 46 ∨ j ≠ 1) → (tag b ≠ 46 ∨ j ≠ 2) → (tag b ≠ 46 ∨ j ≠ 20) → fld F b j = fld Fo b j) ∧ (∀ b j : Nat, tag b ≠ 37 → tag b ≠ 38 → elm F b j = elm Fo b j) := ⟨fun b j n46_0 n46_1 n46_2 n46_20 => (yz82248.1 b j n46_1 n46_2).trans (hfr.1 b j n46_0 n46_1 n46_2 n46_20), fun b j a37 a38 => (yz82248.2 b j ).trans (hfr.2 b j a37 a38)⟩
    exact t_zret hQ X hT (nar_z (by omega)) (⟨(by omega), hfr⟩) (Nat.le_of_ble_eq_true rfl) (Nat.le_of_ble_eq_true rfl) dX13_fill_19
theorem kp_X13_fill (l : Launch) (G : KG) (tag : Nat → Nat) (L : List Nat) (Fo : Nat → va_E) (ho : okT G ttC tag L Fo) (p0 : Nat) (p1 : Int32) (p2 : Int32) (m0 : p0 ∈ L) (g0 : tag p0 = 46) : TMi l yX13_fill cX13_fill 3 (some .boolean) { frames := 2, cells := 0, slots := 0, locals := 43 } G ttC tag L Fo [.ref p0, .int p1, .int p2] (fun r F1 => (0 ≤ r.toInt ∧ r.toInt ≤ 1) ∧ ((∀ b j : Nat, (tag b ≠ 46 ∨ j ≠ 0) → (tag b ≠ 46 ∨ j ≠ 1) → (tag b ≠ 46 ∨ j ≠ 2) → (tag b ≠ 46 ∨ j ≠ 20) → fld F1 b j = fld Fo b j) ∧ (∀ b j : Nat, tag b ≠ 37 → tag b ≠ 38 → elm F1 b j = elm Fo b j))) := by
  rcases t_fldn ho m0 g0 rfl 3 rfl with h9 | ⟨b9, h9, m9, t9⟩
  · exact km271_X13_fill l G tag L Fo ho p0 p1 p2  m0 g0 h9 
  · exact km270_X13_fill l G tag L Fo ho p0 p1 p2 b9  m0 g0 m9 (tg_of t9) h9 
set_option maxHeartbeats 4000000 in
set_option maxRecDepth 100000 in
theorem km273_X13_lock (l : Launch) (G : KG) (tag : Nat → Nat) (L : List Nat) (Fo : Nat → va_E) (ho : okT G ttC tag L Fo) (p0 : Nat) (p1 : Int32) (p2 : Int32) (p3 : Int32) (x0 : Nat) (m0 : p0 ∈ L) (g0 : tag p0 = 46) (mx0 : x0 ∈ L) (gx0 : tag x0 = 45) (pf0 : fld Fo p0 3 = .ref x0) : TMi l yX13_lock cX13_lock 4 (some .boolean) { frames := 2, cells := 0, slots := 0, locals := 43 } G ttC tag L Fo [.ref p0, .int p1, .int p2, .int p3] (fun r F1 => (0 ≤ r.toInt ∧ r.toInt ≤ 1) ∧ ((∀ b j : Nat, (tag b ≠ 46 ∨ j ≠ 0) → (tag b ≠ 46 ∨ j ≠ 1) → (tag b ≠ 46 ∨ j ≠ 2) → (tag b ≠ 46 ∨ j ≠ 20) → fld F1 b j = fld Fo b j) ∧ (∀ b j : Nat, tag b ≠ 37 → tag b ≠ 38 → elm F1 b j = elm Fo b j))) := by
  refine t_bodyi (y := yX13_lock) (cd := cX13_lock) (mL := 4) (rt := (some .boolean)) (rm := { frames := 2, cells := 0, slots := 0, locals := 43 }) (av := [.ref p0, .int p1, .int p2, .int p3]) (by decide) (Nat.le_of_ble_eq_true rfl) ho ?_
  intro p e s m args below meth c ls A Q hQ X hT hl
  have hx := X.1.1
  have hb := X.1.2.1
  have hl : lv_has ls 4 [(0, .ref p0), (1, .int p1), (2, .int p2), (3, .int p3)] := hl
  have rp1 := rg_all p1
  have rp2 := rg_all p2
  have rp3 := rg_all p3
  obtain ⟨F, hFo⟩ : ∃ F : Nat → va_E, F = Fo := ⟨_, rfl⟩
  rw [← hFo] at hT pf0
  have hfr : (∀ b j : Nat, (tag b ≠ 46 ∨ j ≠ 0) → (tag b ≠ 46 ∨ j ≠ 1) → (tag b ≠ 46 ∨ j ≠ 2) → (tag b ≠ 46 ∨ j ≠ 20) → fld F b j = fld Fo b j) ∧ (∀ b j : Nat, tag b ≠ 37 → tag b ≠ 38 → elm F b j = elm Fo b j) := by
    rw [hFo]
    exact ⟨by intros; rfl, by intros; rfl⟩
  refine lv_aload_n hx hb dX13_lock_0 rfl (lv_at hl 0 rfl) ?_
  refine lv_iconst (v := 0) hx hb dX13_lock_1 (by decide) ?_
  refine t_put (C := RX13) (T := TX13) (N := 37) (v := .int 0) X hT m0 g0 rfl tyX13 tyX13_ok nmX13 rfl 0 (by decide) qw_140 inlX13 rfl (by first | rfl | decide) (by first | rfl | decide) rfl (⟨_, rfl, (show (-2147483648) ≤ (0 : Int32).toInt from (by decide)), (show (0 : Int32).toInt ≤ 2147483647 from (by decide))⟩) dX13_lock_2 (fun F H locs hT v82590 h1v82590 h2v82590 => ?_)
  have pf0 := (h1v82590 _ _ (Or.inr (by decide))).trans pf0
  have hfr : (∀ b j : Nat, (tag b ≠ 46 ∨ j ≠ 0) → (tag b ≠ 46 ∨ j ≠ 1) → (tag b ≠ 46 ∨ j ≠ 2) → (tag b ≠ 46 ∨ j ≠ 20) → fld F b j = fld Fo b j) ∧ (∀ b j : Nat, tag b ≠ 37 → tag b ≠ 38 → elm F b j = elm Fo b j) := ⟨fun b j n46_0 n46_1 n46_2 n46_20 => (h1v82590 b j (fr_ne g0 n46_0)).trans (hfr.1 b j n46_0 n46_1 n46_2 n46_20), fun b j a37 a38 => (h2v82590 b j).trans (hfr.2 b j a37 a38)⟩
  refine lv_aload_n hx hb dX13_lock_5 rfl (lv_at hl 0 rfl) ?_
  refine lv_iload_n hx hb dX13_lock_6 rfl (lv_at hl 1 rfl) ?_
  refine lv_iload_n hx hb dX13_lock_7 rfl (lv_at hl 2 rfl) ?_
  refine t_cVi (n := 2) (C := RX13) (T := TX13) (N := 37) (As := [.int p1, .int p2]) (rest := []) X hT (km119_X13_isSkin l G tag L F hT.2.2.2 p0 p1 p2 x0 m0 g0 mx0 gx0 pf0) m0 g0 rfl rfl qw_836 qw_837 qw_838 qw_5 qw_839 ⟨rfl, by decide +kernel, by decide +kernel, by decide +kernel⟩ ⟨Nat.le_of_ble_eq_true rfl, Nat.le_of_ble_eq_true rfl⟩ hl rfl rfl (Nat.le_of_ble_eq_true rfl) dX13_lock_8 ⟨Nat.le_of_ble_eq_true rfl, Nat.le_of_ble_eq_true rfl⟩ (fun z82591 F9 H locs hT hz82591 => ?_)
  obtain ⟨fz82591, hz82591⟩ := hz82591
  rw [fz82591] at hT
  obtain ⟨hz82591, iz82591⟩ := hz82591
  refine lv_if_ne (tgt := 20) hx hb dX13_lock_11 (by decide) (fun c82592 => ?_) (fun c82592 => ?_)
  · have w82593 := cv_ne (rfl : z82591.toInt = z82591.toInt) (by decide : (0 : Int32).toInt = 0) c82592
    have w82594 := (fun h => (iz82591 h).1) (by omega)
    have w82595 := (fun h => (iz82591 h).2) (by omega)
    refine lv_iload_n hx hb dX13_lock_20 rfl (lv_at hl 3 rfl) ?_
    refine lv_iconst (v := 0) hx hb dX13_lock_21 (by decide) ?_
    refine lv_bipush (v := 99) hx hb dX13_lock_22 (by decide) ?_
    refine t_cSi (n := 3) (As := [.int p3, .int 0, .int 99]) (rest := []) X hT (km19_X13_within l G tag L F hT.2.2.2 p3 0 99 ) qw_568 qw_569 qw_5 qw_570 ⟨by decide +kernel, by decide +kernel, by decide +kernel⟩ ⟨Nat.le_of_ble_eq_true rfl, Nat.le_of_ble_eq_true rfl⟩ hl rfl rfl (Nat.le_of_ble_eq_true rfl) dX13_lock_24 ⟨Nat.le_of_ble_eq_true rfl, Nat.le_of_ble_eq_true rfl⟩ (fun z82596 F9 H locs hT hz82596 => ?_)
    obtain ⟨fz82596, hz82596, xz82596_0⟩ := hz82596
    rw [fz82596] at hT
    have k82597 : (0 : Int32).toInt = 0 := by decide
    have k82598 : (99 : Int32).toInt = 99 := by decide
    refine lv_if_ne (tgt := 36) hx hb dX13_lock_27 (by decide) (fun c82599 => ?_) (fun c82599 => ?_)
    · have w82600 := cv_ne (rfl : z82596.toInt = z82596.toInt) (by decide : (0 : Int32).toInt = 0) c82599
      have w82601 := xz82596_0 (by omega)
      refine lv_aload_n hx hb dX13_lock_36 rfl (lv_at hl 0 rfl) ?_
      refine t_get (C := RX13) (T := TX13) (N := 37) X hT m0 g0 rfl rfl 16 (by decide) qw_112 inlX13 rfl dX13_lock_37 (fun v82602 hv82602 ov82602 => ?_)
      obtain ⟨b82603, rfl, mb82603, gb82603⟩ := okV_r ov82602
      have gb82603 : tag b82603 = 37 := tg_of gb82603
      refine lv_iload_n hx hb dX13_lock_40 rfl (lv_at hl 1 rfl) ?_
      refine lv_iload_n hx hb dX13_lock_41 rfl (lv_at hl 2 rfl) ?_
      refine lv_iconst (v := 3) hx hb dX13_lock_42 (by decide) ?_
      refine t_cSi (n := 3) (As := [.int p1, .int p2, .int 3]) (rest := [.ref b82603]) X hT (km49_X13_part l G tag L F hT.2.2.2 p1 p2 3 (by omega) (by omega) (by decide)) qw_661 qw_662 qw_5 qw_663 ⟨by decide +kernel, by decide +kernel, by decide +kernel⟩ ⟨Nat.le_of_ble_eq_true rfl, Nat.le_of_ble_eq_true rfl⟩ hl rfl rfl (Nat.le_of_ble_eq_true rfl) dX13_lock_43 ⟨Nat.le_of_ble_eq_true rfl, Nat.le_of_ble_eq_true rfl⟩ (fun z82604 F9 H locs hT hz82604 => ?_)
      obtain ⟨fz82604, hz82604, xz82604_0⟩ := hz82604
      rw [fz82604] at hT
      have k82605 : (3 : Int32).toInt = 3 := by decide
      refine t_ild X hT mb82603 gb82603 rfl (by omega) dX13_lock_46 (fun z82606 vz82606 rz82606 => ?_)
      have oz82606 := rz82606
      have rz82606 := rg_all z82606
      refine lv_iload_n hx hb dX13_lock_47 rfl (lv_at hl 3 rfl) ?_
      refine lv_icmp_ne (tgt := 57) hx hb dX13_lock_48 (by decide) (fun c82607 => ?_) (fun c82607 => ?_)
      · have w82608 := cv_ne (rfl : z82606.toInt = z82606.toInt) (rfl : p3.toInt = p3.toInt) c82607
        refine lv_aload_n hx hb dX13_lock_57 rfl (lv_at hl 0 rfl) ?_
        refine t_cVv (n := 0) (C := RX13) (T := TX13) (N := 37) (As := []) (rest := []) X hT (km245_X13_keeps l G tag L F hT.2.2.2 p0 m0 g0) m0 g0 rfl rfl qw_1437 qw_1438 qw_1439 qw_5 qw_1440 ⟨rfl, by decide +kernel, by decide +kernel, by decide +kernel⟩ ⟨Nat.le_of_ble_eq_true rfl, Nat.le_of_ble_eq_true rfl⟩ hl rfl rfl (Nat.le_of_ble_eq_true rfl) dX13_lock_58 ⟨Nat.le_of_ble_eq_true rfl, Nat.le_of_ble_eq_true rfl⟩ (fun F H locs hT hz82609 => ?_)
        have yz82609 := hz82609
        have pf0 := (yz82609.1 _ 3 (Or.inr (by decide))).trans pf0
        have v82590 := (yz82609.1 _ 0 (Or.inr (by decide))).trans v82590
        have hv82602 := (yz82609.1 _ 16 (Or.inr (by decide))).trans hv82602
        have vz82606 := (yz82609.2 _ _ (by rw [gb82603]; decide)).trans vz82606
        have hfr : (∀ b j : Nat, (tag b ≠ 46 ∨ j ≠ 0) → (tag b ≠ 46 ∨ j ≠ 1) → (tag b ≠ 46 ∨ j ≠ 2) → (tag b ≠ 46 ∨ j ≠ 20) → fld F b j = fld Fo b j) ∧ (∀ b j : Nat, tag b ≠ 37 → tag b ≠ 38 → elm F b j = elm Fo b j) := ⟨fun b j n46_0 n46_1 n46_2 n46_20 => (yz82609.1 b j n46_20).trans (hfr.1 b j n46_0 n46_1 n46_2 n46_20), fun b j a37 a38 => (yz82609.2 b j a38).trans (hfr.2 b j a37 a38)⟩
        refine lv_aload_n hx hb dX13_lock_61 rfl (lv_at hl 0 rfl) ?_
        refine t_get (C := RX13) (T := TX13) (N := 37) X hT m0 g0 rfl rfl 16 (by decide) qw_112 inlX13 rfl dX13_lock_62 (fun v82610 hv82610 ov82610 => ?_)
        obtain rfl : v82610 = .ref b82603 := hv82610.symm.trans hv82602
        refine lv_iload_n hx hb dX13_lock_65 rfl (lv_at hl 1 rfl) ?_
        refine lv_iload_n hx hb dX13_lock_66 rfl (lv_at hl 2 rfl) ?_
        refine lv_iconst (v := 3) hx hb dX13_lock_67 (by decide) ?_
        refine t_cSi (n := 3) (As := [.int p1, .int p2, .int 3]) (rest := [.ref b82603]) X hT (km49_X13_part l G tag L F hT.2.2.2 p1 p2 3 (by omega) (by omega) (by decide)) qw_661 qw_662 qw_5 qw_663 ⟨by decide +kernel, by decide +kernel, by decide +kernel⟩ ⟨Nat.le_of_ble_eq_true rfl, Nat.le_of_ble_eq_true rfl⟩ hl rfl rfl (Nat.le_of_ble_eq_true rfl) dX13_lock_68 ⟨Nat.le_of_ble_eq_true rfl, Nat.le_of_ble_eq_true rfl⟩ (fun z82611 F9 H locs hT hz82611 => ?_)
        obtain ⟨fz82611, hz82611, xz82611_0⟩ := hz82611
        rw [fz82611] at hT
        have k82612 : (3 : Int32).toInt = 3 := by decide
        refine lv_iload_n hx hb dX13_lock_71 rfl (lv_at hl 3 rfl) ?_
        refine t_ist X hT mb82603 gb82603 rfl (by omega) (row_fv (by omega) (Or.inr (Or.inr (by omega)))) dX13_lock_72 (fun F H locs hT v82613 h1v82613 h2v82613 => ?_)
        have pf0 := (h2v82613 _ _).trans pf0
        have v82590 := (h2v82613 _ _).trans v82590
        have hv82602 := (h2v82613 _ _).trans hv82602
        have hfr : (∀ b j : Nat, (tag b ≠ 46 ∨ j ≠ 0) → (tag b ≠ 46 ∨ j ≠ 1) → (tag b ≠ 46 ∨ j ≠ 2) → (tag b ≠ 46 ∨ j ≠ 20) → fld F b j = fld Fo b j) ∧ (∀ b j : Nat, tag b ≠ 37 → tag b ≠ 38 → elm F b j = elm Fo b j) := ⟨fun b j n46_0 n46_1 n46_2 n46_20 => (h2v82613 b j).trans (hfr.1 b j n46_0 n46_1 n46_2 n46_20), fun b j a37 a38 => (h1v82613 b j (Or.inl (at_ne gb82603 a37))).trans (hfr.2 b j a37 a38)⟩
        refine lv_aload_n hx hb dX13_lock_73 rfl (lv_at hl 0 rfl) ?_
        refine t_cVi (n := 0) (C := RX13) (T := TX13) (N := 37) (As := []) (rest := []) X hT (km269_X13_granted l G tag L F hT.2.2.2 p0 m0 g0) m0 g0 rfl rfl qw_1472 qw_1473 qw_1474 qw_5 qw_1475 ⟨rfl, by decide +kernel, by decide +kernel, by decide +kernel⟩ ⟨Nat.le_of_ble_eq_true rfl, Nat.le_of_ble_eq_true rfl⟩ hl rfl rfl (Nat.le_of_ble_eq_true rfl) dX13_lock_74 ⟨Nat.le_of_ble_eq_true rfl, Nat.le_of_ble_eq_true rfl⟩ (fun z82614 F H locs hT hz82614 => ?_)
        obtain ⟨hz82614, yz82614⟩ := hz82614
        have pf0 := (yz82614.1 _ 3 (Or.inr (by decide)) (Or.inr (by decide))).trans pf0
        have v82590 := (yz82614.1 _ 0 (Or.inr (by decide)) (Or.inr (by decide))).trans v82590
        have hv82602 := (yz82614.1 _ 16 (Or.inr (by decide)) (Or.inr (by decide))).trans hv82602
        have v82613 := (yz82614.2 _ _ ).trans v82613
        have hfr : (∀ b j : Nat, (tag b ≠ 46 ∨ j ≠ 0) → (tag b ≠ 46 ∨ j ≠ 1) → (tag b ≠ 46 ∨ j ≠ 2) → (tag b ≠ 46 ∨ j ≠ 20) → fld F b j = fld Fo b j) ∧ (∀ b j : Nat, tag b ≠ 37 → tag b ≠ 38 → elm F b j = elm Fo b j) := ⟨fun b j n46_0 n46_1 n46_2 n46_20 => (yz82614.1 b j n46_1 n46_2).trans (hfr.1 b j n46_0 n46_1 n46_2 n46_20), fun b j a37 a38 => (yz82614.2 b j ).trans (hfr.2 b j a37 a38)⟩
        exact t_zret hQ X hT (nar_z (by omega)) (⟨(by omega), hfr⟩) (Nat.le_of_ble_eq_true rfl) (Nat.le_of_ble_eq_true rfl) dX13_lock_77
      · have w82615 := cv_eq (rfl : z82606.toInt = z82606.toInt) (rfl : p3.toInt = p3.toInt) c82607
        refine lv_aload_n hx hb dX13_lock_51 rfl (lv_at hl 0 rfl) ?_
        refine lv_iconst (v := 5) hx hb dX13_lock_52 (by decide) ?_
        refine t_cVi (n := 1) (C := RX13) (T := TX13) (N := 37) (As := [.int 5]) (rest := []) X hT (km268_X13_denied l G tag L F hT.2.2.2 p0 5 m0 g0) m0 g0 rfl rfl qw_1468 qw_1469 qw_1470 qw_5 qw_1471 ⟨rfl, by decide +kernel, by decide +kernel, by decide +kernel⟩ ⟨Nat.le_of_ble_eq_true rfl, Nat.le_of_ble_eq_true rfl⟩ hl rfl rfl (Nat.le_of_ble_eq_true rfl) dX13_lock_53 ⟨Nat.le_of_ble_eq_true rfl, Nat.le_of_ble_eq_true rfl⟩ (fun z82616 F H locs hT hz82616 => ?_)
        obtain ⟨hz82616, yz82616⟩ := hz82616
        have pf0 := (yz82616.1 _ 3 (Or.inr (by decide)) (Or.inr (by decide))).trans pf0
        have v82590 := (yz82616.1 _ 0 (Or.inr (by decide)) (Or.inr (by decide))).trans v82590
        have hv82602 := (yz82616.1 _ 16 (Or.inr (by decide)) (Or.inr (by decide))).trans hv82602
        have vz82606 := (yz82616.2 _ _ ).trans vz82606
        have hfr : (∀ b j : Nat, (tag b ≠ 46 ∨ j ≠ 0) → (tag b ≠ 46 ∨ j ≠ 1) → (tag b ≠ 46 ∨ j ≠ 2) → (tag b ≠ 46 ∨ j ≠ 20) → fld F b j = fld Fo b j) ∧ (∀ b j : Nat, tag b ≠ 37 → tag b ≠ 38 → elm F b j = elm Fo b j) := ⟨fun b j n46_0 n46_1 n46_2 n46_20 => (yz82616.1 b j n46_1 n46_2).trans (hfr.1 b j n46_0 n46_1 n46_2 n46_20), fun b j a37 a38 => (yz82616.2 b j ).trans (hfr.2 b j a37 a38)⟩
        exact t_zret hQ X hT (nar_z (by omega)) (⟨(by omega), hfr⟩) (Nat.le_of_ble_eq_true rfl) (Nat.le_of_ble_eq_true rfl) dX13_lock_56
    · have w82617 := cv_eq (rfl : z82596.toInt = z82596.toInt) (by decide : (0 : Int32).toInt = 0) c82599
      refine lv_aload_n hx hb dX13_lock_30 rfl (lv_at hl 0 rfl) ?_
      refine lv_iconst (v := 2) hx hb dX13_lock_31 (by decide) ?_
      refine t_cVi (n := 1) (C := RX13) (T := TX13) (N := 37) (As := [.int 2]) (rest := []) X hT (km268_X13_denied l G tag L F hT.2.2.2 p0 2 m0 g0) m0 g0 rfl rfl qw_1468 qw_1469 qw_1470 qw_5 qw_1471 ⟨rfl, by decide +kernel, by decide +kernel, by decide +kernel⟩ ⟨Nat.le_of_ble_eq_true rfl, Nat.le_of_ble_eq_true rfl⟩ hl rfl rfl (Nat.le_of_ble_eq_true rfl) dX13_lock_32 ⟨Nat.le_of_ble_eq_true rfl, Nat.le_of_ble_eq_true rfl⟩ (fun z82618 F H locs hT hz82618 => ?_)
      obtain ⟨hz82618, yz82618⟩ := hz82618
      have pf0 := (yz82618.1 _ 3 (Or.inr (by decide)) (Or.inr (by decide))).trans pf0
      have v82590 := (yz82618.1 _ 0 (Or.inr (by decide)) (Or.inr (by decide))).trans v82590
      have hfr : (∀ b j : Nat, (tag b ≠ 46 ∨ j ≠ 0) → (tag b ≠ 46 ∨ j ≠ 1) → (tag b ≠ 46 ∨ j ≠ 2) → (tag b ≠ 46 ∨ j ≠ 20) → fld F b j = fld Fo b j) ∧ (∀ b j : Nat, tag b ≠ 37 → tag b ≠ 38 → elm F b j = elm Fo b j) := ⟨fun b j n46_0 n46_1 n46_2 n46_20 => (yz82618.1 b j n46_1 n46_2).trans (hfr.1 b j n46_0 n46_1 n46_2 n46_20), fun b j a37 a38 => (yz82618.2 b j ).trans (hfr.2 b j a37 a38)⟩
      exact t_zret hQ X hT (nar_z (by omega)) (⟨(by omega), hfr⟩) (Nat.le_of_ble_eq_true rfl) (Nat.le_of_ble_eq_true rfl) dX13_lock_35
  · have w82619 := cv_eq (rfl : z82591.toInt = z82591.toInt) (by decide : (0 : Int32).toInt = 0) c82592
    refine lv_aload_n hx hb dX13_lock_14 rfl (lv_at hl 0 rfl) ?_
    refine lv_iconst (v := 1) hx hb dX13_lock_15 (by decide) ?_
    refine t_cVi (n := 1) (C := RX13) (T := TX13) (N := 37) (As := [.int 1]) (rest := []) X hT (km268_X13_denied l G tag L F hT.2.2.2 p0 1 m0 g0) m0 g0 rfl rfl qw_1468 qw_1469 qw_1470 qw_5 qw_1471 ⟨rfl, by decide +kernel, by decide +kernel, by decide +kernel⟩ ⟨Nat.le_of_ble_eq_true rfl, Nat.le_of_ble_eq_true rfl⟩ hl rfl rfl (Nat.le_of_ble_eq_true rfl) dX13_lock_16 ⟨Nat.le_of_ble_eq_true rfl, Nat.le_of_ble_eq_true rfl⟩ (fun z82620 F H locs hT hz82620 => ?_)
    obtain ⟨hz82620, yz82620⟩ := hz82620
    have pf0 := (yz82620.1 _ 3 (Or.inr (by decide)) (Or.inr (by decide))).trans pf0
    have v82590 := (yz82620.1 _ 0 (Or.inr (by decide)) (Or.inr (by decide))).trans v82590
    have hfr : (∀ b j : Nat, (tag b ≠ 46 ∨ j ≠ 0) → (tag b ≠ 46 ∨ j ≠ 1) → (tag b ≠ 46 ∨ j ≠ 2) → (tag b ≠ 46 ∨ j ≠ 20) → fld F b j = fld Fo b j) ∧ (∀ b j : Nat, tag b ≠ 37 → tag b ≠ 38 → elm F b j = elm Fo b j) := ⟨fun b j n46_0 n46_1 n46_2 n46_20 => (yz82620.1 b j n46_1 n46_2).trans (hfr.1 b j n46_0 n46_1 n46_2 n46_20), fun b j a37 a38 => (yz82620.2 b j ).trans (hfr.2 b j a37 a38)⟩
    exact t_zret hQ X hT (nar_z (by omega)) (⟨(by omega), hfr⟩) (Nat.le_of_ble_eq_true rfl) (Nat.le_of_ble_eq_true rfl) dX13_lock_19
