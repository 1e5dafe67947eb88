set_option maxHeartbeats 4000000 in
set_option maxRecDepth 100000 in
theorem kt69_X6_lawDoor (l : Launch) (G : KG) (tag : Nat → Nat) (L : List Nat) (F : Nat → va_E) (ho : okT G ttC tag L F) (p0 : Nat) (p1 : Nat) (p2 : Int32) (m0 : p0 ∈ L) (g0 : tag p0 = 18) (m1 : p1 ∈ L) (g1 : tag p1 = 19) (h2 : 0 ≤ p2.toInt ∧ p2.toInt ≤ 3) : TMi l yX6_lawDoor cX6_lawDoor 12 (some .int) { frames := 3, cells := 0, slots := 0, locals := 77 } G ttC tag L F [.ref p0, .ref p1, .int p2] (fun r F1 => F1 = F ∧ ((-2) ≤ r.toInt ∧ r.toInt ≤ 900)) := by
  refine t_bodyi (y := yX6_lawDoor) (cd := cX6_lawDoor) (mL := 12) (rt := (some .int)) (rm := { frames := 3, cells := 0, slots := 0, locals := 77 }) (av := [.ref p0, .ref p1, .int p2]) (by decide) (Nat.le_of_ble_eq_true rfl) ho ?_
  intro p e s m args below meth c ls A Q hQ X hT hl
  have hx := X.1.1
  have hb := X.1.2.1
  have hl : lv_has ls 12 [(0, .ref p0), (1, .ref p1), (2, .int p2)] := hl
  have K42 : ∀ (n : Nat) (z22391 : Int32) (z22392 : Int32) (z22393 : Int32) (z22394 : Int32) (z22395 : Int32) (z22396 : Int32) (H : Heap) (locs : List Loc) (ls : Array Slot), (4 - z22396.toInt < (n : Int)) → (0 ≤ z22391.toInt ∧ z22391.toInt ≤ 6) → (1 ≤ z22392.toInt ∧ z22392.toInt ≤ 7) → ((-2) ≤ z22394.toInt ∧ z22394.toInt ≤ 900) → (0 ≤ z22396.toInt ∧ z22396.toInt ≤ 4) → TH G ttC A s tag L F H locs → lv_has ls 12 [(0, .ref p0), (1, .ref p1), (2, .int p2), (3, .int z22391), (4, .int z22392), (5, .int z22393), (6, .int z22394), (7, .int z22395), (8, .int z22396)] → W p l e { frames := 3, cells := 0, slots := 0, locals := 77 } s m args below meth c H locs 0 0 Q (F0 m 42 ls []) := by
    intro n
    induction n with
    | zero =>
      intro z22391 z22392 z22393 z22394 z22395 z22396 H locs ls hn rz22391 rz22392 rz22394 rz22396 hT hl
      have rz22393 := rg_all z22393
      have rz22395 := rg_all z22395
      exfalso
      omega
    | succ n ih42 =>
      intro z22391 z22392 z22393 z22394 z22395 z22396 H locs ls hn rz22391 rz22392 rz22394 rz22396 hT hl
      have rz22393 := rg_all z22393
      have rz22395 := rg_all z22395
      have K51 : ∀ (n : Nat) (z22397 : Int32) (z22398 : Int32) (z22400 : Int32) (H : Heap) (locs : List Loc) (ls : Array Slot), (13 - z22400.toInt < (n : Int)) → ((-2) ≤ z22397.toInt ∧ z22397.toInt ≤ 900) → (0 ≤ z22400.toInt ∧ z22400.toInt ≤ 13) → (0 ≤ z22396.toInt ∧ z22396.toInt ≤ 3) → TH G ttC A s tag L F H locs → lv_has ls 12 [(0, .ref p0), (1, .ref p1), (2, .int p2), (3, .int z22391), (4, .int z22392), (5, .int z22393), (6, .int z22397), (7, .int z22398), (8, .int z22396), (9, .int z22400)] → W p l e { frames := 3, cells := 0, slots := 0, locals := 77 } s m args below meth c H locs 0 0 Q (F0 m 51 ls []) := by
        intro n
        induction n with
        | zero =>
          intro z22397 z22398 z22400 H locs ls hn rz22397 rz22400 r9s22399 hT hl
          have rz22398 := rg_all z22398
          exfalso
          omega
        | succ n ih51 =>
          intro z22397 z22398 z22400 H locs ls hn rz22397 rz22400 r9s22399 hT hl
          have rz22398 := rg_all z22398
          have K160 : ∀ (z22401 : Int32) (z22402 : Int32) (z22404 : Int32) (z22405 : Int32) (H : Heap) (locs : List Loc) (ls : Array Slot), ((-2) ≤ z22401.toInt ∧ z22401.toInt ≤ 900) → (0 ≤ z22405.toInt ∧ z22405.toInt ≤ 1) → (0 ≤ z22400.toInt ∧ z22400.toInt ≤ 12) → TH G ttC A s tag L F H locs → lv_has ls 12 [(0, .ref p0), (1, .ref p1), (2, .int p2), (3, .int z22391), (4, .int z22392), (5, .int z22393), (6, .int z22401), (7, .int z22402), (8, .int z22396), (9, .int z22400), (10, .int z22404), (11, .int z22405)] → W p l e { frames := 3, cells := 0, slots := 0, locals := 77 } s m args below meth c H locs 0 0 Q (F0 m 160 ls []) := by
            intro z22401 z22402 z22404 z22405 H locs ls rz22401 rz22405 r9s22403 hT hl
            have rz22402 := rg_all z22402
            have rz22404 := rg_all z22404
            obtain ⟨z22406, ez22406⟩ : ∃ y : Int32, y = z22400 + 1 := ⟨_, rfl⟩
            have hz22406 : z22406.toInt = z22400.toInt + 1 := ar_add ez22406 rfl (by decide : (1 : Int32).toInt = 1) (by omega) (by omega)
            refine lv_iinc (v := z22406) (lv' := [(9, .int z22406), (0, .ref p0), (1, .ref p1), (2, .int p2), (3, .int z22391), (4, .int z22392), (5, .int z22393), (6, .int z22401), (7, .int z22402), (8, .int z22396), (10, .int z22404), (11, .int z22405)]) hx hb dX6_lawDoor_160 hl (k := 9) rfl (by rw [ez22406]; rfl) (by decide) rfl (fun ls hl => ?_)
            refine lv_goto (tgt := 51) hx hb dX6_lawDoor_163 (by decide) ?_
            exact ih51 z22401 z22402 z22406 _ _ _ (by omega) (by omega) (by omega) (by omega) hT  (lv_sub hl [1, 2, 3, 4, 5, 6, 7, 8, 9, 0] rfl)
          have K124 : ∀ (z22408 : Int32) (z22409 : Int32) (H : Heap) (locs : List Loc) (ls : Array Slot), (0 ≤ z22409.toInt ∧ z22409.toInt ≤ 1) → (0 ≤ z22400.toInt ∧ z22400.toInt ≤ 12) → TH G ttC A s tag L F H locs → lv_has ls 12 [(0, .ref p0), (1, .ref p1), (2, .int p2), (3, .int z22391), (4, .int z22392), (5, .int z22393), (6, .int z22397), (7, .int z22398), (8, .int z22396), (9, .int z22400), (10, .int z22408)] → W p l e { frames := 3, cells := 0, slots := 0, locals := 77 } s m args below meth c H locs 0 0 Q (F0 m 124 ls [.int z22409]) := by
            intro z22408 z22409 H locs ls rz22409 r9s22407 hT hl
            have rz22408 := rg_all z22408
            refine lv_istore (lv' := [(11, .int z22409), (0, .ref p0), (1, .ref p1), (2, .int p2), (3, .int z22391), (4, .int z22392), (5, .int z22393), (6, .int z22397), (7, .int z22398), (8, .int z22396), (9, .int z22400), (10, .int z22408)]) hx hb dX6_lawDoor_124 hl (by decide) rfl (fun ls hl => ?_)
            refine lv_iload hx hb dX6_lawDoor_126 (lv_at hl 0 rfl) ?_
            refine lv_if_eq (tgt := 160) hx hb dX6_lawDoor_128 (by decide) (fun c22410 => ?_) (fun c22410 => ?_)
            · have w22411 := cv_eq (rfl : z22409.toInt = z22409.toInt) (by decide : (0 : Int32).toInt = 0) c22410
              exact K160 z22397 z22398 z22408 z22409 _ _ _ (by omega) (by omega) (by omega) hT  (lv_sub hl [1, 2, 3, 4, 5, 6, 7, 8, 9, 10, 11, 0] rfl)
            · have w22412 := cv_ne (rfl : z22409.toInt = z22409.toInt) (by decide : (0 : Int32).toInt = 0) c22410
              refine lv_aload_n hx hb dX6_lawDoor_131 rfl (lv_at hl 1 rfl) ?_
              refine lv_aload_n hx hb dX6_lawDoor_132 rfl (lv_at hl 2 rfl) ?_
              refine lv_iload_n hx hb dX6_lawDoor_133 rfl (lv_at hl 3 rfl) ?_
              refine lv_iload hx hb dX6_lawDoor_134 (lv_at hl 5 rfl) ?_
              refine lv_iload hx hb dX6_lawDoor_136 (lv_at hl 9 rfl) ?_
              refine lv_iload hx hb dX6_lawDoor_138 (lv_at hl 10 rfl) ?_
              refine t_cSi (n := 6) (As := [.ref p0, .ref p1, .int p2, .int z22392, .int z22396, .int z22400]) (rest := []) X hT (kt68_X6_isFrontFree l G tag L F hT.2.2.2 p0 p1 p2 z22392 z22396 z22400 m0 g0 m1 g1 (by omega) (by omega)) qw_781 qw_782 qw_380 qw_783 ⟨by decide +kernel, by decide +kernel, by decide +kernel⟩ ⟨Nat.le_of_ble_eq_true rfl, Nat.le_of_ble_eq_true rfl⟩ hl rfl rfl (Nat.le_of_ble_eq_true rfl) dX6_lawDoor_140 ⟨Nat.le_of_ble_eq_true rfl, Nat.le_of_ble_eq_true rfl⟩ (fun z22413 F9 H locs hT hz22413 => ?_)
              obtain ⟨fz22413, hz22413⟩ := hz22413
              rw [fz22413] at hT
              refine lv_if_eq (tgt := 160) hx hb dX6_lawDoor_143 (by decide) (fun c22414 => ?_) (fun c22414 => ?_)
              · have w22415 := cv_eq (rfl : z22413.toInt = z22413.toInt) (by decide : (0 : Int32).toInt = 0) c22414
                exact K160 z22397 z22398 z22408 z22409 _ _ _ (by omega) (by omega) (by omega) hT  (lv_sub hl [1, 2, 3, 4, 5, 6, 7, 8, 9, 10, 11, 0] rfl)
              · have w22416 := cv_ne (rfl : z22413.toInt = z22413.toInt) (by decide : (0 : Int32).toInt = 0) c22414
                refine lv_bipush (v := 100) hx hb dX6_lawDoor_146 (by decide) ?_
                refine lv_iload hx hb dX6_lawDoor_148 (lv_at hl 9 rfl) ?_
                refine lv_imul hx hb dX6_lawDoor_150 ?_
                refine lv_topi (fun z22417 ez22417 => ?_)
                have hz22417 : z22417.toInt = 100 * z22396.toInt := ar_mul ez22417 (by decide : (100 : Int32).toInt = 100) (rfl : z22396.toInt = z22396.toInt) (by omega) (by omega)
                have rz22417 : 0 ≤ z22417.toInt ∧ z22417.toInt ≤ 300 := by omega
                refine lv_iload hx hb dX6_lawDoor_151 (lv_at hl 10 rfl) ?_
                refine lv_iadd hx hb dX6_lawDoor_153 ?_
                refine lv_topi (fun z22418 ez22418 => ?_)
                have hz22418 : z22418.toInt = z22417.toInt + z22400.toInt := ar_add ez22418 (rfl : z22417.toInt = z22417.toInt) (rfl : z22400.toInt = z22400.toInt) (by omega) (by omega)
                have rz22418 : 0 ≤ z22418.toInt ∧ z22418.toInt ≤ 312 := by omega
                refine lv_istore (lv' := [(6, .int z22418), (11, .int z22409), (0, .ref p0), (1, .ref p1), (2, .int p2), (3, .int z22391), (4, .int z22392), (5, .int z22393), (7, .int z22398), (8, .int z22396), (9, .int z22400), (10, .int z22408)]) hx hb dX6_lawDoor_154 hl (by decide) rfl (fun ls hl => ?_)
                refine lv_iload hx hb dX6_lawDoor_156 (lv_at hl 11 rfl) ?_
                refine lv_istore (lv' := [(7, .int z22408), (6, .int z22418), (11, .int z22409), (0, .ref p0), (1, .ref p1), (2, .int p2), (3, .int z22391), (4, .int z22392), (5, .int z22393), (8, .int z22396), (9, .int z22400), (10, .int z22408)]) hx hb dX6_lawDoor_158 hl (by decide) rfl (fun ls hl => ?_)
                exact K160 z22418 z22408 z22408 z22409 _ _ _ (by omega) (by omega) (by omega) hT  (lv_sub hl [3, 4, 5, 6, 7, 8, 1, 0, 9, 10, 11, 2] rfl)
          have K119 : ∀ (z22420 : Int32) (H : Heap) (locs : List Loc) (ls : Array Slot), (0 ≤ z22400.toInt ∧ z22400.toInt ≤ 12) → TH G ttC A s tag L F H locs → lv_has ls 12 [(0, .ref p0), (1, .ref p1), (2, .int p2), (3, .int z22391), (4, .int z22392), (5, .int z22393), (6, .int z22397), (7, .int z22398), (8, .int z22396), (9, .int z22400), (10, .int z22420)] → W p l e { frames := 3, cells := 0, slots := 0, locals := 77 } s m args below meth c H locs 0 0 Q (F0 m 119 ls []) := by
            intro z22420 H locs ls r9s22419 hT hl
            have rz22420 := rg_all z22420
            refine lv_iconst (v := 1) hx hb dX6_lawDoor_119 (by decide) ?_
            refine lv_goto (tgt := 124) hx hb dX6_lawDoor_120 (by decide) ?_
            exact K124 z22420 1 _ _ _ (by decide) (by omega) hT  (lv_sub hl [0, 1, 2, 3, 4, 5, 6, 7, 8, 9, 10] rfl)
          have K123 : ∀ (z22423 : Int32) (z22424 : Int32) (H : Heap) (locs : List Loc) (ls : Array Slot), (0 ≤ z22424.toInt ∧ z22424.toInt ≤ 1) → ((-1) ≤ z22397.toInt ∧ z22397.toInt ≤ 900) → (0 ≤ z22400.toInt ∧ z22400.toInt ≤ 12) → TH G ttC A s tag L F H locs → fld F p0 2 = .int z22424 → lv_has ls 12 [(0, .ref p0), (1, .ref p1), (2, .int p2), (3, .int z22391), (4, .int z22392), (5, .int z22393), (6, .int z22397), (7, .int z22398), (8, .int z22396), (9, .int z22400), (10, .int z22423)] → W p l e { frames := 3, cells := 0, slots := 0, locals := 77 } s m args below meth c H locs 0 0 Q (F0 m 123 ls []) := by
            intro z22423 z22424 H locs ls rz22424 r9s22421 r9s22422 hT qz22424 hl
            have rz22423 := rg_all z22423
            refine lv_iconst (v := 0) hx hb dX6_lawDoor_123 (by decide) ?_
            exact K124 z22423 0 _ _ _ (by decide) (by omega) hT  (lv_sub hl [0, 1, 2, 3, 4, 5, 6, 7, 8, 9, 10] rfl)
          have K86 : ∀ (z22426 : Int32) (H : Heap) (locs : List Loc) (ls : Array Slot), (0 ≤ z22400.toInt ∧ z22400.toInt ≤ 12) → TH G ttC A s tag L F H locs → lv_has ls 12 [(0, .ref p0), (1, .ref p1), (2, .int p2), (3, .int z22391), (4, .int z22392), (5, .int z22393), (6, .int z22397), (7, .int z22398), (8, .int z22396), (9, .int z22400)] → W p l e { frames := 3, cells := 0, slots := 0, locals := 77 } s m args below meth c H locs 0 0 Q (F0 m 86 ls [.int z22426]) := by
            intro z22426 H locs ls r9s22425 hT hl
            have rz22426 := rg_all z22426
            refine lv_istore (lv' := [(10, .int z22426), (0, .ref p0), (1, .ref p1), (2, .int p2), (3, .int z22391), (4, .int z22392), (5, .int z22393), (6, .int z22397), (7, .int z22398), (8, .int z22396), (9, .int z22400)]) hx hb dX6_lawDoor_86 hl (by decide) rfl (fun ls hl => ?_)
            refine lv_iload hx hb dX6_lawDoor_88 (lv_at hl 7 rfl) ?_
            refine lv_bipush (v := (-2)) hx hb dX6_lawDoor_90 (by decide) ?_
            refine lv_icmp_eq (tgt := 119) hx hb dX6_lawDoor_92 (by decide) (fun c22427 => ?_) (fun c22427 => ?_)
            · have w22428 := cv_eq (rfl : z22397.toInt = z22397.toInt) (by decide : ((-2) : Int32).toInt = (-2)) c22427
              exact K119 z22426 _ _ _ (by omega) hT  (lv_sub hl [1, 2, 3, 4, 5, 6, 7, 8, 9, 10, 0] rfl)
            · have w22429 := cv_ne (rfl : z22397.toInt = z22397.toInt) (by decide : ((-2) : Int32).toInt = (-2)) c22427
              refine lv_aload_n hx hb dX6_lawDoor_95 rfl (lv_at hl 1 rfl) ?_
              refine t_get (C := RX1) (T := TX1) (N := 20) X hT m0 g0 rfl rfl 2 (by decide) qw_916 inlX1 rfl dX6_lawDoor_96 (fun v22430 hv22430 ov22430 => ?_)
              obtain ⟨z22431, rfl, rz22431⟩ := okV_i ov22430
              refine lv_if_eq (tgt := 112) hx hb dX6_lawDoor_99 (by decide) (fun c22432 => ?_) (fun c22432 => ?_)
              · have w22433 := cv_eq (rfl : z22431.toInt = z22431.toInt) (by decide : (0 : Int32).toInt = 0) c22432
                refine lv_iload hx hb dX6_lawDoor_112 (lv_at hl 0 rfl) ?_
                refine lv_iload hx hb dX6_lawDoor_114 (lv_at hl 8 rfl) ?_
                refine lv_icmp_ge (tgt := 123) hx hb dX6_lawDoor_116 (by decide) (fun c22434 => ?_) (fun c22434 => ?_)
                · have w22435 := cv_le (rfl : z22398.toInt = z22398.toInt) (rfl : z22426.toInt = z22426.toInt) c22434
                  exact K123 z22426 z22431 _ _ _ (by omega) (by omega) (by omega) hT hv22430 (lv_sub hl [1, 2, 3, 4, 5, 6, 7, 8, 9, 10, 0] rfl)
                · have w22436 := cv_nle (rfl : z22398.toInt = z22398.toInt) (rfl : z22426.toInt = z22426.toInt) c22434
                  exact K119 z22426 _ _ _ (by omega) hT  (lv_sub hl [1, 2, 3, 4, 5, 6, 7, 8, 9, 10, 0] rfl)
              · have w22437 := cv_ne (rfl : z22431.toInt = z22431.toInt) (by decide : (0 : Int32).toInt = 0) c22432
                refine lv_iload hx hb dX6_lawDoor_102 (lv_at hl 0 rfl) ?_
                refine lv_iload hx hb dX6_lawDoor_104 (lv_at hl 8 rfl) ?_
                refine lv_icmp_le (tgt := 123) hx hb dX6_lawDoor_106 (by decide) (fun c22438 => ?_) (fun c22438 => ?_)
                · have w22439 := cv_le (rfl : z22426.toInt = z22426.toInt) (rfl : z22398.toInt = z22398.toInt) c22438
                  exact K123 z22426 z22431 _ _ _ (by omega) (by omega) (by omega) hT hv22430 (lv_sub hl [1, 2, 3, 4, 5, 6, 7, 8, 9, 10, 0] rfl)
                · have w22440 := cv_nle (rfl : z22426.toInt = z22426.toInt) (rfl : z22398.toInt = z22398.toInt) c22438
                  refine lv_goto (tgt := 119) hx hb dX6_lawDoor_109 (by decide) ?_
                  exact K119 z22426 _ _ _ (by omega) hT  (lv_sub hl [1, 2, 3, 4, 5, 6, 7, 8, 9, 10, 0] rfl)
          refine lv_iload hx hb dX6_lawDoor_51 (lv_at hl 9 rfl) ?_
          refine lv_iconst (v := 2) hx hb dX6_lawDoor_53 (by decide) ?_
          refine lv_iload hx hb dX6_lawDoor_54 (lv_at hl 4 rfl) ?_
          refine lv_imul hx hb dX6_lawDoor_56 ?_
          refine lv_topi (fun z22441 ez22441 => ?_)
          have hz22441 : z22441.toInt = 2 * z22392.toInt := ar_mul ez22441 (by decide : (2 : Int32).toInt = 2) (rfl : z22392.toInt = z22392.toInt) (by omega) (by omega)
          have rz22441 : 2 ≤ z22441.toInt ∧ z22441.toInt ≤ 14 := by omega
          refine lv_iconst (v := 2) hx hb dX6_lawDoor_57 (by decide) ?_
          refine lv_isub hx hb dX6_lawDoor_58 ?_
          refine lv_topi (fun z22442 ez22442 => ?_)
          have hz22442 : z22442.toInt = z22441.toInt - 2 := ar_sub ez22442 (rfl : z22441.toInt = z22441.toInt) (by decide : (2 : Int32).toInt = 2) (by omega) (by omega)
          have rz22442 : 0 ≤ z22442.toInt ∧ z22442.toInt ≤ 12 := by omega
          refine lv_icmp_gt (tgt := 166) hx hb dX6_lawDoor_59 (by decide) (fun c22443 => ?_) (fun c22443 => ?_)
          · have w22444 := cv_lt (rfl : z22442.toInt = z22442.toInt) (rfl : z22400.toInt = z22400.toInt) c22443
            obtain ⟨z22445, ez22445⟩ : ∃ y : Int32, y = z22396 + 1 := ⟨_, rfl⟩
            have hz22445 : z22445.toInt = z22396.toInt + 1 := ar_add ez22445 rfl (by decide : (1 : Int32).toInt = 1) (by omega) (by omega)
            refine lv_iinc (v := z22445) (lv' := [(8, .int z22445), (0, .ref p0), (1, .ref p1), (2, .int p2), (3, .int z22391), (4, .int z22392), (5, .int z22393), (6, .int z22397), (7, .int z22398), (9, .int z22400)]) hx hb dX6_lawDoor_166 hl (k := 8) rfl (by rw [ez22445]; rfl) (by decide) rfl (fun ls hl => ?_)
            refine lv_goto (tgt := 42) hx hb dX6_lawDoor_169 (by decide) ?_
            exact ih42 z22391 z22392 z22393 z22397 z22398 z22445 _ _ _ (by omega) (by omega) (by omega) (by omega) (by omega) hT  (lv_sub hl [1, 2, 3, 4, 5, 6, 7, 8, 0] rfl)
          · have w22446 := cv_nlt (rfl : z22442.toInt = z22442.toInt) (rfl : z22400.toInt = z22400.toInt) c22443
            refine lv_iload_n hx hb dX6_lawDoor_62 rfl (lv_at hl 3 rfl) ?_
            refine lv_if_ne (tgt := 70) hx hb dX6_lawDoor_63 (by decide) (fun c22447 => ?_) (fun c22447 => ?_)
            · have w22448 := cv_ne (rfl : z22391.toInt = z22391.toInt) (by decide : (0 : Int32).toInt = 0) c22447
              refine lv_iload hx hb dX6_lawDoor_70 (lv_at hl 4 rfl) ?_
              refine lv_iload hx hb dX6_lawDoor_72 (lv_at hl 4 rfl) ?_
              refine lv_iload hx hb dX6_lawDoor_74 (lv_at hl 8 rfl) ?_
              refine lv_iload hx hb dX6_lawDoor_76 (lv_at hl 9 rfl) ?_
              refine t_cSi (n := 3) (As := [.int z22392, .int z22396, .int z22400]) (rest := [.int z22392]) X hT (kt27_X4_doorPlace l G tag L F hT.2.2.2 z22392 z22396 z22400 ) qw_784 qw_785 qw_409 qw_786 ⟨by decide +kernel, by decide +kernel, by decide +kernel⟩ ⟨Nat.le_of_ble_eq_true rfl, Nat.le_of_ble_eq_true rfl⟩ hl rfl rfl (Nat.le_of_ble_eq_true rfl) dX6_lawDoor_78 ⟨Nat.le_of_ble_eq_true rfl, Nat.le_of_ble_eq_true rfl⟩ (fun z22449 F9 H locs hT hz22449 => ?_)
              obtain ⟨fz22449, hz22449⟩ := hz22449
              rw [fz22449] at hT
              refine lv_iload hx hb dX6_lawDoor_81 (lv_at hl 5 rfl) ?_
              refine t_cSi (n := 3) (As := [.int z22392, .int z22449, .int z22393]) (rest := []) X hT (kt31_X4_between l G tag L F hT.2.2.2 z22392 z22449 z22393 ) qw_925 qw_926 qw_409 qw_927 ⟨by decide +kernel, by decide +kernel, by decide +kernel⟩ ⟨Nat.le_of_ble_eq_true rfl, Nat.le_of_ble_eq_true rfl⟩ hl rfl rfl (Nat.le_of_ble_eq_true rfl) dX6_lawDoor_83 ⟨Nat.le_of_ble_eq_true rfl, Nat.le_of_ble_eq_true rfl⟩ (fun z22450 F9 H locs hT hz22450 => ?_)
              obtain ⟨fz22450, hz22450⟩ := hz22450
              rw [fz22450] at hT
              exact K86 z22450 _ _ _ (by omega) hT  (lv_sub hl [0, 1, 2, 3, 4, 5, 6, 7, 8, 9] rfl)
            · have w22451 := cv_eq (rfl : z22391.toInt = z22391.toInt) (by decide : (0 : Int32).toInt = 0) c22447
              refine lv_iconst (v := 0) hx hb dX6_lawDoor_66 (by decide) ?_
              refine lv_goto (tgt := 86) hx hb dX6_lawDoor_67 (by decide) ?_
              exact K86 0 _ _ _ (by omega) hT  (lv_sub hl [0, 1, 2, 3, 4, 5, 6, 7, 8, 9] rfl)
      refine lv_iload hx hb dX6_lawDoor_42 (lv_at hl 8 rfl) ?_
      refine lv_iconst (v := 4) hx hb dX6_lawDoor_44 (by decide) ?_
      refine lv_icmp_ge (tgt := 172) hx hb dX6_lawDoor_45 (by decide) (fun c22452 => ?_) (fun c22452 => ?_)
      · have w22453 := cv_le (by decide : (4 : Int32).toInt = 4) (rfl : z22396.toInt = z22396.toInt) c22452
        refine lv_iload hx hb dX6_lawDoor_172 (lv_at hl 6 rfl) ?_
        exact t_iret hQ X hT (⟨rfl, (by omega)⟩) (Nat.le_of_ble_eq_true rfl) (Nat.le_of_ble_eq_true rfl) dX6_lawDoor_174
      · have w22454 := cv_nle (by decide : (4 : Int32).toInt = 4) (rfl : z22396.toInt = z22396.toInt) c22452
        refine lv_iconst (v := 0) hx hb dX6_lawDoor_48 (by decide) ?_
        refine lv_istore (lv' := [(9, .int 0), (0, .ref p0), (1, .ref p1), (2, .int p2), (3, .int z22391), (4, .int z22392), (5, .int z22393), (6, .int z22394), (7, .int z22395), (8, .int z22396)]) hx hb dX6_lawDoor_49 hl (by decide) rfl (fun ls hl => ?_)
        have kk22455 : (0 : Int32).toInt = 0 := by decide
        exact K51 14 z22394 z22395 0 _ _ _ (by omega) (by omega) (by decide) (by omega) hT  (lv_sub hl [1, 2, 3, 4, 5, 6, 7, 8, 9, 0] rfl)
  have K30 : ∀ (z22456 : Int32) (z22457 : Int32) (z22458 : Int32) (H : Heap) (locs : List Loc) (ls : Array Slot), (0 ≤ z22456.toInt ∧ z22456.toInt ≤ 6) → (1 ≤ z22457.toInt ∧ z22457.toInt ≤ 7) → TH G ttC A s tag L F H locs → lv_has ls 12 [(0, .ref p0), (1, .ref p1), (2, .int p2), (3, .int z22456), (4, .int z22457)] → W p l e { frames := 3, cells := 0, slots := 0, locals := 77 } s m args below meth c H locs 0 0 Q (F0 m 30 ls [.int z22458]) := by
    intro z22456 z22457 z22458 H locs ls rz22456 rz22457 hT hl
    have rz22458 := rg_all z22458
    refine lv_istore (lv' := [(5, .int z22458), (0, .ref p0), (1, .ref p1), (2, .int p2), (3, .int z22456), (4, .int z22457)]) hx hb dX6_lawDoor_30 hl (by decide) rfl (fun ls hl => ?_)
    refine lv_bipush (v := (-2)) hx hb dX6_lawDoor_32 (by decide) ?_
    refine lv_istore (lv' := [(6, .int (-2)), (5, .int z22458), (0, .ref p0), (1, .ref p1), (2, .int p2), (3, .int z22456), (4, .int z22457)]) hx hb dX6_lawDoor_34 hl (by decide) rfl (fun ls hl => ?_)
    refine lv_iconst (v := 0) hx hb dX6_lawDoor_36 (by decide) ?_
    refine lv_istore (lv' := [(7, .int 0), (6, .int (-2)), (5, .int z22458), (0, .ref p0), (1, .ref p1), (2, .int p2), (3, .int z22456), (4, .int z22457)]) hx hb dX6_lawDoor_37 hl (by decide) rfl (fun ls hl => ?_)
    refine lv_iconst (v := 0) hx hb dX6_lawDoor_39 (by decide) ?_
    refine lv_istore (lv' := [(8, .int 0), (7, .int 0), (6, .int (-2)), (5, .int z22458), (0, .ref p0), (1, .ref p1), (2, .int p2), (3, .int z22456), (4, .int z22457)]) hx hb dX6_lawDoor_40 hl (by decide) rfl (fun ls hl => ?_)
    have kk22459 : ((-2) : Int32).toInt = (-2) := by decide
    have kk22460 : (0 : Int32).toInt = 0 := by decide
    have kk22461 : (0 : Int32).toInt = 0 := by decide
    exact K42 5 z22456 z22457 z22458 (-2) 0 0 _ _ _ (by omega) (by omega) (by omega) (by decide) (by decide) hT  (lv_sub hl [4, 5, 6, 7, 8, 3, 2, 1, 0] rfl)
  refine lv_aload_n hx hb dX6_lawDoor_0 rfl (lv_at hl 1 rfl) ?_
  refine t_get (C := RX7) (T := TX7) (N := 7) X hT m1 g1 rfl rfl 2 (by decide) qw_383 inlX7 rfl dX6_lawDoor_1 (fun v22462 hv22462 ov22462 => ?_)
  obtain ⟨b22463, rfl, mb22463, gb22463⟩ := okV_r ov22462
  have gb22463 : tag b22463 = 8 := tg_of gb22463
  refine lv_iload_n hx hb dX6_lawDoor_4 rfl (lv_at hl 2 rfl) ?_
  refine t_ild X hT mb22463 gb22463 rfl (by omega) dX6_lawDoor_5 (fun z22464 vz22464 rz22464 => ?_)
  have rz22464 : 0 ≤ z22464.toInt ∧ z22464.toInt ≤ 6 := rz22464
  refine lv_istore_n (lv' := [(3, .int z22464), (0, .ref p0), (1, .ref p1), (2, .int p2)]) hx hb dX6_lawDoor_6 rfl hl (by decide) rfl (fun ls hl => ?_)
  refine lv_iload_n hx hb dX6_lawDoor_7 rfl (lv_at hl 0 rfl) ?_
  refine lv_iconst (v := 1) hx hb dX6_lawDoor_8 (by decide) ?_
  refine lv_iadd hx hb dX6_lawDoor_9 ?_
  refine lv_topi (fun z22465 ez22465 => ?_)
  have hz22465 : z22465.toInt = z22464.toInt + 1 := ar_add ez22465 (rfl : z22464.toInt = z22464.toInt) (by decide : (1 : Int32).toInt = 1) (by omega) (by omega)
  have rz22465 : 1 ≤ z22465.toInt ∧ z22465.toInt ≤ 7 := by omega
  refine lv_istore (lv' := [(4, .int z22465), (3, .int z22464), (0, .ref p0), (1, .ref p1), (2, .int p2)]) hx hb dX6_lawDoor_10 hl (by decide) rfl (fun ls hl => ?_)
  refine lv_iload_n hx hb dX6_lawDoor_12 rfl (lv_at hl 1 rfl) ?_
  refine lv_if_ne (tgt := 20) hx hb dX6_lawDoor_13 (by decide) (fun c22466 => ?_) (fun c22466 => ?_)
  · have w22467 := cv_ne (rfl : z22464.toInt = z22464.toInt) (by decide : (0 : Int32).toInt = 0) c22466
    refine lv_iload_n hx hb dX6_lawDoor_20 rfl (lv_at hl 1 rfl) ?_
    refine lv_aload_n hx hb dX6_lawDoor_21 rfl (lv_at hl 3 rfl) ?_
    refine lv_iload_n hx hb dX6_lawDoor_22 rfl (lv_at hl 4 rfl) ?_
    refine lv_iload_n hx hb dX6_lawDoor_23 rfl (lv_at hl 1 rfl) ?_
    refine t_cVi (n := 2) (C := RX7) (T := TX7) (N := 7) (As := [.int p2, .int z22464]) (rest := [.int z22464]) X hT (kt29_X7_doorOf l G tag L F hT.2.2.2 p1 p2 z22464 m1 g1) m1 g1 rfl rfl qw_917 qw_918 qw_919 qw_22 qw_920 ⟨rfl, by decide +kernel, by decide +kernel, by decide +kernel⟩ ⟨Nat.le_of_ble_eq_true rfl, Nat.le_of_ble_eq_true rfl⟩ hl rfl rfl (Nat.le_of_ble_eq_true rfl) dX6_lawDoor_24 ⟨Nat.le_of_ble_eq_true rfl, Nat.le_of_ble_eq_true rfl⟩ (fun z22468 F9 H locs hT hz22468 => ?_)
    obtain ⟨fz22468, hz22468⟩ := hz22468
    rw [fz22468] at hT
    refine t_cSi (n := 2) (As := [.int z22464, .int z22468]) (rest := []) X hT (kt30_X4_inFront l G tag L F hT.2.2.2 z22464 z22468 ) qw_922 qw_923 qw_409 qw_924 ⟨by decide +kernel, by decide +kernel, by decide +kernel⟩ ⟨Nat.le_of_ble_eq_true rfl, Nat.le_of_ble_eq_true rfl⟩ hl rfl rfl (Nat.le_of_ble_eq_true rfl) dX6_lawDoor_27 ⟨Nat.le_of_ble_eq_true rfl, Nat.le_of_ble_eq_true rfl⟩ (fun z22469 F9 H locs hT hz22469 => ?_)
    obtain ⟨fz22469, hz22469⟩ := hz22469
    rw [fz22469] at hT
    exact K30 z22464 z22465 z22469 _ _ _ (by omega) (by omega) hT  (lv_sub hl [2, 3, 4, 1, 0] rfl)
  · have w22470 := cv_eq (rfl : z22464.toInt = z22464.toInt) (by decide : (0 : Int32).toInt = 0) c22466
    refine lv_iconst (v := 0) hx hb dX6_lawDoor_16 (by decide) ?_
    refine lv_goto (tgt := 30) hx hb dX6_lawDoor_17 (by decide) ?_
    exact K30 z22464 z22465 0 _ _ _ (by omega) (by omega) hT  (lv_sub hl [2, 3, 4, 1, 0] rfl)
set_option maxHeartbeats 4000000 in
set_option maxRecDepth 100000 in
theorem kt70_X7_addSkin (l : Launch) (G : KG) (tag : Nat → Nat) (L : List Nat) (Fo : Nat → va_E) (ho : okT G ttC tag L Fo) (p0 : Nat) (p1 : Int32) (p2 : Int32) (p3 : Int32) (p4 : Int32) (p5 : Int32) (p6 : Int32) (m0 : p0 ∈ L) (g0 : tag p0 = 19) (h1 : 0 ≤ p1.toInt ∧ p1.toInt ≤ 3) : TMv l yX7_addSkin cX7_addSkin 8 { frames := 1, cells := 0, slots := 0, locals := 25 } G ttC tag L Fo [.ref p0, .int p1, .int p2, .int p3, .int p4, .int p5, .int p6] (fun F1 => ∀ b j : Nat, fld F1 b j = fld Fo b j) := by
  refine t_bodyv (y := yX7_addSkin) (cd := cX7_addSkin) (mL := 8) (rm := { frames := 1, cells := 0, slots := 0, locals := 25 }) (av := [.ref p0, .int p1, .int p2, .int p3, .int p4, .int p5, .int p6]) (by decide) (Nat.le_of_ble_eq_true rfl) ho ?_
  intro p e s m args below meth c ls A Q hQ X hT hl
  have hx := X.1.1
  have hb := X.1.2.1
  have hl : lv_has ls 8 [(0, .ref p0), (1, .int p1), (2, .int p2), (3, .int p3), (4, .int p4), (5, .int p5), (6, .int p6)] := hl
  have rp2 := rg_all p2
  have rp3 := rg_all p3
  have rp4 := rg_all p4
  have rp5 := rg_all p5
  have rp6 := rg_all p6
  obtain ⟨F, hFo⟩ : ∃ F : Nat → va_E, F = Fo := ⟨_, rfl⟩
  rw [← hFo] at hT
  have hfr : ∀ b j : Nat, fld F b j = fld Fo b j := by
    rw [hFo]
    intros
    rfl
  refine lv_aload_n hx hb dX7_addSkin_0 rfl (lv_at hl 0 rfl) ?_
  refine t_get (C := RX7) (T := TX7) (N := 7) X hT m0 g0 rfl rfl 2 (by decide) qw_62 inlX7 rfl dX7_addSkin_1 (fun v22706 hv22706 ov22706 => ?_)
  obtain ⟨b22707, rfl, mb22707, gb22707⟩ := okV_r ov22706
  have gb22707 : tag b22707 = 8 := tg_of gb22707
  refine lv_iload_n hx hb dX7_addSkin_4 rfl (lv_at hl 1 rfl) ?_
  refine t_ild X hT mb22707 gb22707 rfl (by omega) dX7_addSkin_5 (fun z22708 vz22708 rz22708 => ?_)
  have rz22708 : 0 ≤ z22708.toInt ∧ z22708.toInt ≤ 6 := rz22708
  refine lv_bipush (v := 6) hx hb dX7_addSkin_6 (by decide) ?_
  refine lv_icmp_lt (tgt := 12) hx hb dX7_addSkin_8 (by decide) (fun c22709 => ?_) (fun c22709 => ?_)
  · have w22710 := cv_lt (rfl : z22708.toInt = z22708.toInt) (by decide : (6 : Int32).toInt = 6) c22709
    refine lv_aload_n hx hb dX7_addSkin_12 rfl (lv_at hl 0 rfl) ?_
    refine t_get (C := RX7) (T := TX7) (N := 7) X hT m0 g0 rfl rfl 2 (by decide) qw_62 inlX7 rfl dX7_addSkin_13 (fun v22711 hv22711 ov22711 => ?_)
    obtain rfl : v22711 = .ref b22707 := hv22711.symm.trans hv22706
    refine lv_iload_n hx hb dX7_addSkin_16 rfl (lv_at hl 1 rfl) ?_
    refine lv_dup2_11 hx hb dX7_addSkin_17 rfl rfl ?_
    refine t_ild X hT mb22707 gb22707 rfl (by omega) dX7_addSkin_18 (fun z22712 vz22712 rz22712 => ?_)
    obtain rfl : z22708 = z22712 := vz22708.symm.trans vz22712
    refine lv_iconst (v := 1) hx hb dX7_addSkin_19 (by decide) ?_
    refine lv_iadd hx hb dX7_addSkin_20 ?_
    refine lv_topi (fun z22713 ez22713 => ?_)
    have hz22713 : z22713.toInt = z22708.toInt + 1 := ar_add ez22713 (rfl : z22708.toInt = z22708.toInt) (by decide : (1 : Int32).toInt = 1) (by omega) (by omega)
    have rz22713 : 1 ≤ z22713.toInt ∧ z22713.toInt ≤ 6 := by omega
    refine t_ist X hT mb22707 gb22707 rfl (by omega) (show 0 ≤ (z22713 : Int32).toInt ∧ (z22713 : Int32).toInt ≤ 6 from (by omega)) dX7_addSkin_21 (fun F H locs hT v22714 h1v22714 h2v22714 => ?_)
    have hv22706 := (h2v22714 _ _).trans hv22706
    have hfr : ∀ b j : Nat, fld F b j = fld Fo b j := fun b j  => (h2v22714 b j).trans (hfr b j )
    refine lv_aload_n hx hb dX7_addSkin_22 rfl (lv_at hl 0 rfl) ?_
    refine t_get (C := RX7) (T := TX7) (N := 7) X hT m0 g0 rfl rfl 2 (by decide) qw_62 inlX7 rfl dX7_addSkin_23 (fun v22715 hv22715 ov22715 => ?_)
    obtain rfl : v22715 = .ref b22707 := hv22715.symm.trans hv22706
    refine lv_iload_n hx hb dX7_addSkin_26 rfl (lv_at hl 1 rfl) ?_
    refine t_ild X hT mb22707 gb22707 rfl (by omega) dX7_addSkin_27 (fun z22716 vz22716 rz22716 => ?_)
    obtain rfl : z22713 = z22716 := v22714.symm.trans vz22716
    refine lv_istore (lv' := [(7, .int z22713), (0, .ref p0), (1, .int p1), (2, .int p2), (3, .int p3), (4, .int p4), (5, .int p5), (6, .int p6)]) hx hb dX7_addSkin_28 hl (by decide) rfl (fun ls hl => ?_)
    refine lv_aload_n hx hb dX7_addSkin_30 rfl (lv_at hl 1 rfl) ?_
    refine lv_iload_n hx hb dX7_addSkin_31 rfl (lv_at hl 2 rfl) ?_
    refine lv_iload hx hb dX7_addSkin_32 (lv_at hl 0 rfl) ?_
    refine lv_iconst (v := 0) hx hb dX7_addSkin_34 (by decide) ?_
    refine lv_iload_n hx hb dX7_addSkin_35 rfl (lv_at hl 3 rfl) ?_
    refine t_cVv (n := 4) (C := RX7) (T := TX7) (N := 7) (As := [.int p1, .int z22713, .int 0, .int p2]) (rest := []) X hT (kt17_X7_setPart l G tag L F hT.2.2.2 p0 p1 z22713 0 p2 m0 g0) m0 g0 rfl rfl qw_422 qw_423 qw_424 qw_22 qw_425 ⟨rfl, by decide +kernel, by decide +kernel, by decide +kernel⟩ ⟨Nat.le_of_ble_eq_true rfl, Nat.le_of_ble_eq_true rfl⟩ hl rfl rfl (Nat.le_of_ble_eq_true rfl) dX7_addSkin_36 ⟨Nat.le_of_ble_eq_true rfl, Nat.le_of_ble_eq_true rfl⟩ (fun F H locs hT hz22717 => ?_)
    have yz22717 := hz22717
    have hv22706 := (yz22717 _ 2 ).trans hv22706
    have hfr : ∀ b j : Nat, fld F b j = fld Fo b j := fun b j  => (yz22717 b j ).trans (hfr b j )
    refine lv_aload_n hx hb dX7_addSkin_39 rfl (lv_at hl 1 rfl) ?_
    refine lv_iload_n hx hb dX7_addSkin_40 rfl (lv_at hl 2 rfl) ?_
    refine lv_iload hx hb dX7_addSkin_41 (lv_at hl 0 rfl) ?_
    refine lv_iconst (v := 1) hx hb dX7_addSkin_43 (by decide) ?_
    refine lv_iload_n hx hb dX7_addSkin_44 rfl (lv_at hl 4 rfl) ?_
    refine t_cVv (n := 4) (C := RX7) (T := TX7) (N := 7) (As := [.int p1, .int z22713, .int 1, .int p3]) (rest := []) X hT (kt17_X7_setPart l G tag L F hT.2.2.2 p0 p1 z22713 1 p3 m0 g0) m0 g0 rfl rfl qw_422 qw_423 qw_424 qw_22 qw_425 ⟨rfl, by decide +kernel, by decide +kernel, by decide +kernel⟩ ⟨Nat.le_of_ble_eq_true rfl, Nat.le_of_ble_eq_true rfl⟩ hl rfl rfl (Nat.le_of_ble_eq_true rfl) dX7_addSkin_45 ⟨Nat.le_of_ble_eq_true rfl, Nat.le_of_ble_eq_true rfl⟩ (fun F H locs hT hz22718 => ?_)
    have yz22718 := hz22718
    have hv22706 := (yz22718 _ 2 ).trans hv22706
    have hfr : ∀ b j : Nat, fld F b j = fld Fo b j := fun b j  => (yz22718 b j ).trans (hfr b j )
    refine lv_aload_n hx hb dX7_addSkin_48 rfl (lv_at hl 1 rfl) ?_
    refine lv_iload_n hx hb dX7_addSkin_49 rfl (lv_at hl 2 rfl) ?_
    refine lv_iload hx hb dX7_addSkin_50 (lv_at hl 0 rfl) ?_
    refine lv_iconst (v := 2) hx hb dX7_addSkin_52 (by decide) ?_
    refine lv_iload hx hb dX7_addSkin_53 (lv_at hl 5 rfl) ?_
    refine t_cVv (n := 4) (C := RX7) (T := TX7) (N := 7) (As := [.int p1, .int z22713, .int 2, .int p4]) (rest := []) X hT (kt17_X7_setPart l G tag L F hT.2.2.2 p0 p1 z22713 2 p4 m0 g0) m0 g0 rfl rfl qw_422 qw_423 qw_424 qw_22 qw_425 ⟨rfl, by decide +kernel, by decide +kernel, by decide +kernel⟩ ⟨Nat.le_of_ble_eq_true rfl, Nat.le_of_ble_eq_true rfl⟩ hl rfl rfl (Nat.le_of_ble_eq_true rfl) dX7_addSkin_55 ⟨Nat.le_of_ble_eq_true rfl, Nat.le_of_ble_eq_true rfl⟩ (fun F H locs hT hz22719 => ?_)
    have yz22719 := hz22719
    have hv22706 := (yz22719 _ 2 ).trans hv22706
    have hfr : ∀ b j : Nat, fld F b j = fld Fo b j := fun b j  => (yz22719 b j ).trans (hfr b j )
    refine lv_aload_n hx hb dX7_addSkin_58 rfl (lv_at hl 1 rfl) ?_
    refine lv_iload_n hx hb dX7_addSkin_59 rfl (lv_at hl 2 rfl) ?_
    refine lv_iload hx hb dX7_addSkin_60 (lv_at hl 0 rfl) ?_
    refine lv_iconst (v := 3) hx hb dX7_addSkin_62 (by decide) ?_
    refine lv_iload hx hb dX7_addSkin_63 (lv_at hl 6 rfl) ?_
    refine t_cVv (n := 4) (C := RX7) (T := TX7) (N := 7) (As := [.int p1, .int z22713, .int 3, .int p5]) (rest := []) X hT (kt17_X7_setPart l G tag L F hT.2.2.2 p0 p1 z22713 3 p5 m0 g0) m0 g0 rfl rfl qw_422 qw_423 qw_424 qw_22 qw_425 ⟨rfl, by decide +kernel, by decide +kernel, by decide +kernel⟩ ⟨Nat.le_of_ble_eq_true rfl, Nat.le_of_ble_eq_true rfl⟩ hl rfl rfl (Nat.le_of_ble_eq_true rfl) dX7_addSkin_65 ⟨Nat.le_of_ble_eq_true rfl, Nat.le_of_ble_eq_true rfl⟩ (fun F H locs hT hz22720 => ?_)
    have yz22720 := hz22720
    have hv22706 := (yz22720 _ 2 ).trans hv22706
    have hfr : ∀ b j : Nat, fld F b j = fld Fo b j := fun b j  => (yz22720 b j ).trans (hfr b j )
    refine lv_aload_n hx hb dX7_addSkin_68 rfl (lv_at hl 1 rfl) ?_
    refine lv_iload_n hx hb dX7_addSkin_69 rfl (lv_at hl 2 rfl) ?_
    refine lv_iload hx hb dX7_addSkin_70 (lv_at hl 0 rfl) ?_
    refine lv_iconst (v := 4) hx hb dX7_addSkin_72 (by decide) ?_
    refine lv_iconst (v := 0) hx hb dX7_addSkin_73 (by decide) ?_
    refine t_cVv (n := 4) (C := RX7) (T := TX7) (N := 7) (As := [.int p1, .int z22713, .int 4, .int 0]) (rest := []) X hT (kt17_X7_setPart l G tag L F hT.2.2.2 p0 p1 z22713 4 0 m0 g0) m0 g0 rfl rfl qw_422 qw_423 qw_424 qw_22 qw_425 ⟨rfl, by decide +kernel, by decide +kernel, by decide +kernel⟩ ⟨Nat.le_of_ble_eq_true rfl, Nat.le_of_ble_eq_true rfl⟩ hl rfl rfl (Nat.le_of_ble_eq_true rfl) dX7_addSkin_74 ⟨Nat.le_of_ble_eq_true rfl, Nat.le_of_ble_eq_true rfl⟩ (fun F H locs hT hz22721 => ?_)
    have yz22721 := hz22721
    have hv22706 := (yz22721 _ 2 ).trans hv22706
    have hfr : ∀ b j : Nat, fld F b j = fld Fo b j := fun b j  => (yz22721 b j ).trans (hfr b j )
    refine lv_aload_n hx hb dX7_addSkin_77 rfl (lv_at hl 1 rfl) ?_
    refine lv_iload_n hx hb dX7_addSkin_78 rfl (lv_at hl 2 rfl) ?_
    refine lv_iload hx hb dX7_addSkin_79 (lv_at hl 0 rfl) ?_
    refine lv_iconst (v := 5) hx hb dX7_addSkin_81 (by decide) ?_
    refine lv_iconst (v := 0) hx hb dX7_addSkin_82 (by decide) ?_
    refine t_cVv (n := 4) (C := RX7) (T := TX7) (N := 7) (As := [.int p1, .int z22713, .int 5, .int 0]) (rest := []) X hT (kt17_X7_setPart l G tag L F hT.2.2.2 p0 p1 z22713 5 0 m0 g0) m0 g0 rfl rfl qw_422 qw_423 qw_424 qw_22 qw_425 ⟨rfl, by decide +kernel, by decide +kernel, by decide +kernel⟩ ⟨Nat.le_of_ble_eq_true rfl, Nat.le_of_ble_eq_true rfl⟩ hl rfl rfl (Nat.le_of_ble_eq_true rfl) dX7_addSkin_83 ⟨Nat.le_of_ble_eq_true rfl, Nat.le_of_ble_eq_true rfl⟩ (fun F H locs hT hz22722 => ?_)
    have yz22722 := hz22722
    have hv22706 := (yz22722 _ 2 ).trans hv22706
    have hfr : ∀ b j : Nat, fld F b j = fld Fo b j := fun b j  => (yz22722 b j ).trans (hfr b j )
    refine lv_aload_n hx hb dX7_addSkin_86 rfl (lv_at hl 1 rfl) ?_
    refine lv_iload_n hx hb dX7_addSkin_87 rfl (lv_at hl 2 rfl) ?_
    refine lv_iload hx hb dX7_addSkin_88 (lv_at hl 0 rfl) ?_
    refine lv_bipush (v := 6) hx hb dX7_addSkin_90 (by decide) ?_
    refine lv_iconst (v := 0) hx hb dX7_addSkin_92 (by decide) ?_
    refine t_cVv (n := 4) (C := RX7) (T := TX7) (N := 7) (As := [.int p1, .int z22713, .int 6, .int 0]) (rest := []) X hT (kt17_X7_setPart l G tag L F hT.2.2.2 p0 p1 z22713 6 0 m0 g0) m0 g0 rfl rfl qw_422 qw_423 qw_424 qw_22 qw_425 ⟨rfl, by decide +kernel, by decide +kernel, by decide +kernel⟩ ⟨Nat.le_of_ble_eq_true rfl, Nat.le_of_ble_eq_true rfl⟩ hl rfl rfl (Nat.le_of_ble_eq_true rfl) dX7_addSkin_93 ⟨Nat.le_of_ble_eq_true rfl, Nat.le_of_ble_eq_true rfl⟩ (fun F H locs hT hz22723 => ?_)
    have yz22723 := hz22723
    have hv22706 := (yz22723 _ 2 ).trans hv22706
    have hfr : ∀ b j : Nat, fld F b j = fld Fo b j := fun b j  => (yz22723 b j ).trans (hfr b j )
    refine lv_aload_n hx hb dX7_addSkin_96 rfl (lv_at hl 1 rfl) ?_
    refine lv_iload_n hx hb dX7_addSkin_97 rfl (lv_at hl 2 rfl) ?_
    refine lv_iload hx hb dX7_addSkin_98 (lv_at hl 0 rfl) ?_
    refine lv_bipush (v := 7) hx hb dX7_addSkin_100 (by decide) ?_
    refine lv_iload hx hb dX7_addSkin_102 (lv_at hl 7 rfl) ?_
    refine t_cVv (n := 4) (C := RX7) (T := TX7) (N := 7) (As := [.int p1, .int z22713, .int 7, .int p6]) (rest := []) X hT (kt17_X7_setPart l G tag L F hT.2.2.2 p0 p1 z22713 7 p6 m0 g0) m0 g0 rfl rfl qw_422 qw_423 qw_424 qw_22 qw_425 ⟨rfl, by decide +kernel, by decide +kernel, by decide +kernel⟩ ⟨Nat.le_of_ble_eq_true rfl, Nat.le_of_ble_eq_true rfl⟩ hl rfl rfl (Nat.le_of_ble_eq_true rfl) dX7_addSkin_104 ⟨Nat.le_of_ble_eq_true rfl, Nat.le_of_ble_eq_true rfl⟩ (fun F H locs hT hz22724 => ?_)
    have yz22724 := hz22724
    have hv22706 := (yz22724 _ 2 ).trans hv22706
    have hfr : ∀ b j : Nat, fld F b j = fld Fo b j := fun b j  => (yz22724 b j ).trans (hfr b j )
    exact t_vret hQ X hT hfr (Nat.le_of_ble_eq_true rfl) (Nat.le_of_ble_eq_true rfl) dX7_addSkin_107
  · have w22725 := cv_nlt (rfl : z22708.toInt = z22708.toInt) (by decide : (6 : Int32).toInt = 6) c22709
    exact t_vret hQ X hT hfr (Nat.le_of_ble_eq_true rfl) (Nat.le_of_ble_eq_true rfl) dX7_addSkin_11
set_option maxHeartbeats 4000000 in
set_option maxRecDepth 100000 in
theorem kt71_X10_grow (l : Launch) (G : KG) (tag : Nat → Nat) (L : List Nat) (Fo : Nat → va_E) (ho : okT G ttC tag L Fo) (p0 : Nat) (p1 : Nat) (p2 : Int32) (m0 : p0 ∈ L) (g0 : tag p0 = 18) (m1 : p1 ∈ L) (g1 : tag p1 = 19) (h2 : 0 ≤ p2.toInt ∧ p2.toInt ≤ 3) : TMv l yX10_grow cX10_grow 6 { frames := 4, cells := 0, slots := 0, locals := 108 } G ttC tag L Fo [.ref p0, .ref p1, .int p2] (fun F1 => ∀ b j : Nat, fld F1 b j = fld Fo b j) := by
  refine t_bodyv (y := yX10_grow) (cd := cX10_grow) (mL := 6) (rm := { frames := 4, cells := 0, slots := 0, locals := 108 }) (av := [.ref p0, .ref p1, .int p2]) (by decide) (Nat.le_of_ble_eq_true rfl) ho ?_
  intro p e s m args below meth c ls A Q hQ X hT hl
  have hx := X.1.1
  have hb := X.1.2.1
  have hl : lv_has ls 6 [(0, .ref p0), (1, .ref p1), (2, .int p2)] := hl
  obtain ⟨F, hFo⟩ : ∃ F : Nat → va_E, F = Fo := ⟨_, rfl⟩
  rw [← hFo] at hT
  have hfr : ∀ b j : Nat, fld F b j = fld Fo b j := by
    rw [hFo]
    intros
    rfl
  refine lv_aload_n hx hb dX10_grow_0 rfl (lv_at hl 0 rfl) ?_
  refine t_get (C := RX1) (T := TX1) (N := 20) X hT m0 g0 rfl rfl 13 (by decide) qw_1131 inlX1 rfl dX10_grow_1 (fun v23039 hv23039 ov23039 => ?_)
  obtain ⟨b23040, rfl, mb23040, gb23040⟩ := okV_r ov23039
  have gb23040 : tag b23040 = 5 := tg_of gb23040
  refine lv_iload_n hx hb dX10_grow_4 rfl (lv_at hl 2 rfl) ?_
  refine t_ild X hT mb23040 gb23040 rfl (by omega) dX10_grow_5 (fun z23041 vz23041 rz23041 => ?_)
  have rz23041 : (-2147483648) ≤ z23041.toInt ∧ z23041.toInt ≤ 2147483647 := rz23041
  refine lv_istore_n (lv' := [(3, .int z23041), (0, .ref p0), (1, .ref p1), (2, .int p2)]) hx hb dX10_grow_6 rfl hl (by decide) rfl (fun ls hl => ?_)
  refine lv_aload_n hx hb dX10_grow_7 rfl (lv_at hl 1 rfl) ?_
  refine lv_aload_n hx hb dX10_grow_8 rfl (lv_at hl 2 rfl) ?_
  refine lv_iload_n hx hb dX10_grow_9 rfl (lv_at hl 3 rfl) ?_
  refine lv_iload_n hx hb dX10_grow_10 rfl (lv_at hl 0 rfl) ?_
  refine t_cSi (n := 4) (As := [.ref p0, .ref p1, .int p2, .int z23041]) (rest := []) X hT (kt65_X6_priceOf l G tag L F hT.2.2.2 p0 p1 p2 z23041 m0 g0 m1 g1 (by omega)) qw_1132 qw_960 qw_380 qw_961 ⟨by decide +kernel, by decide +kernel, by decide +kernel⟩ ⟨Nat.le_of_ble_eq_true rfl, Nat.le_of_ble_eq_true rfl⟩ hl rfl rfl (Nat.le_of_ble_eq_true rfl) dX10_grow_11 ⟨Nat.le_of_ble_eq_true rfl, Nat.le_of_ble_eq_true rfl⟩ (fun z23042 F9 H locs hT hz23042 => ?_)
  obtain ⟨fz23042, hz23042⟩ := hz23042
  rw [fz23042] at hT
  refine lv_istore (lv' := [(4, .int z23042), (3, .int z23041), (0, .ref p0), (1, .ref p1), (2, .int p2)]) hx hb dX10_grow_14 hl (by decide) rfl (fun ls hl => ?_)
  refine lv_iload hx hb dX10_grow_16 (lv_at hl 0 rfl) ?_
  refine lv_aload_n hx hb dX10_grow_18 rfl (lv_at hl 3 rfl) ?_
  refine t_get (C := RX7) (T := TX7) (N := 7) X hT m1 g1 rfl rfl 4 (by decide) qw_1106 inlX7 rfl dX10_grow_19 (fun v23043 hv23043 ov23043 => ?_)
  obtain ⟨b23044, rfl, mb23044, gb23044⟩ := okV_r ov23043
  have gb23044 : tag b23044 = 5 := tg_of gb23044
  refine lv_iload_n hx hb dX10_grow_22 rfl (lv_at hl 4 rfl) ?_
  refine t_ild X hT mb23044 gb23044 rfl (by omega) dX10_grow_23 (fun z23045 vz23045 rz23045 => ?_)
  have rz23045 : (-2147483648) ≤ z23045.toInt ∧ z23045.toInt ≤ 2147483647 := rz23045
  refine lv_icmp_gt (tgt := 36) hx hb dX10_grow_24 (by decide) (fun c23046 => ?_) (fun c23046 => ?_)
  · have w23047 := cv_lt (rfl : z23045.toInt = z23045.toInt) (rfl : z23042.toInt = z23042.toInt) c23046
    exact t_vret hQ X hT hfr (Nat.le_of_ble_eq_true rfl) (Nat.le_of_ble_eq_true rfl) dX10_grow_36
  · have w23048 := cv_nlt (rfl : z23045.toInt = z23045.toInt) (rfl : z23042.toInt = z23042.toInt) c23046
    refine lv_aload_n hx hb dX10_grow_27 rfl (lv_at hl 2 rfl) ?_
    refine lv_aload_n hx hb dX10_grow_28 rfl (lv_at hl 3 rfl) ?_
    refine lv_iload_n hx hb dX10_grow_29 rfl (lv_at hl 4 rfl) ?_
    refine t_cSi (n := 3) (As := [.ref p0, .ref p1, .int p2]) (rest := []) X hT (kt66_X6_isFit l G tag L F hT.2.2.2 p0 p1 p2 m0 g0 m1 g1 (by omega)) qw_1133 qw_403 qw_380 qw_404 ⟨by decide +kernel, by decide +kernel, by decide +kernel⟩ ⟨Nat.le_of_ble_eq_true rfl, Nat.le_of_ble_eq_true rfl⟩ hl rfl rfl (Nat.le_of_ble_eq_true rfl) dX10_grow_30 ⟨Nat.le_of_ble_eq_true rfl, Nat.le_of_ble_eq_true rfl⟩ (fun z23049 F9 H locs hT hz23049 => ?_)
    obtain ⟨fz23049, hz23049⟩ := hz23049
    rw [fz23049] at hT
    refine lv_if_ne (tgt := 37) hx hb dX10_grow_33 (by decide) (fun c23050 => ?_) (fun c23050 => ?_)
    · have w23051 := cv_ne (rfl : z23049.toInt = z23049.toInt) (by decide : (0 : Int32).toInt = 0) c23050
      refine lv_aload_n hx hb dX10_grow_37 rfl (lv_at hl 2 rfl) ?_
      refine lv_aload_n hx hb dX10_grow_38 rfl (lv_at hl 3 rfl) ?_
      refine lv_iload_n hx hb dX10_grow_39 rfl (lv_at hl 4 rfl) ?_
      refine t_cSi (n := 3) (As := [.ref p0, .ref p1, .int p2]) (rest := []) X hT (kt69_X6_lawDoor l G tag L F hT.2.2.2 p0 p1 p2 m0 g0 m1 g1 (by omega)) qw_1134 qw_914 qw_380 qw_915 ⟨by decide +kernel, by decide +kernel, by decide +kernel⟩ ⟨Nat.le_of_ble_eq_true rfl, Nat.le_of_ble_eq_true rfl⟩ hl rfl rfl (Nat.le_of_ble_eq_true rfl) dX10_grow_40 ⟨Nat.le_of_ble_eq_true rfl, Nat.le_of_ble_eq_true rfl⟩ (fun z23052 F9 H locs hT hz23052 => ?_)
      obtain ⟨fz23052, hz23052⟩ := hz23052
      rw [fz23052] at hT
      refine lv_istore (lv' := [(5, .int z23052), (4, .int z23042), (3, .int z23041), (0, .ref p0), (1, .ref p1), (2, .int p2)]) hx hb dX10_grow_43 hl (by decide) rfl (fun ls hl => ?_)
      refine lv_iload hx hb dX10_grow_45 (lv_at hl 0 rfl) ?_
      refine lv_bipush (v := (-2)) hx hb dX10_grow_47 (by decide) ?_
      refine lv_icmp_ne (tgt := 53) hx hb dX10_grow_49 (by decide) (fun c23053 => ?_) (fun c23053 => ?_)
      · have w23054 := cv_ne (rfl : z23052.toInt = z23052.toInt) (by decide : ((-2) : Int32).toInt = (-2)) c23053
        refine lv_aload_n hx hb dX10_grow_53 rfl (lv_at hl 4 rfl) ?_
        refine t_get (C := RX7) (T := TX7) (N := 7) X hT m1 g1 rfl rfl 4 (by decide) qw_1106 inlX7 rfl dX10_grow_54 (fun v23055 hv23055 ov23055 => ?_)
        obtain rfl : v23055 = .ref b23044 := hv23055.symm.trans hv23043
        refine lv_iload_n hx hb dX10_grow_57 rfl (lv_at hl 5 rfl) ?_
        refine lv_dup2_11 hx hb dX10_grow_58 rfl rfl ?_
        refine t_ild X hT mb23044 gb23044 rfl (by omega) dX10_grow_59 (fun z23056 vz23056 rz23056 => ?_)
        obtain rfl : z23045 = z23056 := vz23045.symm.trans vz23056
        refine lv_iload hx hb dX10_grow_60 (lv_at hl 1 rfl) ?_
        refine lv_isub hx hb dX10_grow_62 ?_
        refine lv_topi (fun z23057 ez23057 => ?_)
        have rz23057 := rg_all z23057
        refine t_ist X hT mb23044 gb23044 rfl (by omega) (show (-2147483648) ≤ (z23057 : Int32).toInt ∧ (z23057 : Int32).toInt ≤ 2147483647 from (by omega)) dX10_grow_63 (fun F H locs hT v23058 h1v23058 h2v23058 => ?_)
        have hv23039 := (h2v23058 _ _).trans hv23039
        have hv23043 := (h2v23058 _ _).trans hv23043
        have hfr : ∀ b j : Nat, fld F b j = fld Fo b j := fun b j  => (h2v23058 b j).trans (hfr b j )
        refine lv_aload_n hx hb dX10_grow_64 rfl (lv_at hl 4 rfl) ?_
        refine lv_iload_n hx hb dX10_grow_65 rfl (lv_at hl 5 rfl) ?_
        refine lv_iload_n hx hb dX10_grow_66 rfl (lv_at hl 2 rfl) ?_
        refine lv_iload hx hb dX10_grow_67 (lv_at hl 0 rfl) ?_
        refine lv_bipush (v := 100) hx hb dX10_grow_69 (by decide) ?_
        refine lv_idiv hx hb dX10_grow_71 (by decide) ?_
        refine lv_topi (fun z23059 ez23059 => ?_)
        have rz23059 := rg_all z23059
        refine lv_iload hx hb dX10_grow_72 (lv_at hl 0 rfl) ?_
        refine lv_bipush (v := 100) hx hb dX10_grow_74 (by decide) ?_
        refine lv_irem hx hb dX10_grow_76 (by decide) ?_
        refine lv_topi (fun z23060 ez23060 => ?_)
        have rz23060 := rg_all z23060
        refine lv_aload_n hx hb dX10_grow_77 rfl (lv_at hl 4 rfl) ?_
        refine t_get (C := RX7) (T := TX7) (N := 7) X hT m1 g1 rfl rfl 3 (by decide) qw_1101 inlX7 rfl dX10_grow_78 (fun v23061 hv23061 ov23061 => ?_)
        obtain ⟨b23062, rfl, mb23062, gb23062⟩ := okV_r ov23061
        have gb23062 : tag b23062 = 5 := tg_of gb23062
        refine lv_iload_n hx hb dX10_grow_81 rfl (lv_at hl 5 rfl) ?_
        refine t_ild X hT mb23062 gb23062 rfl (by omega) dX10_grow_82 (fun z23063 vz23063 rz23063 => ?_)
        have rz23063 : (-2147483648) ≤ z23063.toInt ∧ z23063.toInt ≤ 2147483647 := rz23063
        refine lv_bipush (v := 10) hx hb dX10_grow_83 (by decide) ?_
        refine lv_irem hx hb dX10_grow_85 (by decide) ?_
        refine lv_topi (fun z23064 ez23064 => ?_)
        have rz23064 := rg_all z23064
        refine lv_aload_n hx hb dX10_grow_86 rfl (lv_at hl 4 rfl) ?_
        refine t_get (C := RX7) (T := TX7) (N := 7) X hT m1 g1 rfl rfl 0 (by decide) qw_1102 inlX7 rfl dX10_grow_87 (fun v23065 hv23065 ov23065 => ?_)
        obtain ⟨z23066, rfl, rz23066⟩ := okV_i ov23065
        refine t_cVv (n := 6) (C := RX7) (T := TX7) (N := 7) (As := [.int p2, .int z23041, .int z23059, .int z23060, .int z23064, .int z23066]) (rest := []) X hT (kt70_X7_addSkin l G tag L F hT.2.2.2 p1 p2 z23041 z23059 z23060 z23064 z23066 m1 g1 (by omega)) m1 g1 rfl rfl qw_1135 qw_419 qw_420 qw_22 qw_421 ⟨rfl, by decide +kernel, by decide +kernel, by decide +kernel⟩ ⟨Nat.le_of_ble_eq_true rfl, Nat.le_of_ble_eq_true rfl⟩ hl rfl rfl (Nat.le_of_ble_eq_true rfl) dX10_grow_90 ⟨Nat.le_of_ble_eq_true rfl, Nat.le_of_ble_eq_true rfl⟩ (fun F H locs hT hz23067 => ?_)
        have yz23067 := hz23067
        have hv23039 := (yz23067 _ 13 ).trans hv23039
        have hv23043 := (yz23067 _ 4 ).trans hv23043
        have hv23061 := (yz23067 _ 3 ).trans hv23061
        have hv23065 := (yz23067 _ 0 ).trans hv23065
        have hfr : ∀ b j : Nat, fld F b j = fld Fo b j := fun b j  => (yz23067 b j ).trans (hfr b j )
        exact t_vret hQ X hT hfr (Nat.le_of_ble_eq_true rfl) (Nat.le_of_ble_eq_true rfl) dX10_grow_93
      · have w23068 := cv_eq (rfl : z23052.toInt = z23052.toInt) (by decide : ((-2) : Int32).toInt = (-2)) c23053
        exact t_vret hQ X hT hfr (Nat.le_of_ble_eq_true rfl) (Nat.le_of_ble_eq_true rfl) dX10_grow_52
    · have w23069 := cv_eq (rfl : z23049.toInt = z23049.toInt) (by decide : (0 : Int32).toInt = 0) c23050
      exact t_vret hQ X hT hfr (Nat.le_of_ble_eq_true rfl) (Nat.le_of_ble_eq_true rfl) dX10_grow_36
set_option maxHeartbeats 4000000 in
set_option maxRecDepth 100000 in
theorem kt72_X7_draw (l : Launch) (G : KG) (tag : Nat → Nat) (L : List Nat) (Fo : Nat → va_E) (ho : okT G ttC tag L Fo) (p0 : Nat) (m0 : p0 ∈ L) (g0 : tag p0 = 19) : TMi l yX7_draw cX7_draw 1 (some .int) { frames := 0, cells := 0, slots := 0, locals := 0 } G ttC tag L Fo [.ref p0] (fun r F1 => ((-2147483648) ≤ r.toInt ∧ r.toInt ≤ 2147483647) ∧ (∀ b j : Nat, (tag b ≠ 19 ∨ j ≠ 1) → fld F1 b j = fld Fo b j)) := by
  refine t_bodyi (y := yX7_draw) (cd := cX7_draw) (mL := 1) (rt := (some .int)) (rm := { frames := 0, cells := 0, slots := 0, locals := 0 }) (av := [.ref p0]) (by decide) (Nat.le_of_ble_eq_true rfl) ho ?_
  intro p e s m args below meth c ls A Q hQ X hT hl
  have hx := X.1.1
  have hb := X.1.2.1
  have hl : lv_has ls 1 [(0, .ref p0)] := hl
  obtain ⟨F, hFo⟩ : ∃ F : Nat → va_E, F = Fo := ⟨_, rfl⟩
  rw [← hFo] at hT
  have hfr : ∀ b j : Nat, (tag b ≠ 19 ∨ j ≠ 1) → fld F b j = fld Fo b j := by
    rw [hFo]
    intros
    rfl
  refine lv_aload_n hx hb dX7_draw_0 rfl (lv_at hl 0 rfl) ?_
  refine lv_bipush (v := 75) hx hb dX7_draw_1 (by decide) ?_
  refine lv_aload_n hx hb dX7_draw_3 rfl (lv_at hl 0 rfl) ?_
  refine t_get (C := RX7) (T := TX7) (N := 7) X hT m0 g0 rfl rfl 1 (by decide) qw_188 inlX7 rfl dX7_draw_4 (fun v23160 hv23160 ov23160 => ?_)
  obtain ⟨z23161, rfl, rz23161⟩ := okV_i ov23160
  refine lv_imul hx hb dX7_draw_7 ?_
  refine lv_topi (fun z23162 ez23162 => ?_)
  have rz23162 := rg_all z23162
  refine lv_bipush (v := 74) hx hb dX7_draw_8 (by decide) ?_
  refine lv_iadd hx hb dX7_draw_10 ?_
  refine lv_topi (fun z23163 ez23163 => ?_)
  have rz23163 := rg_all z23163
  refine m_ldc X qw_1115 dX7_draw_11 ?_
  refine lv_irem hx hb dX7_draw_13 (by decide) ?_
  refine lv_topi (fun z23164 ez23164 => ?_)
  have rz23164 := rg_all z23164
  refine t_put (C := RX7) (T := TX7) (N := 7) (v := .int z23164) X hT m0 g0 rfl tyX7 tyX7_ok nmX7 rfl 1 (by decide) qw_188 inlX7 rfl (by first | rfl | decide) (by first | rfl | decide) rfl (⟨_, rfl, (by omega), (by omega)⟩) dX7_draw_14 (fun F H locs hT v23165 h1v23165 h2v23165 => ?_)
  have hfr : ∀ b j : Nat, (tag b ≠ 19 ∨ j ≠ 1) → fld F b j = fld Fo b j := fun b j n19_1 => (h1v23165 b j (fr_ne g0 n19_1)).trans (hfr b j n19_1)
  refine lv_aload_n hx hb dX7_draw_17 rfl (lv_at hl 0 rfl) ?_
  refine t_get (C := RX7) (T := TX7) (N := 7) X hT m0 g0 rfl rfl 1 (by decide) qw_188 inlX7 rfl dX7_draw_18 (fun v23166 hv23166 ov23166 => ?_)
  obtain rfl : v23166 = .int z23164 := hv23166.symm.trans v23165
  exact t_iret hQ X hT (⟨rg_all _, hfr⟩) (Nat.le_of_ble_eq_true rfl) (Nat.le_of_ble_eq_true rfl) dX7_draw_21
set_option maxHeartbeats 4000000 in
set_option maxRecDepth 100000 in
theorem kt73_X10_rotAll (l : Launch) (G : KG) (tag : Nat → Nat) (L : List Nat) (Fo : Nat → va_E) (ho : okT G ttC tag L Fo) (p0 : Nat) (p1 : Nat) (p2 : Int32) (m0 : p0 ∈ L) (g0 : tag p0 = 18) (m1 : p1 ∈ L) (g1 : tag p1 = 19) (h2 : 0 ≤ p2.toInt ∧ p2.toInt ≤ 3) : TMv l yX10_rotAll cX10_rotAll 6 { frames := 3, cells := 0, slots := 0, locals := 68 } G ttC tag L Fo [.ref p0, .ref p1, .int p2] (fun F1 => ∀ b j : Nat, fld F1 b j = fld Fo b j) := by
  refine t_bodyv (y := yX10_rotAll) (cd := cX10_rotAll) (mL := 6) (rm := { frames := 3, cells := 0, slots := 0, locals := 68 }) (av := [.ref p0, .ref p1, .int p2]) (by decide) (Nat.le_of_ble_eq_true rfl) ho ?_
  intro p e s m args below meth c ls A Q hQ X hT hl
  have hx := X.1.1
  have hb := X.1.2.1
  have hl : lv_has ls 6 [(0, .ref p0), (1, .ref p1), (2, .int p2)] := hl
  obtain ⟨F, hFo⟩ : ∃ F : Nat → va_E, F = Fo := ⟨_, rfl⟩
  rw [← hFo] at hT
  have hfr : ∀ b j : Nat, fld F b j = fld Fo b j := by
    rw [hFo]
    intros
    rfl
  have K2 : ∀ (n : Nat) (z23900 : Int32) (F : Nat → va_E) (H : Heap) (locs : List Loc) (ls : Array Slot), (7 - z23900.toInt < (n : Int)) → (1 ≤ z23900.toInt ∧ z23900.toInt ≤ 7) → TH G ttC A s tag L F H locs → (∀ b j : Nat, fld F b j = fld Fo b j) → lv_has ls 6 [(0, .ref p0), (1, .ref p1), (2, .int p2), (3, .int z23900)] → W p l e { frames := 3, cells := 0, slots := 0, locals := 68 } s m args below meth c H locs 0 0 Q (F0 m 2 ls []) := by
    intro n
    induction n with
    | zero =>
      intro z23900 F H locs ls hn rz23900 hT hfr hl
      exfalso
      omega
    | succ n ih2 =>
      intro z23900 F H locs ls hn rz23900 hT hfr hl
      have K113 : ∀  (F : Nat → va_E) (H : Heap) (locs : List Loc) (ls : Array Slot), (1 ≤ z23900.toInt ∧ z23900.toInt ≤ 6) → TH G ttC A s tag L F H locs → (∀ b j : Nat, fld F b j = fld Fo b j) → lv_has ls 6 [(0, .ref p0), (1, .ref p1), (2, .int p2), (3, .int z23900)] → W p l e { frames := 3, cells := 0, slots := 0, locals := 68 } s m args below meth c H locs 0 0 Q (F0 m 113 ls []) := by
        intro F H locs ls r9s23901 hT hfr hl
        obtain ⟨z23902, ez23902⟩ : ∃ y : Int32, y = z23900 + 1 := ⟨_, rfl⟩
        have hz23902 : z23902.toInt = z23900.toInt + 1 := ar_add ez23902 rfl (by decide : (1 : Int32).toInt = 1) (by omega) (by omega)
        refine lv_iinc (v := z23902) (lv' := [(3, .int z23902), (0, .ref p0), (1, .ref p1), (2, .int p2)]) hx hb dX10_rotAll_113 hl (k := 3) rfl (by rw [ez23902]; rfl) (by decide) rfl (fun ls hl => ?_)
        refine lv_goto (tgt := 2) hx hb dX10_rotAll_116 (by decide) ?_
        exact ih2 z23902 _ _ _ _ (by omega) (by omega) hT hfr  (lv_sub hl [1, 2, 3, 0] rfl)
      have K84 : ∀ (z23904 : Int32) (z23905 : Int32) (F : Nat → va_E) (H : Heap) (locs : List Loc) (ls : Array Slot), (1 ≤ z23900.toInt ∧ z23900.toInt ≤ 6) → TH G ttC A s tag L F H locs → (∀ b j : Nat, fld F b j = fld Fo b j) → lv_has ls 6 [(0, .ref p0), (1, .ref p1), (2, .int p2), (3, .int z23900), (4, .int z23904), (5, .int z23905)] → W p l e { frames := 3, cells := 0, slots := 0, locals := 68 } s m args below meth c H locs 0 0 Q (F0 m 84 ls []) := by
        intro z23904 z23905 F H locs ls r9s23903 hT hfr hl
        have rz23904 := rg_all z23904
        have rz23905 := rg_all z23905
        refine lv_aload_n hx hb dX10_rotAll_84 rfl (lv_at hl 1 rfl) ?_
        refine lv_iload_n hx hb dX10_rotAll_85 rfl (lv_at hl 2 rfl) ?_
        refine lv_iload_n hx hb dX10_rotAll_86 rfl (lv_at hl 3 rfl) ?_
        refine lv_iconst (v := 4) hx hb dX10_rotAll_87 (by decide) ?_
        refine lv_iload hx hb dX10_rotAll_88 (lv_at hl 5 rfl) ?_
        refine t_cVv (n := 4) (C := RX7) (T := TX7) (N := 7) (As := [.int p2, .int z23900, .int 4, .int z23905]) (rest := []) X hT (kt17_X7_setPart l G tag L F hT.2.2.2 p1 p2 z23900 4 z23905 m1 g1) m1 g1 rfl rfl qw_1124 qw_423 qw_424 qw_22 qw_425 ⟨rfl, by decide +kernel, by decide +kernel, by decide +kernel⟩ ⟨Nat.le_of_ble_eq_true rfl, Nat.le_of_ble_eq_true rfl⟩ hl rfl rfl (Nat.le_of_ble_eq_true rfl) dX10_rotAll_90 ⟨Nat.le_of_ble_eq_true rfl, Nat.le_of_ble_eq_true rfl⟩ (fun F H locs hT hz23906 => ?_)
        have yz23906 := hz23906
        have hfr : ∀ b j : Nat, fld F b j = fld Fo b j := fun b j  => (yz23906 b j ).trans (hfr b j )
        refine lv_iload hx hb dX10_rotAll_93 (lv_at hl 5 rfl) ?_
        refine lv_aload_n hx hb dX10_rotAll_95 rfl (lv_at hl 0 rfl) ?_
        refine lv_iload hx hb dX10_rotAll_96 (lv_at hl 4 rfl) ?_
        refine lv_iconst (v := 4) hx hb dX10_rotAll_98 (by decide) ?_
        refine t_cVi (n := 2) (C := RX1) (T := TX1) (N := 20) (As := [.int z23904, .int 4]) (rest := [.int z23905]) X hT (kt48_X1_stonePart l G tag L F hT.2.2.2 p0 z23904 4 m0 g0) m0 g0 rfl rfl qw_1122 qw_858 qw_859 qw_17 qw_860 ⟨rfl, by decide +kernel, by decide +kernel, by decide +kernel⟩ ⟨Nat.le_of_ble_eq_true rfl, Nat.le_of_ble_eq_true rfl⟩ hl rfl rfl (Nat.le_of_ble_eq_true rfl) dX10_rotAll_99 ⟨Nat.le_of_ble_eq_true rfl, Nat.le_of_ble_eq_true rfl⟩ (fun z23907 F9 H locs hT hz23907 => ?_)
        obtain ⟨fz23907, hz23907⟩ := hz23907
        rw [fz23907] at hT
        refine lv_icmp_lt (tgt := 113) hx hb dX10_rotAll_102 (by decide) (fun c23908 => ?_) (fun c23908 => ?_)
        · have w23909 := cv_lt (rfl : z23905.toInt = z23905.toInt) (rfl : z23907.toInt = z23907.toInt) c23908
          exact K113  _ _ _ _ (by omega) hT hfr  (lv_sub hl [0, 1, 2, 3] rfl)
        · have w23910 := cv_nlt (rfl : z23905.toInt = z23905.toInt) (rfl : z23907.toInt = z23907.toInt) c23908
          refine lv_aload_n hx hb dX10_rotAll_105 rfl (lv_at hl 1 rfl) ?_
          refine lv_iload_n hx hb dX10_rotAll_106 rfl (lv_at hl 2 rfl) ?_
          refine lv_iload_n hx hb dX10_rotAll_107 rfl (lv_at hl 3 rfl) ?_
          refine lv_iconst (v := 5) hx hb dX10_rotAll_108 (by decide) ?_
          refine lv_iconst (v := 1) hx hb dX10_rotAll_109 (by decide) ?_
          refine t_cVv (n := 4) (C := RX7) (T := TX7) (N := 7) (As := [.int p2, .int z23900, .int 5, .int 1]) (rest := []) X hT (kt17_X7_setPart l G tag L F hT.2.2.2 p1 p2 z23900 5 1 m1 g1) m1 g1 rfl rfl qw_1124 qw_423 qw_424 qw_22 qw_425 ⟨rfl, by decide +kernel, by decide +kernel, by decide +kernel⟩ ⟨Nat.le_of_ble_eq_true rfl, Nat.le_of_ble_eq_true rfl⟩ hl rfl rfl (Nat.le_of_ble_eq_true rfl) dX10_rotAll_110 ⟨Nat.le_of_ble_eq_true rfl, Nat.le_of_ble_eq_true rfl⟩ (fun F H locs hT hz23911 => ?_)
          have yz23911 := hz23911
          have hfr : ∀ b j : Nat, fld F b j = fld Fo b j := fun b j  => (yz23911 b j ).trans (hfr b j )
          exact K113  _ _ _ _ (by omega) hT hfr  (lv_sub hl [0, 1, 2, 3] rfl)
      have K81 : ∀ (z23913 : Int32) (z23914 : Int32) (z23915 : Int32) (z23916 : Int32) (F : Nat → va_E) (H : Heap) (locs : List Loc) (ls : Array Slot), (1 ≤ z23915.toInt ∧ z23915.toInt ≤ 2) → (2 ≤ z23900.toInt ∧ z23900.toInt ≤ 6) → TH G ttC A s tag L F H locs → (∀ b j : Nat, fld F b j = fld Fo b j) → lv_has ls 6 [(0, .ref p0), (1, .ref p1), (2, .int p2), (3, .int z23900), (4, .int z23913), (5, .int z23914)] → W p l e { frames := 3, cells := 0, slots := 0, locals := 68 } s m args below meth c H locs 0 0 Q (F0 m 81 ls [.int z23915, .int z23916]) := by
        intro z23913 z23914 z23915 z23916 F H locs ls rz23915 r9s23912 hT hfr hl
        have rz23913 := rg_all z23913
        have rz23914 := rg_all z23914
        have rz23916 := rg_all z23916
        refine lv_iadd hx hb dX10_rotAll_81 ?_
        refine lv_topi (fun z23917 ez23917 => ?_)
        have rz23917 := rg_all z23917
        refine lv_istore (lv' := [(5, .int z23917), (0, .ref p0), (1, .ref p1), (2, .int p2), (3, .int z23900), (4, .int z23913)]) hx hb dX10_rotAll_82 hl (by decide) rfl (fun ls hl => ?_)
        exact K84 z23913 z23917 _ _ _ _ (by omega) hT hfr  (lv_sub hl [1, 2, 3, 4, 5, 0] rfl)
      refine lv_iload_n hx hb dX10_rotAll_2 rfl (lv_at hl 3 rfl) ?_
      refine lv_aload_n hx hb dX10_rotAll_3 rfl (lv_at hl 1 rfl) ?_
      refine t_get (C := RX7) (T := TX7) (N := 7) X hT m1 g1 rfl rfl 2 (by decide) qw_1119 inlX7 rfl dX10_rotAll_4 (fun v23918 hv23918 ov23918 => ?_)
      obtain ⟨b23919, rfl, mb23919, gb23919⟩ := okV_r ov23918
      have gb23919 : tag b23919 = 8 := tg_of gb23919
      refine lv_iload_n hx hb dX10_rotAll_7 rfl (lv_at hl 2 rfl) ?_
      refine t_ild X hT mb23919 gb23919 rfl (by omega) dX10_rotAll_8 (fun z23920 vz23920 rz23920 => ?_)
      have rz23920 : 0 ≤ z23920.toInt ∧ z23920.toInt ≤ 6 := rz23920
      refine lv_icmp_gt (tgt := 119) hx hb dX10_rotAll_9 (by decide) (fun c23921 => ?_) (fun c23921 => ?_)
      · have w23922 := cv_lt (rfl : z23920.toInt = z23920.toInt) (rfl : z23900.toInt = z23900.toInt) c23921
        exact t_vret hQ X hT hfr (Nat.le_of_ble_eq_true rfl) (Nat.le_of_ble_eq_true rfl) dX10_rotAll_119
      · have w23923 := cv_nlt (rfl : z23920.toInt = z23920.toInt) (rfl : z23900.toInt = z23900.toInt) c23921
        refine lv_aload_n hx hb dX10_rotAll_12 rfl (lv_at hl 1 rfl) ?_
        refine lv_iload_n hx hb dX10_rotAll_13 rfl (lv_at hl 2 rfl) ?_
        refine lv_iload_n hx hb dX10_rotAll_14 rfl (lv_at hl 3 rfl) ?_
        refine t_cVi (n := 2) (C := RX7) (T := TX7) (N := 7) (As := [.int p2, .int z23900]) (rest := []) X hT (kt33_X7_isOpen l G tag L F hT.2.2.2 p1 p2 z23900 m1 g1) m1 g1 rfl rfl qw_1120 qw_984 qw_985 qw_22 qw_986 ⟨rfl, by decide +kernel, by decide +kernel, by decide +kernel⟩ ⟨Nat.le_of_ble_eq_true rfl, Nat.le_of_ble_eq_true rfl⟩ hl rfl rfl (Nat.le_of_ble_eq_true rfl) dX10_rotAll_15 ⟨Nat.le_of_ble_eq_true rfl, Nat.le_of_ble_eq_true rfl⟩ (fun z23924 F9 H locs hT hz23924 => ?_)
        obtain ⟨fz23924, hz23924⟩ := hz23924
        rw [fz23924] at hT
        refine lv_if_eq (tgt := 113) hx hb dX10_rotAll_18 (by decide) (fun c23925 => ?_) (fun c23925 => ?_)
        · have w23926 := cv_eq (rfl : z23924.toInt = z23924.toInt) (by decide : (0 : Int32).toInt = 0) c23925
          exact K113  _ _ _ _ (by omega) hT hfr  (lv_sub hl [0, 1, 2, 3] rfl)
        · have w23927 := cv_ne (rfl : z23924.toInt = z23924.toInt) (by decide : (0 : Int32).toInt = 0) c23925
          refine lv_aload_n hx hb dX10_rotAll_21 rfl (lv_at hl 1 rfl) ?_
          refine lv_iload_n hx hb dX10_rotAll_22 rfl (lv_at hl 2 rfl) ?_
          refine lv_iload_n hx hb dX10_rotAll_23 rfl (lv_at hl 3 rfl) ?_
          refine lv_iconst (v := 0) hx hb dX10_rotAll_24 (by decide) ?_
          refine t_cVi (n := 3) (C := RX7) (T := TX7) (N := 7) (As := [.int p2, .int z23900, .int 0]) (rest := []) X hT (kt19_X7_partOf l G tag L F hT.2.2.2 p1 p2 z23900 0 m1 g1) m1 g1 rfl rfl qw_1121 qw_778 qw_779 qw_22 qw_780 ⟨rfl, by decide +kernel, by decide +kernel, by decide +kernel⟩ ⟨Nat.le_of_ble_eq_true rfl, Nat.le_of_ble_eq_true rfl⟩ hl rfl rfl (Nat.le_of_ble_eq_true rfl) dX10_rotAll_25 ⟨Nat.le_of_ble_eq_true rfl, Nat.le_of_ble_eq_true rfl⟩ (fun z23928 F9 H locs hT hz23928 => ?_)
          obtain ⟨fz23928, hz23928⟩ := hz23928
          rw [fz23928] at hT
          refine lv_istore (lv' := [(4, .int z23928), (0, .ref p0), (1, .ref p1), (2, .int p2), (3, .int z23900)]) hx hb dX10_rotAll_28 hl (by decide) rfl (fun ls hl => ?_)
          refine lv_aload_n hx hb dX10_rotAll_30 rfl (lv_at hl 2 rfl) ?_
          refine lv_iload_n hx hb dX10_rotAll_31 rfl (lv_at hl 3 rfl) ?_
          refine lv_iload_n hx hb dX10_rotAll_32 rfl (lv_at hl 4 rfl) ?_
          refine lv_iconst (v := 4) hx hb dX10_rotAll_33 (by decide) ?_
          refine t_cVi (n := 3) (C := RX7) (T := TX7) (N := 7) (As := [.int p2, .int z23900, .int 4]) (rest := []) X hT (kt19_X7_partOf l G tag L F hT.2.2.2 p1 p2 z23900 4 m1 g1) m1 g1 rfl rfl qw_1121 qw_778 qw_779 qw_22 qw_780 ⟨rfl, by decide +kernel, by decide +kernel, by decide +kernel⟩ ⟨Nat.le_of_ble_eq_true rfl, Nat.le_of_ble_eq_true rfl⟩ hl rfl rfl (Nat.le_of_ble_eq_true rfl) dX10_rotAll_34 ⟨Nat.le_of_ble_eq_true rfl, Nat.le_of_ble_eq_true rfl⟩ (fun z23929 F9 H locs hT hz23929 => ?_)
          obtain ⟨fz23929, hz23929⟩ := hz23929
          rw [fz23929] at hT
          refine lv_aload_n hx hb dX10_rotAll_37 rfl (lv_at hl 1 rfl) ?_
          refine lv_iload hx hb dX10_rotAll_38 (lv_at hl 0 rfl) ?_
          refine lv_iconst (v := 3) hx hb dX10_rotAll_40 (by decide) ?_
          refine t_cVi (n := 2) (C := RX1) (T := TX1) (N := 20) (As := [.int z23928, .int 3]) (rest := [.int z23929]) X hT (kt48_X1_stonePart l G tag L F hT.2.2.2 p0 z23928 3 m0 g0) m0 g0 rfl rfl qw_1122 qw_858 qw_859 qw_17 qw_860 ⟨rfl, by decide +kernel, by decide +kernel, by decide +kernel⟩ ⟨Nat.le_of_ble_eq_true rfl, Nat.le_of_ble_eq_true rfl⟩ hl rfl rfl (Nat.le_of_ble_eq_true rfl) dX10_rotAll_41 ⟨Nat.le_of_ble_eq_true rfl, Nat.le_of_ble_eq_true rfl⟩ (fun z23930 F9 H locs hT hz23930 => ?_)
          obtain ⟨fz23930, hz23930⟩ := hz23930
          rw [fz23930] at hT
          refine lv_iadd hx hb dX10_rotAll_44 ?_
          refine lv_topi (fun z23931 ez23931 => ?_)
          have rz23931 := rg_all z23931
          refine lv_istore (lv' := [(5, .int z23931), (4, .int z23928), (0, .ref p0), (1, .ref p1), (2, .int p2), (3, .int z23900)]) hx hb dX10_rotAll_45 hl (by decide) rfl (fun ls hl => ?_)
          refine lv_iload_n hx hb dX10_rotAll_47 rfl (lv_at hl 5 rfl) ?_
          refine lv_iconst (v := 1) hx hb dX10_rotAll_48 (by decide) ?_
          refine lv_icmp_le (tgt := 84) hx hb dX10_rotAll_49 (by decide) (fun c23932 => ?_) (fun c23932 => ?_)
          · have w23933 := cv_le (rfl : z23900.toInt = z23900.toInt) (by decide : (1 : Int32).toInt = 1) c23932
            exact K84 z23928 z23931 _ _ _ _ (by omega) hT hfr  (lv_sub hl [2, 3, 4, 5, 1, 0] rfl)
          · have w23934 := cv_nle (rfl : z23900.toInt = z23900.toInt) (by decide : (1 : Int32).toInt = 1) c23932
            refine lv_aload_n hx hb dX10_rotAll_52 rfl (lv_at hl 3 rfl) ?_
            refine lv_iload_n hx hb dX10_rotAll_53 rfl (lv_at hl 4 rfl) ?_
            refine lv_iload_n hx hb dX10_rotAll_54 rfl (lv_at hl 5 rfl) ?_
            refine lv_iconst (v := 1) hx hb dX10_rotAll_55 (by decide) ?_
            refine lv_isub hx hb dX10_rotAll_56 ?_
            refine lv_topi (fun z23935 ez23935 => ?_)
            have hz23935 : z23935.toInt = z23900.toInt - 1 := ar_sub ez23935 (rfl : z23900.toInt = z23900.toInt) (by decide : (1 : Int32).toInt = 1) (by omega) (by omega)
            have rz23935 : 1 ≤ z23935.toInt ∧ z23935.toInt ≤ 5 := by omega
            refine t_cVi (n := 2) (C := RX7) (T := TX7) (N := 7) (As := [.int p2, .int z23935]) (rest := []) X hT (kt21_X7_stands l G tag L F hT.2.2.2 p1 p2 z23935 m1 g1) m1 g1 rfl rfl qw_1123 qw_853 qw_854 qw_22 qw_855 ⟨rfl, by decide +kernel, by decide +kernel, by decide +kernel⟩ ⟨Nat.le_of_ble_eq_true rfl, Nat.le_of_ble_eq_true rfl⟩ hl rfl rfl (Nat.le_of_ble_eq_true rfl) dX10_rotAll_57 ⟨Nat.le_of_ble_eq_true rfl, Nat.le_of_ble_eq_true rfl⟩ (fun z23936 F9 H locs hT hz23936 => ?_)
            obtain ⟨fz23936, hz23936⟩ := hz23936
            rw [fz23936] at hT
            refine lv_if_ne (tgt := 84) hx hb dX10_rotAll_60 (by decide) (fun c23937 => ?_) (fun c23937 => ?_)
            · have w23938 := cv_ne (rfl : z23936.toInt = z23936.toInt) (by decide : (0 : Int32).toInt = 0) c23937
              exact K84 z23928 z23931 _ _ _ _ (by omega) hT hfr  (lv_sub hl [2, 3, 4, 5, 1, 0] rfl)
            · have w23939 := cv_eq (rfl : z23936.toInt = z23936.toInt) (by decide : (0 : Int32).toInt = 0) c23937
              refine lv_iload hx hb dX10_rotAll_63 (lv_at hl 0 rfl) ?_
              refine lv_aload_n hx hb dX10_rotAll_65 rfl (lv_at hl 2 rfl) ?_
              refine lv_iload hx hb dX10_rotAll_66 (lv_at hl 1 rfl) ?_
              refine lv_iconst (v := 0) hx hb dX10_rotAll_68 (by decide) ?_
              refine t_cVi (n := 2) (C := RX1) (T := TX1) (N := 20) (As := [.int z23928, .int 0]) (rest := [.int z23931]) X hT (kt48_X1_stonePart l G tag L F hT.2.2.2 p0 z23928 0 m0 g0) m0 g0 rfl rfl qw_1122 qw_858 qw_859 qw_17 qw_860 ⟨rfl, by decide +kernel, by decide +kernel, by decide +kernel⟩ ⟨Nat.le_of_ble_eq_true rfl, Nat.le_of_ble_eq_true rfl⟩ hl rfl rfl (Nat.le_of_ble_eq_true rfl) dX10_rotAll_69 ⟨Nat.le_of_ble_eq_true rfl, Nat.le_of_ble_eq_true rfl⟩ (fun z23940 F9 H locs hT hz23940 => ?_)
              obtain ⟨fz23940, hz23940⟩ := hz23940
              rw [fz23940] at hT
              refine lv_iconst (v := 1) hx hb dX10_rotAll_72 (by decide) ?_
              refine lv_icmp_ne (tgt := 80) hx hb dX10_rotAll_73 (by decide) (fun c23941 => ?_) (fun c23941 => ?_)
              · have w23942 := cv_ne (rfl : z23940.toInt = z23940.toInt) (by decide : (1 : Int32).toInt = 1) c23941
                refine lv_iconst (v := 1) hx hb dX10_rotAll_80 (by decide) ?_
                exact K81 z23928 z23931 1 z23931 _ _ _ _ (by decide) (by omega) hT hfr  (lv_sub hl [2, 3, 4, 5, 1, 0] rfl)
              · have w23943 := cv_eq (rfl : z23940.toInt = z23940.toInt) (by decide : (1 : Int32).toInt = 1) c23941
                refine lv_iconst (v := 2) hx hb dX10_rotAll_76 (by decide) ?_
                refine lv_goto (tgt := 81) hx hb dX10_rotAll_77 (by decide) ?_
                exact K81 z23928 z23931 2 z23931 _ _ _ _ (by decide) (by omega) hT hfr  (lv_sub hl [2, 3, 4, 5, 1, 0] rfl)
  refine lv_iconst (v := 1) hx hb dX10_rotAll_0 (by decide) ?_
  refine lv_istore_n (lv' := [(3, .int 1), (0, .ref p0), (1, .ref p1), (2, .int p2)]) hx hb dX10_rotAll_1 rfl hl (by decide) rfl (fun ls hl => ?_)
  have kk23944 : (1 : Int32).toInt = 1 := by decide
  exact K2 7 1 _ _ _ _ (by omega) (by decide) hT hfr  (lv_sub hl [1, 2, 3, 0] rfl)
