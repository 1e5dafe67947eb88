set_option maxHeartbeats 4000000 in
set_option maxRecDepth 100000 in
theorem kt132_J6_bitCount_0f7a4 (l : Launch) (G : KG) (tag : Nat → Nat) (L : List Nat) (F : Nat → va_E) (ho : okT G ttC tag L F) (p0 : Int32)  : TMi l yJ6_bitCount_0f7a4 cJ6_bitCount_0f7a4 1 (some .int) { frames := 0, cells := 0, slots := 0, locals := 0 } G ttC tag L F [.int p0] (fun r F1 => F1 = F ∧ (0 ≤ r.toInt ∧ r.toInt ≤ 63)) := by
  refine t_bodyi (y := yJ6_bitCount_0f7a4) (cd := cJ6_bitCount_0f7a4) (mL := 1) (rt := (some .int)) (rm := { frames := 0, cells := 0, slots := 0, locals := 0 }) (av := [.int p0]) (by decide) (Nat.le_of_ble_eq_true rfl) ho ?_
  intro p e s m args below meth c ls A Q hQ X hT hl
  have hx := X.1.1
  have hb := X.1.2.1
  have hl : lv_has ls 1 [(0, .int p0)] := hl
  have rp0 := rg_all p0
  refine lv_iload_n hx hb dJ6_bitCount_0f7a4_0 rfl (lv_at hl 0 rfl) ?_
  refine lv_iload_n hx hb dJ6_bitCount_0f7a4_1 rfl (lv_at hl 0 rfl) ?_
  refine lv_iconst (v := 1) hx hb dJ6_bitCount_0f7a4_2 (by decide) ?_
  refine lv_iushr hx hb dJ6_bitCount_0f7a4_3 rfl ?_
  refine lv_topi (fun z48216 ez48216 => ?_)
  have rz48216 := rg_all z48216
  refine m_ldcw X qw_733 dJ6_bitCount_0f7a4_4 ?_
  refine lv_iand hx hb dJ6_bitCount_0f7a4_7 ?_
  refine lv_topi (fun z48217 ez48217 => ?_)
  have rz48217 := rg_all z48217
  refine lv_isub hx hb dJ6_bitCount_0f7a4_8 ?_
  refine lv_topi (fun z48218 ez48218 => ?_)
  have rz48218 := rg_all z48218
  refine lv_istore_n (lv' := [(0, .int z48218)]) hx hb dJ6_bitCount_0f7a4_9 rfl hl (by decide) rfl (fun ls hl => ?_)
  refine lv_iload_n hx hb dJ6_bitCount_0f7a4_10 rfl (lv_at hl 0 rfl) ?_
  refine m_ldcw X qw_734 dJ6_bitCount_0f7a4_11 ?_
  refine lv_iand hx hb dJ6_bitCount_0f7a4_14 ?_
  refine lv_topi (fun z48219 ez48219 => ?_)
  have rz48219 := rg_all z48219
  refine lv_iload_n hx hb dJ6_bitCount_0f7a4_15 rfl (lv_at hl 0 rfl) ?_
  refine lv_iconst (v := 2) hx hb dJ6_bitCount_0f7a4_16 (by decide) ?_
  refine lv_iushr hx hb dJ6_bitCount_0f7a4_17 rfl ?_
  refine lv_topi (fun z48220 ez48220 => ?_)
  have rz48220 := rg_all z48220
  refine m_ldcw X qw_734 dJ6_bitCount_0f7a4_18 ?_
  refine lv_iand hx hb dJ6_bitCount_0f7a4_21 ?_
  refine lv_topi (fun z48221 ez48221 => ?_)
  have rz48221 := rg_all z48221
  refine lv_iadd hx hb dJ6_bitCount_0f7a4_22 ?_
  refine lv_topi (fun z48222 ez48222 => ?_)
  have rz48222 := rg_all z48222
  refine lv_istore_n (lv' := [(0, .int z48222)]) hx hb dJ6_bitCount_0f7a4_23 rfl hl (by decide) rfl (fun ls hl => ?_)
  refine lv_iload_n hx hb dJ6_bitCount_0f7a4_24 rfl (lv_at hl 0 rfl) ?_
  refine lv_iload_n hx hb dJ6_bitCount_0f7a4_25 rfl (lv_at hl 0 rfl) ?_
  refine lv_iconst (v := 4) hx hb dJ6_bitCount_0f7a4_26 (by decide) ?_
  refine lv_iushr hx hb dJ6_bitCount_0f7a4_27 rfl ?_
  refine lv_topi (fun z48223 ez48223 => ?_)
  have rz48223 := rg_all z48223
  refine lv_iadd hx hb dJ6_bitCount_0f7a4_28 ?_
  refine lv_topi (fun z48224 ez48224 => ?_)
  have rz48224 := rg_all z48224
  refine m_ldcw X qw_735 dJ6_bitCount_0f7a4_29 ?_
  refine lv_iand hx hb dJ6_bitCount_0f7a4_32 ?_
  refine lv_topi (fun z48225 ez48225 => ?_)
  have rz48225 := rg_all z48225
  refine lv_istore_n (lv' := [(0, .int z48225)]) hx hb dJ6_bitCount_0f7a4_33 rfl hl (by decide) rfl (fun ls hl => ?_)
  refine lv_iload_n hx hb dJ6_bitCount_0f7a4_34 rfl (lv_at hl 0 rfl) ?_
  refine lv_iload_n hx hb dJ6_bitCount_0f7a4_35 rfl (lv_at hl 0 rfl) ?_
  refine lv_bipush (v := 8) hx hb dJ6_bitCount_0f7a4_36 (by decide) ?_
  refine lv_iushr hx hb dJ6_bitCount_0f7a4_38 rfl ?_
  refine lv_topi (fun z48226 ez48226 => ?_)
  have rz48226 := rg_all z48226
  refine lv_iadd hx hb dJ6_bitCount_0f7a4_39 ?_
  refine lv_topi (fun z48227 ez48227 => ?_)
  have rz48227 := rg_all z48227
  refine lv_istore_n (lv' := [(0, .int z48227)]) hx hb dJ6_bitCount_0f7a4_40 rfl hl (by decide) rfl (fun ls hl => ?_)
  refine lv_iload_n hx hb dJ6_bitCount_0f7a4_41 rfl (lv_at hl 0 rfl) ?_
  refine lv_iload_n hx hb dJ6_bitCount_0f7a4_42 rfl (lv_at hl 0 rfl) ?_
  refine lv_bipush (v := 16) hx hb dJ6_bitCount_0f7a4_43 (by decide) ?_
  refine lv_iushr hx hb dJ6_bitCount_0f7a4_45 rfl ?_
  refine lv_topi (fun z48228 ez48228 => ?_)
  have rz48228 := rg_all z48228
  refine lv_iadd hx hb dJ6_bitCount_0f7a4_46 ?_
  refine lv_topi (fun z48229 ez48229 => ?_)
  have rz48229 := rg_all z48229
  refine lv_istore_n (lv' := [(0, .int z48229)]) hx hb dJ6_bitCount_0f7a4_47 rfl hl (by decide) rfl (fun ls hl => ?_)
  refine lv_iload_n hx hb dJ6_bitCount_0f7a4_48 rfl (lv_at hl 0 rfl) ?_
  refine lv_bipush (v := 63) hx hb dJ6_bitCount_0f7a4_49 (by decide) ?_
  refine lv_iand hx hb dJ6_bitCount_0f7a4_51 ?_
  refine lv_topi (fun z48230 ez48230 => ?_)
  have rz48230 : 0 ≤ z48230.toInt ∧ z48230.toInt ≤ 63 := ar_and ez48230 6 (by decide) (by decide)
  exact t_iret hQ X hT (⟨rfl, (by omega)⟩) (Nat.le_of_ble_eq_true rfl) (Nat.le_of_ble_eq_true rfl) dJ6_bitCount_0f7a4_52
set_option maxHeartbeats 4000000 in
set_option maxRecDepth 100000 in
theorem kt133_X11_shared (l : Launch) (G : KG) (tag : Nat → Nat) (L : List Nat) (Fo : Nat → va_E) (ho : okT G ttC tag L Fo) (p0 : Nat) (m0 : p0 ∈ L) (g0 : tag p0 = 26) : TMi l yX11_shared cX11_shared 4 (some .int) { frames := 2, cells := 0, slots := 0, locals := 50 } G ttC tag L Fo [.ref p0] (fun r F1 => ((-2147483648) ≤ r.toInt ∧ r.toInt ≤ 2147483647) ∧ ((∀ b j : Nat, (tag b ≠ 26 ∨ j ≠ 13) → fld F1 b j = fld Fo b j) ∧ EF tag F1 Fo)) := by
  refine t_bodyi (y := yX11_shared) (cd := cX11_shared) (mL := 4) (rt := (some .int)) (rm := { frames := 2, cells := 0, slots := 0, locals := 50 }) (av := [.ref p0]) (by decide) (Nat.le_of_ble_eq_true rfl) ho ?_
  intro p e s m args below meth c ls A Q hQ X hT hl
  have hx := X.1.1
  have hb := X.1.2.1
  have hl : lv_has ls 4 [(0, .ref p0)] := hl
  obtain ⟨F, hFo⟩ : ∃ F : Nat → va_E, F = Fo := ⟨_, rfl⟩
  rw [← hFo] at hT
  have hfr : (∀ b j : Nat, (tag b ≠ 26 ∨ j ≠ 13) → fld F b j = fld Fo b j) ∧ EF tag F Fo := by
    rw [hFo]
    exact ⟨by intros; rfl, fun _ _ _ => rfl⟩
  have K17 : ∀ (n : Nat) (z49456 : Int32) (z49457 : Int32) (z49458 : Int32) (F : Nat → va_E) (H : Heap) (locs : List Loc) (ls : Array Slot), (12 - z49457.toInt < (n : Int)) → (0 ≤ z49457.toInt ∧ z49457.toInt ≤ 12) → (1 ≤ z49458.toInt ∧ z49458.toInt ≤ 1) → TH G ttC A s tag L F H locs → ((∀ b j : Nat, (tag b ≠ 26 ∨ j ≠ 13) → fld F b j = fld Fo b j) ∧ EF tag F Fo) → fld F p0 2 = .int z49458 → lv_has ls 4 [(0, .ref p0), (1, .int z49456), (2, .int z49457)] → W p l e { frames := 2, cells := 0, slots := 0, locals := 50 } s m args below meth c H locs 0 0 Q (F0 m 17 ls []) := by
    intro n
    induction n with
    | zero =>
      intro z49456 z49457 z49458 F H locs ls hn rz49457 rz49458 hT hfr qz49458 hl
      have rz49456 := rg_all z49456
      exfalso
      omega
    | succ n ih17 =>
      intro z49456 z49457 z49458 F H locs ls hn rz49457 rz49458 hT hfr qz49458 hl
      have rz49456 := rg_all z49456
      have K30 : ∀ (n : Nat) (z49459 : Int32) (z49461 : Int32) (z49462 : Int32) (F : Nat → va_E) (H : Heap) (locs : List Loc) (ls : Array Slot), (12 - z49461.toInt < (n : Int)) → (0 ≤ z49461.toInt ∧ z49461.toInt ≤ 12) → (1 ≤ z49462.toInt ∧ z49462.toInt ≤ 1) → (0 ≤ z49457.toInt ∧ z49457.toInt ≤ 11) → TH G ttC A s tag L F H locs → ((∀ b j : Nat, (tag b ≠ 26 ∨ j ≠ 13) → fld F b j = fld Fo b j) ∧ EF tag F Fo) → fld F p0 2 = .int z49462 → lv_has ls 4 [(0, .ref p0), (1, .int z49459), (2, .int z49457), (3, .int z49461)] → W p l e { frames := 2, cells := 0, slots := 0, locals := 50 } s m args below meth c H locs 0 0 Q (F0 m 30 ls []) := by
        intro n
        induction n with
        | zero =>
          intro z49459 z49461 z49462 F H locs ls hn rz49461 rz49462 r9s49460 hT hfr qz49462 hl
          have rz49459 := rg_all z49459
          exfalso
          omega
        | succ n ih30 =>
          intro z49459 z49461 z49462 F H locs ls hn rz49461 rz49462 r9s49460 hT hfr qz49462 hl
          have rz49459 := rg_all z49459
          have K64 : ∀ (z49463 : Int32) (z49465 : Int32) (F : Nat → va_E) (H : Heap) (locs : List Loc) (ls : Array Slot), (1 ≤ z49465.toInt ∧ z49465.toInt ≤ 1) → (0 ≤ z49461.toInt ∧ z49461.toInt ≤ 11) → TH G ttC A s tag L F H locs → ((∀ b j : Nat, (tag b ≠ 26 ∨ j ≠ 13) → fld F b j = fld Fo b j) ∧ EF tag F Fo) → fld F p0 2 = .int z49465 → lv_has ls 4 [(0, .ref p0), (1, .int z49463), (2, .int z49457), (3, .int z49461)] → W p l e { frames := 2, cells := 0, slots := 0, locals := 50 } s m args below meth c H locs 0 0 Q (F0 m 64 ls []) := by
            intro z49463 z49465 F H locs ls rz49465 r9s49464 hT hfr qz49465 hl
            have rz49463 := rg_all z49463
            obtain ⟨z49466, ez49466⟩ : ∃ y : Int32, y = z49461 + 1 := ⟨_, rfl⟩
            have hz49466 : z49466.toInt = z49461.toInt + 1 := ar_add ez49466 rfl (by decide : (1 : Int32).toInt = 1) (by omega) (by omega)
            refine lv_iinc (v := z49466) (lv' := [(3, .int z49466), (0, .ref p0), (1, .int z49463), (2, .int z49457)]) hx hb dX11_shared_64 hl (k := 3) rfl (by rw [ez49466]; rfl) (by decide) rfl (fun ls hl => ?_)
            refine lv_goto (tgt := 30) hx hb dX11_shared_67 (by decide) ?_
            exact ih30 z49463 z49466 z49465 _ _ _ _ (by omega) (by omega) (by omega) (by omega) hT hfr qz49465 (lv_sub hl [1, 2, 3, 0] rfl)
          refine lv_iload_n hx hb dX11_shared_30 rfl (lv_at hl 3 rfl) ?_
          refine lv_aload_n hx hb dX11_shared_31 rfl (lv_at hl 0 rfl) ?_
          refine t_get (C := RX11) (T := TX11) (N := 16) X hT m0 g0 rfl rfl 3 (by decide) qw_18 inlX11 rfl dX11_shared_32 (fun v49467 hv49467 ov49467 => ?_)
          obtain ⟨b49468, rfl, mb49468, gb49468⟩ := okV_r ov49467
          have gb49468 : tag b49468 = 18 := tg_of gb49468
          refine t_get (C := RX1) (T := TX1) (N := 20) X hT mb49468 gb49468 rfl rfl 0 (by decide) qw_728 inlX1 rfl dX11_shared_35 (fun v49469 hv49469 ov49469 => ?_)
          obtain ⟨z49470, rfl, rz49470⟩ := okV_i ov49469
          refine lv_icmp_ge (tgt := 70) hx hb dX11_shared_38 (by decide) (fun c49471 => ?_) (fun c49471 => ?_)
          · have w49472 := cv_le (rfl : z49470.toInt = z49470.toInt) (rfl : z49461.toInt = z49461.toInt) c49471
            obtain ⟨z49473, ez49473⟩ : ∃ y : Int32, y = z49457 + 1 := ⟨_, rfl⟩
            have hz49473 : z49473.toInt = z49457.toInt + 1 := ar_add ez49473 rfl (by decide : (1 : Int32).toInt = 1) (by omega) (by omega)
            refine lv_iinc (v := z49473) (lv' := [(2, .int z49473), (0, .ref p0), (1, .int z49459), (3, .int z49461)]) hx hb dX11_shared_70 hl (k := 2) rfl (by rw [ez49473]; rfl) (by decide) rfl (fun ls hl => ?_)
            refine lv_goto (tgt := 17) hx hb dX11_shared_73 (by decide) ?_
            exact ih17 z49459 z49473 z49462 _ _ _ _ (by omega) (by omega) (by omega) hT hfr qz49462 (lv_sub hl [1, 2, 0] rfl)
          · have w49474 := cv_nle (rfl : z49470.toInt = z49470.toInt) (rfl : z49461.toInt = z49461.toInt) c49471
            refine lv_aload_n hx hb dX11_shared_41 rfl (lv_at hl 0 rfl) ?_
            refine t_get (C := RX11) (T := TX11) (N := 16) X hT m0 g0 rfl rfl 3 (by decide) qw_18 inlX11 rfl dX11_shared_42 (fun v49475 hv49475 ov49475 => ?_)
            obtain rfl : v49475 = .ref b49468 := hv49475.symm.trans hv49467
            refine lv_aload_n hx hb dX11_shared_45 rfl (lv_at hl 0 rfl) ?_
            refine t_get (C := RX11) (T := TX11) (N := 16) X hT m0 g0 rfl rfl 5 (by decide) qw_23 inlX11 rfl dX11_shared_46 (fun v49476 hv49476 ov49476 => ?_)
            obtain ⟨b49477, rfl, mb49477, gb49477⟩ := okV_r ov49476
            have gb49477 : tag b49477 = 19 := tg_of gb49477
            refine lv_iload_n hx hb dX11_shared_49 rfl (lv_at hl 3 rfl) ?_
            refine lv_iload_n hx hb dX11_shared_50 rfl (lv_at hl 2 rfl) ?_
            refine t_cSi (n := 4) (As := [.ref b49468, .ref b49477, .int z49461, .int z49457]) (rest := []) X hT (kt28_X6_ownersOf l G tag L F hT.2.2.2 b49468 b49477 z49461 z49457 mb49468 gb49468 mb49477 gb49477) qw_712 qw_713 qw_380 qw_714 ⟨by decide +kernel, by decide +kernel, by decide +kernel⟩ ⟨Nat.le_of_ble_eq_true rfl, Nat.le_of_ble_eq_true rfl⟩ hl rfl rfl (Nat.le_of_ble_eq_true rfl) dX11_shared_51 ⟨Nat.le_of_ble_eq_true rfl, Nat.le_of_ble_eq_true rfl⟩ (fun z49478 F9 H locs hT hz49478 => ?_)
            obtain ⟨fz49478, hz49478⟩ := hz49478
            rw [fz49478] at hT
            refine t_cSi (n := 1) (As := [.int z49478]) (rest := []) X hT (kt132_J6_bitCount_0f7a4 l G tag L F hT.2.2.2 z49478 ) qw_729 qw_730 qw_731 qw_732 ⟨by decide +kernel, by decide +kernel, by decide +kernel⟩ ⟨Nat.le_of_ble_eq_true rfl, Nat.le_of_ble_eq_true rfl⟩ hl rfl rfl (Nat.le_of_ble_eq_true rfl) dX11_shared_54 ⟨Nat.le_of_ble_eq_true rfl, Nat.le_of_ble_eq_true rfl⟩ (fun z49479 F9 H locs hT hz49479 => ?_)
            obtain ⟨fz49479, hz49479⟩ := hz49479
            rw [fz49479] at hT
            refine lv_iconst (v := 1) hx hb dX11_shared_57 (by decide) ?_
            refine lv_icmp_le (tgt := 64) hx hb dX11_shared_58 (by decide) (fun c49480 => ?_) (fun c49480 => ?_)
            · have w49481 := cv_le (rfl : z49479.toInt = z49479.toInt) (by decide : (1 : Int32).toInt = 1) c49480
              exact K64 z49459 z49462 _ _ _ _ (by omega) (by omega) hT hfr qz49462 (lv_sub hl [0, 1, 2, 3] rfl)
            · have w49482 := cv_nle (rfl : z49479.toInt = z49479.toInt) (by decide : (1 : Int32).toInt = 1) c49480
              obtain ⟨z49483, ez49483⟩ : ∃ y : Int32, y = z49459 + 1 := ⟨_, rfl⟩
              have rz49483 := rg_all z49483
              refine lv_iinc (v := z49483) (lv' := [(1, .int z49483), (0, .ref p0), (2, .int z49457), (3, .int z49461)]) hx hb dX11_shared_61 hl (k := 1) rfl (by rw [ez49483]; rfl) (by decide) rfl (fun ls hl => ?_)
              exact K64 z49483 z49462 _ _ _ _ (by omega) (by omega) hT hfr qz49462 (lv_sub hl [1, 0, 2, 3] rfl)
      refine lv_iload_n hx hb dX11_shared_17 rfl (lv_at hl 2 rfl) ?_
      refine lv_aload_n hx hb dX11_shared_18 rfl (lv_at hl 0 rfl) ?_
      refine t_get (C := RX11) (T := TX11) (N := 16) X hT m0 g0 rfl rfl 3 (by decide) qw_18 inlX11 rfl dX11_shared_19 (fun v49484 hv49484 ov49484 => ?_)
      obtain ⟨b49485, rfl, mb49485, gb49485⟩ := okV_r ov49484
      have gb49485 : tag b49485 = 18 := tg_of gb49485
      refine t_get (C := RX1) (T := TX1) (N := 20) X hT mb49485 gb49485 rfl rfl 1 (by decide) qw_727 inlX1 rfl dX11_shared_22 (fun v49486 hv49486 ov49486 => ?_)
      obtain ⟨z49487, rfl, rz49487⟩ := okV_i ov49486
      refine lv_icmp_ge (tgt := 76) hx hb dX11_shared_25 (by decide) (fun c49488 => ?_) (fun c49488 => ?_)
      · have w49489 := cv_le (rfl : z49487.toInt = z49487.toInt) (rfl : z49457.toInt = z49457.toInt) c49488
        refine lv_aload_n hx hb dX11_shared_76 rfl (lv_at hl 0 rfl) ?_
        refine lv_iload_n hx hb dX11_shared_77 rfl (lv_at hl 1 rfl) ?_
        refine t_cVi (n := 1) (C := RX11) (T := TX11) (N := 16) (As := [.int z49456]) (rest := []) X hT (kt56_X11_answer l G tag L F hT.2.2.2 p0 z49456 m0 g0) m0 g0 rfl rfl qw_463 qw_464 qw_465 qw_2 qw_466 ⟨rfl, by decide +kernel, by decide +kernel, by decide +kernel⟩ ⟨Nat.le_of_ble_eq_true rfl, Nat.le_of_ble_eq_true rfl⟩ hl rfl rfl (Nat.le_of_ble_eq_true rfl) dX11_shared_78 ⟨Nat.le_of_ble_eq_true rfl, Nat.le_of_ble_eq_true rfl⟩ (fun z49490 F H locs hT hz49490 => ?_)
        obtain ⟨hz49490, yz49490⟩ := hz49490
        have qz49458 := (yz49490.1 _ 2 (Or.inr (by decide))).trans qz49458
        have hv49484 := (yz49490.1 _ 3 (Or.inr (by decide))).trans hv49484
        have hv49486 := (yz49490.1 _ 1 (Or.inr (by decide))).trans hv49486
        have hfr : (∀ b j : Nat, (tag b ≠ 26 ∨ j ≠ 13) → fld F b j = fld Fo b j) ∧ EF tag F Fo := ⟨fun b j n26_13 => (yz49490.1 b j n26_13).trans (hfr.1 b j n26_13), fun b j hb => (yz49490.2 b j hb).trans (hfr.2 b j hb)⟩
        exact t_iret hQ X hT (⟨rg_all _, hfr⟩) (Nat.le_of_ble_eq_true rfl) (Nat.le_of_ble_eq_true rfl) dX11_shared_81
      · have w49491 := cv_nle (rfl : z49487.toInt = z49487.toInt) (rfl : z49457.toInt = z49457.toInt) c49488
        refine lv_iconst (v := 0) hx hb dX11_shared_28 (by decide) ?_
        refine lv_istore_n (lv' := [(3, .int 0), (0, .ref p0), (1, .int z49456), (2, .int z49457)]) hx hb dX11_shared_29 rfl hl (by decide) rfl (fun ls hl => ?_)
        have kk49492 : (0 : Int32).toInt = 0 := by decide
        exact K30 13 z49456 0 z49458 _ _ _ _ (by omega) (by decide) (by omega) (by omega) hT hfr qz49458 (lv_sub hl [1, 2, 3, 0] rfl)
  refine lv_aload_n hx hb dX11_shared_0 rfl (lv_at hl 0 rfl) ?_
  refine t_get (C := RX11) (T := TX11) (N := 16) X hT m0 g0 rfl rfl 2 (by decide) qw_150 inlX11 rfl dX11_shared_1 (fun v49493 hv49493 ov49493 => ?_)
  obtain ⟨z49494, rfl, rz49494⟩ := okV_i ov49493
  refine lv_if_ne (tgt := 13) hx hb dX11_shared_4 (by decide) (fun c49495 => ?_) (fun c49495 => ?_)
  · have w49496 := cv_ne (rfl : z49494.toInt = z49494.toInt) (by decide : (0 : Int32).toInt = 0) c49495
    refine lv_iconst (v := 0) hx hb dX11_shared_13 (by decide) ?_
    refine lv_istore_n (lv' := [(1, .int 0), (0, .ref p0)]) hx hb dX11_shared_14 rfl hl (by decide) rfl (fun ls hl => ?_)
    refine lv_iconst (v := 0) hx hb dX11_shared_15 (by decide) ?_
    refine lv_istore_n (lv' := [(2, .int 0), (1, .int 0), (0, .ref p0)]) hx hb dX11_shared_16 rfl hl (by decide) rfl (fun ls hl => ?_)
    have kk49497 : (0 : Int32).toInt = 0 := by decide
    have kk49498 : (0 : Int32).toInt = 0 := by decide
    exact K17 13 0 0 z49494 _ _ _ _ (by omega) (by decide) (by omega) hT hfr hv49493 (lv_sub hl [2, 1, 0] rfl)
  · have w49499 := cv_eq (rfl : z49494.toInt = z49494.toInt) (by decide : (0 : Int32).toInt = 0) c49495
    refine lv_aload_n hx hb dX11_shared_7 rfl (lv_at hl 0 rfl) ?_
    refine lv_iconst (v := 1) hx hb dX11_shared_8 (by decide) ?_
    refine t_cVi (n := 1) (C := RX11) (T := TX11) (N := 16) (As := [.int 1]) (rest := []) X hT (kt63_X11_refuse l G tag L F hT.2.2.2 p0 1 m0 g0) m0 g0 rfl rfl qw_152 qw_153 qw_154 qw_2 qw_155 ⟨rfl, by decide +kernel, by decide +kernel, by decide +kernel⟩ ⟨Nat.le_of_ble_eq_true rfl, Nat.le_of_ble_eq_true rfl⟩ hl rfl rfl (Nat.le_of_ble_eq_true rfl) dX11_shared_9 ⟨Nat.le_of_ble_eq_true rfl, Nat.le_of_ble_eq_true rfl⟩ (fun z49500 F H locs hT hz49500 => ?_)
    obtain ⟨hz49500, yz49500⟩ := hz49500
    have hv49493 := (yz49500.1 _ 2 (Or.inr (by decide))).trans hv49493
    have hfr : (∀ b j : Nat, (tag b ≠ 26 ∨ j ≠ 13) → fld F b j = fld Fo b j) ∧ EF tag F Fo := ⟨fun b j n26_13 => (yz49500.1 b j n26_13).trans (hfr.1 b j n26_13), fun b j hb => (yz49500.2 b j hb).trans (hfr.2 b j hb)⟩
    exact t_iret hQ X hT (⟨rg_all _, hfr⟩) (Nat.le_of_ble_eq_true rfl) (Nat.le_of_ble_eq_true rfl) dX11_shared_12
set_option maxHeartbeats 4000000 in
set_option maxRecDepth 100000 in
theorem kt134_X11_sizeNow (l : Launch) (G : KG) (tag : Nat → Nat) (L : List Nat) (F : Nat → va_E) (ho : okT G ttC tag L F) (p0 : Nat) (p1 : Int32) (m0 : p0 ∈ L) (g0 : tag p0 = 26) : TMi l yX11_sizeNow cX11_sizeNow 2 (some .int) { frames := 0, cells := 0, slots := 0, locals := 0 } G ttC tag L F [.ref p0, .int p1] (fun r F1 => F1 = F ∧ ((-2147483648) ≤ r.toInt ∧ r.toInt ≤ 2147483647)) := by
  refine t_bodyi (y := yX11_sizeNow) (cd := cX11_sizeNow) (mL := 2) (rt := (some .int)) (rm := { frames := 0, cells := 0, slots := 0, locals := 0 }) (av := [.ref p0, .int p1]) (by decide) (Nat.le_of_ble_eq_true rfl) ho ?_
  intro p e s m args below meth c ls A Q hQ X hT hl
  have hx := X.1.1
  have hb := X.1.2.1
  have hl : lv_has ls 2 [(0, .ref p0), (1, .int p1)] := hl
  have rp1 := rg_all p1
  refine lv_iload_n hx hb dX11_sizeNow_0 rfl (lv_at hl 1 rfl) ?_
  by_cases c49789 : p1 = 8
  · have w49790 := cv_eq (rfl : p1.toInt = p1.toInt) (by decide : (8 : Int32).toInt = 8) c49789
    refine lv_tableIn (off := 27) (tgt := 28) hx hb dX11_sizeNow_1 (by rw [c49789]; decide) (by rw [c49789]; decide) (by rw [c49789]; decide) (by decide) ?_
    refine lv_aload_n hx hb dX11_sizeNow_28 rfl (lv_at hl 0 rfl) ?_
    refine t_get (C := RX11) (T := TX11) (N := 16) X hT m0 g0 rfl rfl 5 (by decide) qw_23 inlX11 rfl dX11_sizeNow_29 (fun v49791 hv49791 ov49791 => ?_)
    obtain ⟨b49792, rfl, mb49792, gb49792⟩ := okV_r ov49791
    have gb49792 : tag b49792 = 19 := tg_of gb49792
    refine t_get (C := RX7) (T := TX7) (N := 7) X hT mb49792 gb49792 rfl rfl 0 (by decide) qw_1225 inlX7 rfl dX11_sizeNow_32 (fun v49793 hv49793 ov49793 => ?_)
    obtain ⟨z49794, rfl, rz49794⟩ := okV_i ov49793
    exact t_iret hQ X hT (⟨rfl, rg_all _⟩) (Nat.le_of_ble_eq_true rfl) (Nat.le_of_ble_eq_true rfl) dX11_sizeNow_35
  have w49795 := cv_ne (rfl : p1.toInt = p1.toInt) (by decide : (8 : Int32).toInt = 8) c49789
  by_cases c49796 : p1 = 9
  · have w49797 := cv_eq (rfl : p1.toInt = p1.toInt) (by decide : (9 : Int32).toInt = 9) c49796
    refine lv_tableIn (off := 35) (tgt := 36) hx hb dX11_sizeNow_1 (by rw [c49796]; decide) (by rw [c49796]; decide) (by rw [c49796]; decide) (by decide) ?_
    refine lv_aload_n hx hb dX11_sizeNow_36 rfl (lv_at hl 0 rfl) ?_
    refine t_get (C := RX11) (T := TX11) (N := 16) X hT m0 g0 rfl rfl 5 (by decide) qw_23 inlX11 rfl dX11_sizeNow_37 (fun v49798 hv49798 ov49798 => ?_)
    obtain ⟨b49799, rfl, mb49799, gb49799⟩ := okV_r ov49798
    have gb49799 : tag b49799 = 19 := tg_of gb49799
    refine t_get (C := RX7) (T := TX7) (N := 7) X hT mb49799 gb49799 rfl rfl 1 (by decide) qw_1282 inlX7 rfl dX11_sizeNow_40 (fun v49800 hv49800 ov49800 => ?_)
    obtain ⟨z49801, rfl, rz49801⟩ := okV_i ov49800
    exact t_iret hQ X hT (⟨rfl, rg_all _⟩) (Nat.le_of_ble_eq_true rfl) (Nat.le_of_ble_eq_true rfl) dX11_sizeNow_43
  have w49802 := cv_ne (rfl : p1.toInt = p1.toInt) (by decide : (9 : Int32).toInt = 9) c49796
  by_cases c49803 : p1 = 10
  · have w49804 := cv_eq (rfl : p1.toInt = p1.toInt) (by decide : (10 : Int32).toInt = 10) c49803
    refine lv_tableIn (off := 43) (tgt := 44) hx hb dX11_sizeNow_1 (by rw [c49803]; decide) (by rw [c49803]; decide) (by rw [c49803]; decide) (by decide) ?_
    refine lv_aload_n hx hb dX11_sizeNow_44 rfl (lv_at hl 0 rfl) ?_
    refine t_get (C := RX11) (T := TX11) (N := 16) X hT m0 g0 rfl rfl 12 (by decide) qw_45 inlX11 rfl dX11_sizeNow_45 (fun v49805 hv49805 ov49805 => ?_)
    obtain ⟨b49806, rfl, mb49806, gb49806⟩ := okV_r ov49805
    have gb49806 : tag b49806 = 23 := tg_of gb49806
    refine t_get (C := RX2) (T := TX2) (N := 5) X hT mb49806 gb49806 rfl rfl 3 (by decide) qw_1590 inlX2 rfl dX11_sizeNow_48 (fun v49807 hv49807 ov49807 => ?_)
    obtain ⟨z49808, rfl, rz49808⟩ := okV_i ov49807
    exact t_iret hQ X hT (⟨rfl, rg_all _⟩) (Nat.le_of_ble_eq_true rfl) (Nat.le_of_ble_eq_true rfl) dX11_sizeNow_51
  have w49809 := cv_ne (rfl : p1.toInt = p1.toInt) (by decide : (10 : Int32).toInt = 10) c49803
  refine lv_tableOut (tgt := 52) hx hb dX11_sizeNow_1 (by omega) (by decide) ?_
  refine lv_aload_n hx hb dX11_sizeNow_52 rfl (lv_at hl 0 rfl) ?_
  refine t_get (C := RX11) (T := TX11) (N := 16) X hT m0 g0 rfl rfl 12 (by decide) qw_45 inlX11 rfl dX11_sizeNow_53 (fun v49810 hv49810 ov49810 => ?_)
  obtain ⟨b49811, rfl, mb49811, gb49811⟩ := okV_r ov49810
  have gb49811 : tag b49811 = 23 := tg_of gb49811
  refine t_get (C := RX2) (T := TX2) (N := 5) X hT mb49811 gb49811 rfl rfl 4 (by decide) qw_1591 inlX2 rfl dX11_sizeNow_56 (fun v49812 hv49812 ov49812 => ?_)
  obtain ⟨z49813, rfl, rz49813⟩ := okV_i ov49812
  exact t_iret hQ X hT (⟨rfl, rg_all _⟩) (Nat.le_of_ble_eq_true rfl) (Nat.le_of_ble_eq_true rfl) dX11_sizeNow_59
set_option maxHeartbeats 4000000 in
set_option maxRecDepth 100000 in
theorem kt135_X11_sizeTold (l : Launch) (G : KG) (tag : Nat → Nat) (L : List Nat) (F : Nat → va_E) (ho : okT G ttC tag L F) (p0 : Nat) (p1 : Int32) (m0 : p0 ∈ L) (g0 : tag p0 = 26) : TMi l yX11_sizeTold cX11_sizeTold 2 (some .int) { frames := 0, cells := 0, slots := 0, locals := 0 } G ttC tag L F [.ref p0, .int p1] (fun r F1 => F1 = F ∧ ((-2147483648) ≤ r.toInt ∧ r.toInt ≤ 2147483647)) := by
  refine t_bodyi (y := yX11_sizeTold) (cd := cX11_sizeTold) (mL := 2) (rt := (some .int)) (rm := { frames := 0, cells := 0, slots := 0, locals := 0 }) (av := [.ref p0, .int p1]) (by decide) (Nat.le_of_ble_eq_true rfl) ho ?_
  intro p e s m args below meth c ls A Q hQ X hT hl
  have hx := X.1.1
  have hb := X.1.2.1
  have hl : lv_has ls 2 [(0, .ref p0), (1, .int p1)] := hl
  have rp1 := rg_all p1
  refine lv_iload_n hx hb dX11_sizeTold_0 rfl (lv_at hl 1 rfl) ?_
  by_cases c50465 : p1 = 0
  · have w50466 := cv_eq (rfl : p1.toInt = p1.toInt) (by decide : (0 : Int32).toInt = 0) c50465
    refine lv_tableIn (off := 43) (tgt := 44) hx hb dX11_sizeTold_1 (by rw [c50465]; decide) (by rw [c50465]; decide) (by rw [c50465]; decide) (by decide) ?_
    refine lv_aload_n hx hb dX11_sizeTold_44 rfl (lv_at hl 0 rfl) ?_
    refine t_get (C := RX11) (T := TX11) (N := 16) X hT m0 g0 rfl rfl 3 (by decide) qw_18 inlX11 rfl dX11_sizeTold_45 (fun v50467 hv50467 ov50467 => ?_)
    obtain ⟨b50468, rfl, mb50468, gb50468⟩ := okV_r ov50467
    have gb50468 : tag b50468 = 18 := tg_of gb50468
    refine t_get (C := RX1) (T := TX1) (N := 20) X hT mb50468 gb50468 rfl rfl 0 (by decide) qw_728 inlX1 rfl dX11_sizeTold_48 (fun v50469 hv50469 ov50469 => ?_)
    obtain ⟨z50470, rfl, rz50470⟩ := okV_i ov50469
    exact t_iret hQ X hT (⟨rfl, rg_all _⟩) (Nat.le_of_ble_eq_true rfl) (Nat.le_of_ble_eq_true rfl) dX11_sizeTold_51
  have w50471 := cv_ne (rfl : p1.toInt = p1.toInt) (by decide : (0 : Int32).toInt = 0) c50465
  by_cases c50472 : p1 = 1
  · have w50473 := cv_eq (rfl : p1.toInt = p1.toInt) (by decide : (1 : Int32).toInt = 1) c50472
    refine lv_tableIn (off := 51) (tgt := 52) hx hb dX11_sizeTold_1 (by rw [c50472]; decide) (by rw [c50472]; decide) (by rw [c50472]; decide) (by decide) ?_
    refine lv_aload_n hx hb dX11_sizeTold_52 rfl (lv_at hl 0 rfl) ?_
    refine t_get (C := RX11) (T := TX11) (N := 16) X hT m0 g0 rfl rfl 3 (by decide) qw_18 inlX11 rfl dX11_sizeTold_53 (fun v50474 hv50474 ov50474 => ?_)
    obtain ⟨b50475, rfl, mb50475, gb50475⟩ := okV_r ov50474
    have gb50475 : tag b50475 = 18 := tg_of gb50475
    refine t_get (C := RX1) (T := TX1) (N := 20) X hT mb50475 gb50475 rfl rfl 1 (by decide) qw_727 inlX1 rfl dX11_sizeTold_56 (fun v50476 hv50476 ov50476 => ?_)
    obtain ⟨z50477, rfl, rz50477⟩ := okV_i ov50476
    exact t_iret hQ X hT (⟨rfl, rg_all _⟩) (Nat.le_of_ble_eq_true rfl) (Nat.le_of_ble_eq_true rfl) dX11_sizeTold_59
  have w50478 := cv_ne (rfl : p1.toInt = p1.toInt) (by decide : (1 : Int32).toInt = 1) c50472
  by_cases c50479 : p1 = 2
  · have w50480 := cv_eq (rfl : p1.toInt = p1.toInt) (by decide : (2 : Int32).toInt = 2) c50479
    refine lv_tableIn (off := 59) (tgt := 60) hx hb dX11_sizeTold_1 (by rw [c50479]; decide) (by rw [c50479]; decide) (by rw [c50479]; decide) (by decide) ?_
    refine lv_aload_n hx hb dX11_sizeTold_60 rfl (lv_at hl 0 rfl) ?_
    refine t_get (C := RX11) (T := TX11) (N := 16) X hT m0 g0 rfl rfl 3 (by decide) qw_18 inlX11 rfl dX11_sizeTold_61 (fun v50481 hv50481 ov50481 => ?_)
    obtain ⟨b50482, rfl, mb50482, gb50482⟩ := okV_r ov50481
    have gb50482 : tag b50482 = 18 := tg_of gb50482
    refine t_get (C := RX1) (T := TX1) (N := 20) X hT mb50482 gb50482 rfl rfl 2 (by decide) qw_1584 inlX1 rfl dX11_sizeTold_64 (fun v50483 hv50483 ov50483 => ?_)
    obtain ⟨z50484, rfl, rz50484⟩ := okV_i ov50483
    refine lv_if_eq (tgt := 74) hx hb dX11_sizeTold_67 (by decide) (fun c50485 => ?_) (fun c50485 => ?_)
    · have w50486 := cv_eq (rfl : z50484.toInt = z50484.toInt) (by decide : (0 : Int32).toInt = 0) c50485
      refine lv_iconst (v := 0) hx hb dX11_sizeTold_74 (by decide) ?_
      exact t_iret hQ X hT (⟨rfl, rg_all _⟩) (Nat.le_of_ble_eq_true rfl) (Nat.le_of_ble_eq_true rfl) dX11_sizeTold_75
    · have w50487 := cv_ne (rfl : z50484.toInt = z50484.toInt) (by decide : (0 : Int32).toInt = 0) c50485
      refine lv_iconst (v := 1) hx hb dX11_sizeTold_70 (by decide) ?_
      refine lv_goto (tgt := 75) hx hb dX11_sizeTold_71 (by decide) ?_
      exact t_iret hQ X hT (⟨rfl, rg_all _⟩) (Nat.le_of_ble_eq_true rfl) (Nat.le_of_ble_eq_true rfl) dX11_sizeTold_75
  have w50488 := cv_ne (rfl : p1.toInt = p1.toInt) (by decide : (2 : Int32).toInt = 2) c50479
  by_cases c50489 : p1 = 3
  · have w50490 := cv_eq (rfl : p1.toInt = p1.toInt) (by decide : (3 : Int32).toInt = 3) c50489
    refine lv_tableIn (off := 75) (tgt := 76) hx hb dX11_sizeTold_1 (by rw [c50489]; decide) (by rw [c50489]; decide) (by rw [c50489]; decide) (by decide) ?_
    refine lv_aload_n hx hb dX11_sizeTold_76 rfl (lv_at hl 0 rfl) ?_
    refine t_get (C := RX11) (T := TX11) (N := 16) X hT m0 g0 rfl rfl 3 (by decide) qw_18 inlX11 rfl dX11_sizeTold_77 (fun v50491 hv50491 ov50491 => ?_)
    obtain ⟨b50492, rfl, mb50492, gb50492⟩ := okV_r ov50491
    have gb50492 : tag b50492 = 18 := tg_of gb50492
    refine t_get (C := RX1) (T := TX1) (N := 20) X hT mb50492 gb50492 rfl rfl 3 (by decide) qw_1585 inlX1 rfl dX11_sizeTold_80 (fun v50493 hv50493 ov50493 => ?_)
    obtain ⟨z50494, rfl, rz50494⟩ := okV_i ov50493
    refine lv_if_eq (tgt := 90) hx hb dX11_sizeTold_83 (by decide) (fun c50495 => ?_) (fun c50495 => ?_)
    · have w50496 := cv_eq (rfl : z50494.toInt = z50494.toInt) (by decide : (0 : Int32).toInt = 0) c50495
      refine lv_iconst (v := 0) hx hb dX11_sizeTold_90 (by decide) ?_
      exact t_iret hQ X hT (⟨rfl, rg_all _⟩) (Nat.le_of_ble_eq_true rfl) (Nat.le_of_ble_eq_true rfl) dX11_sizeTold_91
    · have w50497 := cv_ne (rfl : z50494.toInt = z50494.toInt) (by decide : (0 : Int32).toInt = 0) c50495
      refine lv_iconst (v := 1) hx hb dX11_sizeTold_86 (by decide) ?_
      refine lv_goto (tgt := 91) hx hb dX11_sizeTold_87 (by decide) ?_
      exact t_iret hQ X hT (⟨rfl, rg_all _⟩) (Nat.le_of_ble_eq_true rfl) (Nat.le_of_ble_eq_true rfl) dX11_sizeTold_91
  have w50498 := cv_ne (rfl : p1.toInt = p1.toInt) (by decide : (3 : Int32).toInt = 3) c50489
  by_cases c50499 : p1 = 4
  · have w50500 := cv_eq (rfl : p1.toInt = p1.toInt) (by decide : (4 : Int32).toInt = 4) c50499
    refine lv_tableIn (off := 91) (tgt := 92) hx hb dX11_sizeTold_1 (by rw [c50499]; decide) (by rw [c50499]; decide) (by rw [c50499]; decide) (by decide) ?_
    refine lv_aload_n hx hb dX11_sizeTold_92 rfl (lv_at hl 0 rfl) ?_
    refine t_get (C := RX11) (T := TX11) (N := 16) X hT m0 g0 rfl rfl 3 (by decide) qw_18 inlX11 rfl dX11_sizeTold_93 (fun v50501 hv50501 ov50501 => ?_)
    obtain ⟨b50502, rfl, mb50502, gb50502⟩ := okV_r ov50501
    have gb50502 : tag b50502 = 18 := tg_of gb50502
    refine t_get (C := RX1) (T := TX1) (N := 20) X hT mb50502 gb50502 rfl rfl 8 (by decide) qw_958 inlX1 rfl dX11_sizeTold_96 (fun v50503 hv50503 ov50503 => ?_)
    obtain ⟨z50504, rfl, rz50504⟩ := okV_i ov50503
    exact t_iret hQ X hT (⟨rfl, rg_all _⟩) (Nat.le_of_ble_eq_true rfl) (Nat.le_of_ble_eq_true rfl) dX11_sizeTold_99
  have w50505 := cv_ne (rfl : p1.toInt = p1.toInt) (by decide : (4 : Int32).toInt = 4) c50499
  by_cases c50506 : p1 = 5
  · have w50507 := cv_eq (rfl : p1.toInt = p1.toInt) (by decide : (5 : Int32).toInt = 5) c50506
    refine lv_tableIn (off := 99) (tgt := 100) hx hb dX11_sizeTold_1 (by rw [c50506]; decide) (by rw [c50506]; decide) (by rw [c50506]; decide) (by decide) ?_
    refine lv_aload_n hx hb dX11_sizeTold_100 rfl (lv_at hl 0 rfl) ?_
    refine t_get (C := RX11) (T := TX11) (N := 16) X hT m0 g0 rfl rfl 3 (by decide) qw_18 inlX11 rfl dX11_sizeTold_101 (fun v50508 hv50508 ov50508 => ?_)
    obtain ⟨b50509, rfl, mb50509, gb50509⟩ := okV_r ov50508
    have gb50509 : tag b50509 = 18 := tg_of gb50509
    refine t_get (C := RX1) (T := TX1) (N := 20) X hT mb50509 gb50509 rfl rfl 10 (by decide) qw_151 inlX1 rfl dX11_sizeTold_104 (fun v50510 hv50510 ov50510 => ?_)
    obtain ⟨z50511, rfl, rz50511⟩ := okV_i ov50510
    exact t_iret hQ X hT (⟨rfl, rg_all _⟩) (Nat.le_of_ble_eq_true rfl) (Nat.le_of_ble_eq_true rfl) dX11_sizeTold_107
  have w50512 := cv_ne (rfl : p1.toInt = p1.toInt) (by decide : (5 : Int32).toInt = 5) c50506
  by_cases c50513 : p1 = 6
  · have w50514 := cv_eq (rfl : p1.toInt = p1.toInt) (by decide : (6 : Int32).toInt = 6) c50513
    refine lv_tableIn (off := 107) (tgt := 108) hx hb dX11_sizeTold_1 (by rw [c50513]; decide) (by rw [c50513]; decide) (by rw [c50513]; decide) (by decide) ?_
    refine lv_aload_n hx hb dX11_sizeTold_108 rfl (lv_at hl 0 rfl) ?_
    refine t_get (C := RX11) (T := TX11) (N := 16) X hT m0 g0 rfl rfl 3 (by decide) qw_18 inlX11 rfl dX11_sizeTold_109 (fun v50515 hv50515 ov50515 => ?_)
    obtain ⟨b50516, rfl, mb50516, gb50516⟩ := okV_r ov50515
    have gb50516 : tag b50516 = 18 := tg_of gb50516
    refine t_get (C := RX1) (T := TX1) (N := 20) X hT mb50516 gb50516 rfl rfl 14 (by decide) qw_891 inlX1 rfl dX11_sizeTold_112 (fun v50517 hv50517 ov50517 => ?_)
    obtain ⟨z50518, rfl, rz50518⟩ := okV_i ov50517
    exact t_iret hQ X hT (⟨rfl, rg_all _⟩) (Nat.le_of_ble_eq_true rfl) (Nat.le_of_ble_eq_true rfl) dX11_sizeTold_115
  have w50519 := cv_ne (rfl : p1.toInt = p1.toInt) (by decide : (6 : Int32).toInt = 6) c50513
  refine lv_tableOut (tgt := 116) hx hb dX11_sizeTold_1 (by omega) (by decide) ?_
  refine lv_aload_n hx hb dX11_sizeTold_116 rfl (lv_at hl 0 rfl) ?_
  refine t_get (C := RX11) (T := TX11) (N := 16) X hT m0 g0 rfl rfl 3 (by decide) qw_18 inlX11 rfl dX11_sizeTold_117 (fun v50520 hv50520 ov50520 => ?_)
  obtain ⟨b50521, rfl, mb50521, gb50521⟩ := okV_r ov50520
  have gb50521 : tag b50521 = 18 := tg_of gb50521
  refine t_get (C := RX1) (T := TX1) (N := 20) X hT mb50521 gb50521 rfl rfl 16 (by decide) qw_1383 inlX1 rfl dX11_sizeTold_120 (fun v50522 hv50522 ov50522 => ?_)
  obtain ⟨z50523, rfl, rz50523⟩ := okV_i ov50522
  exact t_iret hQ X hT (⟨rfl, rg_all _⟩) (Nat.le_of_ble_eq_true rfl) (Nat.le_of_ble_eq_true rfl) dX11_sizeTold_123
set_option maxHeartbeats 4000000 in
set_option maxRecDepth 100000 in
theorem kt136_X11_size (l : Launch) (G : KG) (tag : Nat → Nat) (L : List Nat) (F : Nat → va_E) (ho : okT G ttC tag L F) (p0 : Nat) (p1 : Int32) (m0 : p0 ∈ L) (g0 : tag p0 = 26) : TMi l yX11_size cX11_size 2 (some .int) { frames := 1, cells := 0, slots := 0, locals := 21 } G ttC tag L F [.ref p0, .int p1] (fun r F1 => F1 = F ∧ ((-2147483648) ≤ r.toInt ∧ r.toInt ≤ 2147483647)) := by
  refine t_bodyi (y := yX11_size) (cd := cX11_size) (mL := 2) (rt := (some .int)) (rm := { frames := 1, cells := 0, slots := 0, locals := 21 }) (av := [.ref p0, .int p1]) (by decide) (Nat.le_of_ble_eq_true rfl) ho ?_
  intro p e s m args below meth c ls A Q hQ X hT hl
  have hx := X.1.1
  have hb := X.1.2.1
  have hl : lv_has ls 2 [(0, .ref p0), (1, .int p1)] := hl
  have rp1 := rg_all p1
  refine lv_iload_n hx hb dX11_size_0 rfl (lv_at hl 1 rfl) ?_
  refine lv_bipush (v := 12) hx hb dX11_size_1 (by decide) ?_
  refine lv_icmp_ne (tgt := 11) hx hb dX11_size_3 (by decide) (fun c50740 => ?_) (fun c50740 => ?_)
  · have w50741 := cv_ne (rfl : p1.toInt = p1.toInt) (by decide : (12 : Int32).toInt = 12) c50740
    refine lv_iload_n hx hb dX11_size_11 rfl (lv_at hl 1 rfl) ?_
    refine lv_if_lt (tgt := 21) hx hb dX11_size_12 (by decide) (fun c50742 => ?_) (fun c50742 => ?_)
    · have w50743 := cv_lt (rfl : p1.toInt = p1.toInt) (by decide : (0 : Int32).toInt = 0) c50742
      refine lv_iconst (v := (-1)) hx hb dX11_size_21 (by decide) ?_
      exact t_iret hQ X hT (⟨rfl, rg_all _⟩) (Nat.le_of_ble_eq_true rfl) (Nat.le_of_ble_eq_true rfl) dX11_size_22
    · have w50744 := cv_nlt (rfl : p1.toInt = p1.toInt) (by decide : (0 : Int32).toInt = 0) c50742
      refine lv_iload_n hx hb dX11_size_15 rfl (lv_at hl 1 rfl) ?_
      refine lv_bipush (v := 12) hx hb dX11_size_16 (by decide) ?_
      refine lv_icmp_le (tgt := 23) hx hb dX11_size_18 (by decide) (fun c50745 => ?_) (fun c50745 => ?_)
      · have w50746 := cv_le (rfl : p1.toInt = p1.toInt) (by decide : (12 : Int32).toInt = 12) c50745
        refine lv_aload_n hx hb dX11_size_23 rfl (lv_at hl 0 rfl) ?_
        refine t_get (C := RX11) (T := TX11) (N := 16) X hT m0 g0 rfl rfl 2 (by decide) qw_150 inlX11 rfl dX11_size_24 (fun v50747 hv50747 ov50747 => ?_)
        obtain ⟨z50748, rfl, rz50748⟩ := okV_i ov50747
        refine lv_if_ne (tgt := 32) hx hb dX11_size_27 (by decide) (fun c50749 => ?_) (fun c50749 => ?_)
        · have w50750 := cv_ne (rfl : z50748.toInt = z50748.toInt) (by decide : (0 : Int32).toInt = 0) c50749
          refine lv_iload_n hx hb dX11_size_32 rfl (lv_at hl 1 rfl) ?_
          refine lv_bipush (v := 8) hx hb dX11_size_33 (by decide) ?_
          refine lv_icmp_ge (tgt := 46) hx hb dX11_size_35 (by decide) (fun c50751 => ?_) (fun c50751 => ?_)
          · have w50752 := cv_le (by decide : (8 : Int32).toInt = 8) (rfl : p1.toInt = p1.toInt) c50751
            refine lv_aload_n hx hb dX11_size_46 rfl (lv_at hl 0 rfl) ?_
            refine lv_iload_n hx hb dX11_size_47 rfl (lv_at hl 1 rfl) ?_
            refine t_cVi (n := 1) (C := RX11) (T := TX11) (N := 16) (As := [.int p1]) (rest := []) X hT (kt134_X11_sizeNow l G tag L F hT.2.2.2 p0 p1 m0 g0) m0 g0 rfl rfl qw_1586 qw_1587 qw_1588 qw_2 qw_1589 ⟨rfl, by decide +kernel, by decide +kernel, by decide +kernel⟩ ⟨Nat.le_of_ble_eq_true rfl, Nat.le_of_ble_eq_true rfl⟩ hl rfl rfl (Nat.le_of_ble_eq_true rfl) dX11_size_48 ⟨Nat.le_of_ble_eq_true rfl, Nat.le_of_ble_eq_true rfl⟩ (fun z50753 F9 H locs hT hz50753 => ?_)
            obtain ⟨fz50753, hz50753⟩ := hz50753
            rw [fz50753] at hT
            exact t_iret hQ X hT (⟨rfl, rg_all _⟩) (Nat.le_of_ble_eq_true rfl) (Nat.le_of_ble_eq_true rfl) dX11_size_51
          · have w50754 := cv_nle (by decide : (8 : Int32).toInt = 8) (rfl : p1.toInt = p1.toInt) c50751
            refine lv_aload_n hx hb dX11_size_38 rfl (lv_at hl 0 rfl) ?_
            refine lv_iload_n hx hb dX11_size_39 rfl (lv_at hl 1 rfl) ?_
            refine t_cVi (n := 1) (C := RX11) (T := TX11) (N := 16) (As := [.int p1]) (rest := []) X hT (kt135_X11_sizeTold l G tag L F hT.2.2.2 p0 p1 m0 g0) m0 g0 rfl rfl qw_1580 qw_1581 qw_1582 qw_2 qw_1583 ⟨rfl, by decide +kernel, by decide +kernel, by decide +kernel⟩ ⟨Nat.le_of_ble_eq_true rfl, Nat.le_of_ble_eq_true rfl⟩ hl rfl rfl (Nat.le_of_ble_eq_true rfl) dX11_size_40 ⟨Nat.le_of_ble_eq_true rfl, Nat.le_of_ble_eq_true rfl⟩ (fun z50755 F9 H locs hT hz50755 => ?_)
            obtain ⟨fz50755, hz50755⟩ := hz50755
            rw [fz50755] at hT
            refine lv_goto (tgt := 51) hx hb dX11_size_43 (by decide) ?_
            exact t_iret hQ X hT (⟨rfl, rg_all _⟩) (Nat.le_of_ble_eq_true rfl) (Nat.le_of_ble_eq_true rfl) dX11_size_51
        · have w50756 := cv_eq (rfl : z50748.toInt = z50748.toInt) (by decide : (0 : Int32).toInt = 0) c50749
          refine lv_iconst (v := 0) hx hb dX11_size_30 (by decide) ?_
          exact t_iret hQ X hT (⟨rfl, rg_all _⟩) (Nat.le_of_ble_eq_true rfl) (Nat.le_of_ble_eq_true rfl) dX11_size_31
      · have w50757 := cv_nle (rfl : p1.toInt = p1.toInt) (by decide : (12 : Int32).toInt = 12) c50745
        refine lv_iconst (v := (-1)) hx hb dX11_size_21 (by decide) ?_
        exact t_iret hQ X hT (⟨rfl, rg_all _⟩) (Nat.le_of_ble_eq_true rfl) (Nat.le_of_ble_eq_true rfl) dX11_size_22
  · have w50758 := cv_eq (rfl : p1.toInt = p1.toInt) (by decide : (12 : Int32).toInt = 12) c50740
    refine lv_aload_n hx hb dX11_size_6 rfl (lv_at hl 0 rfl) ?_
    refine t_get (C := RX11) (T := TX11) (N := 16) X hT m0 g0 rfl rfl 1 (by decide) qw_131 inlX11 rfl dX11_size_7 (fun v50759 hv50759 ov50759 => ?_)
    obtain ⟨z50760, rfl, rz50760⟩ := okV_i ov50759
    exact t_iret hQ X hT (⟨rfl, rg_all _⟩) (Nat.le_of_ble_eq_true rfl) (Nat.le_of_ble_eq_true rfl) dX11_size_10
set_option maxHeartbeats 4000000 in
set_option maxRecDepth 100000 in
theorem kt137_X11_skin (l : Launch) (G : KG) (tag : Nat → Nat) (L : List Nat) (Fo : Nat → va_E) (ho : okT G ttC tag L Fo) (p0 : Nat) (p1 : Int32) (p2 : Int32) (p3 : Int32) (m0 : p0 ∈ L) (g0 : tag p0 = 26) : TMi l yX11_skin cX11_skin 4 (some .int) { frames := 3, cells := 0, slots := 0, locals := 65 } G ttC tag L Fo [.ref p0, .int p1, .int p2, .int p3] (fun r F1 => ((-2147483648) ≤ r.toInt ∧ r.toInt ≤ 2147483647) ∧ ((∀ b j : Nat, (tag b ≠ 26 ∨ j ≠ 13) → fld F1 b j = fld Fo b j) ∧ EF tag F1 Fo)) := by
  refine t_bodyi (y := yX11_skin) (cd := cX11_skin) (mL := 4) (rt := (some .int)) (rm := { frames := 3, cells := 0, slots := 0, locals := 65 }) (av := [.ref p0, .int p1, .int p2, .int p3]) (by decide) (Nat.le_of_ble_eq_true rfl) ho ?_
  intro p e s m args below meth c ls A Q hQ X hT hl
  have hx := X.1.1
  have hb := X.1.2.1
  have hl : lv_has ls 4 [(0, .ref p0), (1, .int p1), (2, .int p2), (3, .int p3)] := hl
  have rp1 := rg_all p1
  have rp2 := rg_all p2
  have rp3 := rg_all p3
  obtain ⟨F, hFo⟩ : ∃ F : Nat → va_E, F = Fo := ⟨_, rfl⟩
  rw [← hFo] at hT
  have hfr : (∀ b j : Nat, (tag b ≠ 26 ∨ j ≠ 13) → fld F b j = fld Fo b j) ∧ EF tag F Fo := by
    rw [hFo]
    exact ⟨by intros; rfl, fun _ _ _ => rfl⟩
  have K19 : ∀  (F : Nat → va_E) (H : Heap) (locs : List Loc) (ls : Array Slot), TH G ttC A s tag L F H locs → ((∀ b j : Nat, (tag b ≠ 26 ∨ j ≠ 13) → fld F b j = fld Fo b j) ∧ EF tag F Fo) → lv_has ls 4 [(0, .ref p0), (1, .int p1), (2, .int p2), (3, .int p3)] → W p l e { frames := 3, cells := 0, slots := 0, locals := 65 } s m args below meth c H locs 0 0 Q (F0 m 19 ls []) := by
    intro F H locs ls hT hfr hl
    refine lv_aload_n hx hb dX11_skin_19 rfl (lv_at hl 0 rfl) ?_
    refine lv_iconst (v := 1) hx hb dX11_skin_20 (by decide) ?_
    refine t_cVi (n := 1) (C := RX11) (T := TX11) (N := 16) (As := [.int 1]) (rest := []) X hT (kt63_X11_refuse l G tag L F hT.2.2.2 p0 1 m0 g0) m0 g0 rfl rfl qw_152 qw_153 qw_154 qw_2 qw_155 ⟨rfl, by decide +kernel, by decide +kernel, by decide +kernel⟩ ⟨Nat.le_of_ble_eq_true rfl, Nat.le_of_ble_eq_true rfl⟩ hl rfl rfl (Nat.le_of_ble_eq_true rfl) dX11_skin_21 ⟨Nat.le_of_ble_eq_true rfl, Nat.le_of_ble_eq_true rfl⟩ (fun z50959 F H locs hT hz50959 => ?_)
    obtain ⟨hz50959, yz50959⟩ := hz50959
    have hfr : (∀ b j : Nat, (tag b ≠ 26 ∨ j ≠ 13) → fld F b j = fld Fo b j) ∧ EF tag F Fo := ⟨fun b j n26_13 => (yz50959.1 b j n26_13).trans (hfr.1 b j n26_13), fun b j hb => (yz50959.2 b j hb).trans (hfr.2 b j hb)⟩
    exact t_iret hQ X hT (⟨rg_all _, hfr⟩) (Nat.le_of_ble_eq_true rfl) (Nat.le_of_ble_eq_true rfl) dX11_skin_24
  refine lv_aload_n hx hb dX11_skin_0 rfl (lv_at hl 0 rfl) ?_
  refine lv_iload_n hx hb dX11_skin_1 rfl (lv_at hl 1 rfl) ?_
  refine lv_iload_n hx hb dX11_skin_2 rfl (lv_at hl 2 rfl) ?_
  refine t_cVi (n := 2) (C := RX11) (T := TX11) (N := 16) (As := [.int p1, .int p2]) (rest := []) X hT (kt70_X11_isSkin l G tag L F hT.2.2.2 p0 p1 p2 m0 g0) m0 g0 rfl rfl qw_823 qw_824 qw_825 qw_2 qw_826 ⟨rfl, by decide +kernel, by decide +kernel, by decide +kernel⟩ ⟨Nat.le_of_ble_eq_true rfl, Nat.le_of_ble_eq_true rfl⟩ hl rfl rfl (Nat.le_of_ble_eq_true rfl) dX11_skin_3 ⟨Nat.le_of_ble_eq_true rfl, Nat.le_of_ble_eq_true rfl⟩ (fun z50960 F9 H locs hT hz50960 => ?_)
  obtain ⟨fz50960, hz50960⟩ := hz50960
  rw [fz50960] at hT
  obtain ⟨hz50960, iz50960⟩ := hz50960
  refine lv_if_eq (tgt := 19) hx hb dX11_skin_6 (by decide) (fun c50961 => ?_) (fun c50961 => ?_)
  · have w50962 := cv_eq (rfl : z50960.toInt = z50960.toInt) (by decide : (0 : Int32).toInt = 0) c50961
    exact K19  _ _ _ _  hT hfr  (lv_sub hl [0, 1, 2, 3] rfl)
  · have w50963 := cv_ne (rfl : z50960.toInt = z50960.toInt) (by decide : (0 : Int32).toInt = 0) c50961
    have w50964 := (fun h => (iz50960 h).1) (by omega)
    have w50965 := (fun h => (iz50960 h).2) (by omega)
    refine lv_iload_n hx hb dX11_skin_9 rfl (lv_at hl 3 rfl) ?_
    refine lv_if_lt (tgt := 19) hx hb dX11_skin_10 (by decide) (fun c50966 => ?_) (fun c50966 => ?_)
    · have w50967 := cv_lt (rfl : p3.toInt = p3.toInt) (by decide : (0 : Int32).toInt = 0) c50966
      exact K19  _ _ _ _  hT hfr  (lv_sub hl [0, 1, 2, 3] rfl)
    · have w50968 := cv_nlt (rfl : p3.toInt = p3.toInt) (by decide : (0 : Int32).toInt = 0) c50966
      refine lv_iload_n hx hb dX11_skin_13 rfl (lv_at hl 3 rfl) ?_
      refine lv_bipush (v := 8) hx hb dX11_skin_14 (by decide) ?_
      refine lv_icmp_lt (tgt := 25) hx hb dX11_skin_16 (by decide) (fun c50969 => ?_) (fun c50969 => ?_)
      · have w50970 := cv_lt (rfl : p3.toInt = p3.toInt) (by decide : (8 : Int32).toInt = 8) c50969
        refine lv_aload_n hx hb dX11_skin_25 rfl (lv_at hl 0 rfl) ?_
        refine lv_aload_n hx hb dX11_skin_26 rfl (lv_at hl 0 rfl) ?_
        refine t_get (C := RX11) (T := TX11) (N := 16) X hT m0 g0 rfl rfl 5 (by decide) qw_23 inlX11 rfl dX11_skin_27 (fun v50971 hv50971 ov50971 => ?_)
        obtain ⟨b50972, rfl, mb50972, gb50972⟩ := okV_r ov50971
        have gb50972 : tag b50972 = 19 := tg_of gb50972
        refine lv_iload_n hx hb dX11_skin_30 rfl (lv_at hl 1 rfl) ?_
        refine lv_iload_n hx hb dX11_skin_31 rfl (lv_at hl 2 rfl) ?_
        refine lv_iload_n hx hb dX11_skin_32 rfl (lv_at hl 3 rfl) ?_
        refine t_cVi (n := 3) (C := RX7) (T := TX7) (N := 7) (As := [.int p1, .int p2, .int p3]) (rest := [.ref p0]) X hT (kt15_X7_partOf l G tag L F hT.2.2.2 b50972 p1 p2 p3 mb50972 gb50972) mb50972 gb50972 rfl rfl qw_831 qw_778 qw_779 qw_22 qw_780 ⟨rfl, by decide +kernel, by decide +kernel, by decide +kernel⟩ ⟨Nat.le_of_ble_eq_true rfl, Nat.le_of_ble_eq_true rfl⟩ hl rfl rfl (Nat.le_of_ble_eq_true rfl) dX11_skin_33 ⟨Nat.le_of_ble_eq_true rfl, Nat.le_of_ble_eq_true rfl⟩ (fun z50973 F9 H locs hT hz50973 => ?_)
        obtain ⟨fz50973, hz50973⟩ := hz50973
        rw [fz50973] at hT
        refine t_cVi (n := 1) (C := RX11) (T := TX11) (N := 16) (As := [.int z50973]) (rest := []) X hT (kt56_X11_answer l G tag L F hT.2.2.2 p0 z50973 m0 g0) m0 g0 rfl rfl qw_463 qw_464 qw_465 qw_2 qw_466 ⟨rfl, by decide +kernel, by decide +kernel, by decide +kernel⟩ ⟨Nat.le_of_ble_eq_true rfl, Nat.le_of_ble_eq_true rfl⟩ hl rfl rfl (Nat.le_of_ble_eq_true rfl) dX11_skin_36 ⟨Nat.le_of_ble_eq_true rfl, Nat.le_of_ble_eq_true rfl⟩ (fun z50974 F H locs hT hz50974 => ?_)
        obtain ⟨hz50974, yz50974⟩ := hz50974
        have hv50971 := (yz50974.1 _ 5 (Or.inr (by decide))).trans hv50971
        have hfr : (∀ b j : Nat, (tag b ≠ 26 ∨ j ≠ 13) → fld F b j = fld Fo b j) ∧ EF tag F Fo := ⟨fun b j n26_13 => (yz50974.1 b j n26_13).trans (hfr.1 b j n26_13), fun b j hb => (yz50974.2 b j hb).trans (hfr.2 b j hb)⟩
        exact t_iret hQ X hT (⟨rg_all _, hfr⟩) (Nat.le_of_ble_eq_true rfl) (Nat.le_of_ble_eq_true rfl) dX11_skin_39
      · have w50975 := cv_nlt (rfl : p3.toInt = p3.toInt) (by decide : (8 : Int32).toInt = 8) c50969
        exact K19  _ _ _ _  hT hfr  (lv_sub hl [0, 1, 2, 3] rfl)
set_option maxHeartbeats 4000000 in
set_option maxRecDepth 100000 in
theorem kt138_X11_skinsIn (l : Launch) (G : KG) (tag : Nat → Nat) (L : List Nat) (Fo : Nat → va_E) (ho : okT G ttC tag L Fo) (p0 : Nat) (p1 : Int32) (m0 : p0 ∈ L) (g0 : tag p0 = 26) : TMi l yX11_skinsIn cX11_skinsIn 2 (some .int) { frames := 7, cells := 0, slots := 0, locals := 179 } G ttC tag L Fo [.ref p0, .int p1] (fun r F1 => ((-2147483648) ≤ r.toInt ∧ r.toInt ≤ 2147483647) ∧ ((∀ b j : Nat, (tag b ≠ 19 ∨ j ≠ 0) → (tag b ≠ 19 ∨ j ≠ 1) → (tag b ≠ 26 ∨ j ≠ 13) → fld F1 b j = fld Fo b j) ∧ EF tag F1 Fo)) := by
  refine t_bodyi (y := yX11_skinsIn) (cd := cX11_skinsIn) (mL := 2) (rt := (some .int)) (rm := { frames := 7, cells := 0, slots := 0, locals := 179 }) (av := [.ref p0, .int p1]) (by decide) (Nat.le_of_ble_eq_true rfl) ho ?_
  intro p e s m args below meth c ls A Q hQ X hT hl
  have hx := X.1.1
  have hb := X.1.2.1
  have hl : lv_has ls 2 [(0, .ref p0), (1, .int p1)] := hl
  have rp1 := rg_all p1
  obtain ⟨F, hFo⟩ : ∃ F : Nat → va_E, F = Fo := ⟨_, rfl⟩
  rw [← hFo] at hT
  have hfr : (∀ b j : Nat, (tag b ≠ 19 ∨ j ≠ 0) → (tag b ≠ 19 ∨ j ≠ 1) → (tag b ≠ 26 ∨ j ≠ 13) → fld F b j = fld Fo b j) ∧ EF tag F Fo := by
    rw [hFo]
    exact ⟨by intros; rfl, fun _ _ _ => rfl⟩
  have K23 : ∀ (z51185 : Int32) (F : Nat → va_E) (H : Heap) (locs : List Loc) (ls : Array Slot), (1 ≤ z51185.toInt ∧ z51185.toInt ≤ 1) → TH G ttC A s tag L F H locs → ((∀ b j : Nat, (tag b ≠ 19 ∨ j ≠ 0) → (tag b ≠ 19 ∨ j ≠ 1) → (tag b ≠ 26 ∨ j ≠ 13) → fld F b j = fld Fo b j) ∧ EF tag F Fo) → fld F p0 2 = .int z51185 → lv_has ls 2 [(0, .ref p0), (1, .int p1)] → W p l e { frames := 7, cells := 0, slots := 0, locals := 179 } s m args below meth c H locs 0 0 Q (F0 m 23 ls []) := by
    intro z51185 F H locs ls rz51185 hT hfr qz51185 hl
    refine lv_aload_n hx hb dX11_skinsIn_23 rfl (lv_at hl 0 rfl) ?_
    refine lv_iconst (v := 2) hx hb dX11_skinsIn_24 (by decide) ?_
    refine t_cVi (n := 1) (C := RX11) (T := TX11) (N := 16) (As := [.int 2]) (rest := []) X hT (kt63_X11_refuse l G tag L F hT.2.2.2 p0 2 m0 g0) m0 g0 rfl rfl qw_152 qw_153 qw_154 qw_2 qw_155 ⟨rfl, by decide +kernel, by decide +kernel, by decide +kernel⟩ ⟨Nat.le_of_ble_eq_true rfl, Nat.le_of_ble_eq_true rfl⟩ hl rfl rfl (Nat.le_of_ble_eq_true rfl) dX11_skinsIn_25 ⟨Nat.le_of_ble_eq_true rfl, Nat.le_of_ble_eq_true rfl⟩ (fun z51186 F H locs hT hz51186 => ?_)
    obtain ⟨hz51186, yz51186⟩ := hz51186
    have qz51185 := (yz51186.1 _ 2 (Or.inr (by decide))).trans qz51185
    have hfr : (∀ b j : Nat, (tag b ≠ 19 ∨ j ≠ 0) → (tag b ≠ 19 ∨ j ≠ 1) → (tag b ≠ 26 ∨ j ≠ 13) → fld F b j = fld Fo b j) ∧ EF tag F Fo := ⟨fun b j n19_0 n19_1 n26_13 => (yz51186.1 b j n26_13).trans (hfr.1 b j n19_0 n19_1 n26_13), fun b j hb => (yz51186.2 b j hb).trans (hfr.2 b j hb)⟩
    exact t_iret hQ X hT (⟨rg_all _, hfr⟩) (Nat.le_of_ble_eq_true rfl) (Nat.le_of_ble_eq_true rfl) dX11_skinsIn_28
  refine lv_aload_n hx hb dX11_skinsIn_0 rfl (lv_at hl 0 rfl) ?_
  refine t_get (C := RX11) (T := TX11) (N := 16) X hT m0 g0 rfl rfl 2 (by decide) qw_150 inlX11 rfl dX11_skinsIn_1 (fun v51187 hv51187 ov51187 => ?_)
  obtain ⟨z51188, rfl, rz51188⟩ := okV_i ov51187
  refine lv_if_ne (tgt := 13) hx hb dX11_skinsIn_4 (by decide) (fun c51189 => ?_) (fun c51189 => ?_)
  · have w51190 := cv_ne (rfl : z51188.toInt = z51188.toInt) (by decide : (0 : Int32).toInt = 0) c51189
    refine lv_iload_n hx hb dX11_skinsIn_13 rfl (lv_at hl 1 rfl) ?_
    refine lv_if_lt (tgt := 23) hx hb dX11_skinsIn_14 (by decide) (fun c51191 => ?_) (fun c51191 => ?_)
    · have w51192 := cv_lt (rfl : p1.toInt = p1.toInt) (by decide : (0 : Int32).toInt = 0) c51191
      exact K23 z51188 _ _ _ _ (by omega) hT hfr hv51187 (lv_sub hl [0, 1] rfl)
    · have w51193 := cv_nlt (rfl : p1.toInt = p1.toInt) (by decide : (0 : Int32).toInt = 0) c51191
      refine lv_iload_n hx hb dX11_skinsIn_17 rfl (lv_at hl 1 rfl) ?_
      refine lv_bipush (v := 60) hx hb dX11_skinsIn_18 (by decide) ?_
      refine lv_icmp_le (tgt := 29) hx hb dX11_skinsIn_20 (by decide) (fun c51194 => ?_) (fun c51194 => ?_)
      · have w51195 := cv_le (rfl : p1.toInt = p1.toInt) (by decide : (60 : Int32).toInt = 60) c51194
        refine lv_aload_n hx hb dX11_skinsIn_29 rfl (lv_at hl 0 rfl) ?_
        refine lv_iload_n hx hb dX11_skinsIn_30 rfl (lv_at hl 1 rfl) ?_
        refine t_cVv (n := 1) (C := RX11) (T := TX11) (N := 16) (As := [.int p1]) (rest := []) X hT (kt83_X11_goTo l G tag L F hT.2.2.2 p0 p1 m0 g0 (by omega)) m0 g0 rfl rfl qw_1092 qw_1093 qw_1094 qw_2 qw_1095 ⟨rfl, by decide +kernel, by decide +kernel, by decide +kernel⟩ ⟨Nat.le_of_ble_eq_true rfl, Nat.le_of_ble_eq_true rfl⟩ hl rfl rfl (Nat.le_of_ble_eq_true rfl) dX11_skinsIn_31 ⟨Nat.le_of_ble_eq_true rfl, Nat.le_of_ble_eq_true rfl⟩ (fun F H locs hT hz51196 => ?_)
        have yz51196 := hz51196
        have hv51187 := (yz51196.1 _ 2 (Or.inr (by decide)) (Or.inr (by decide))).trans hv51187
        have hfr : (∀ b j : Nat, (tag b ≠ 19 ∨ j ≠ 0) → (tag b ≠ 19 ∨ j ≠ 1) → (tag b ≠ 26 ∨ j ≠ 13) → fld F b j = fld Fo b j) ∧ EF tag F Fo := ⟨fun b j n19_0 n19_1 n26_13 => (yz51196.1 b j n19_0 n19_1).trans (hfr.1 b j n19_0 n19_1 n26_13), fun b j hb => (yz51196.2 b j hb).trans (hfr.2 b j hb)⟩
        refine lv_aload_n hx hb dX11_skinsIn_34 rfl (lv_at hl 0 rfl) ?_
        refine lv_aload_n hx hb dX11_skinsIn_35 rfl (lv_at hl 0 rfl) ?_
        refine t_get (C := RX11) (T := TX11) (N := 16) X hT m0 g0 rfl rfl 7 (by decide) qw_25 inlX11 rfl dX11_skinsIn_36 (fun v51197 hv51197 ov51197 => ?_)
        obtain ⟨b51198, rfl, mb51198, gb51198⟩ := okV_r ov51197
        have gb51198 : tag b51198 = 19 := tg_of gb51198
        refine t_cVi (n := 0) (C := RX7) (T := TX7) (N := 7) (As := []) (rest := [.ref p0]) X hT (kt23_X7_skinsOfAll l G tag L F hT.2.2.2 b51198 mb51198 gb51198) mb51198 gb51198 rfl rfl qw_1182 qw_1183 qw_1184 qw_22 qw_1185 ⟨rfl, by decide +kernel, by decide +kernel, by decide +kernel⟩ ⟨Nat.le_of_ble_eq_true rfl, Nat.le_of_ble_eq_true rfl⟩ hl rfl rfl (Nat.le_of_ble_eq_true rfl) dX11_skinsIn_39 ⟨Nat.le_of_ble_eq_true rfl, Nat.le_of_ble_eq_true rfl⟩ (fun z51199 F9 H locs hT hz51199 => ?_)
        obtain ⟨fz51199, hz51199⟩ := hz51199
        rw [fz51199] at hT
        refine t_cVi (n := 1) (C := RX11) (T := TX11) (N := 16) (As := [.int z51199]) (rest := []) X hT (kt56_X11_answer l G tag L F hT.2.2.2 p0 z51199 m0 g0) m0 g0 rfl rfl qw_463 qw_464 qw_465 qw_2 qw_466 ⟨rfl, by decide +kernel, by decide +kernel, by decide +kernel⟩ ⟨Nat.le_of_ble_eq_true rfl, Nat.le_of_ble_eq_true rfl⟩ hl rfl rfl (Nat.le_of_ble_eq_true rfl) dX11_skinsIn_42 ⟨Nat.le_of_ble_eq_true rfl, Nat.le_of_ble_eq_true rfl⟩ (fun z51200 F H locs hT hz51200 => ?_)
        obtain ⟨hz51200, yz51200⟩ := hz51200
        have hv51187 := (yz51200.1 _ 2 (Or.inr (by decide))).trans hv51187
        have hv51197 := (yz51200.1 _ 7 (Or.inr (by decide))).trans hv51197
        have hfr : (∀ b j : Nat, (tag b ≠ 19 ∨ j ≠ 0) → (tag b ≠ 19 ∨ j ≠ 1) → (tag b ≠ 26 ∨ j ≠ 13) → fld F b j = fld Fo b j) ∧ EF tag F Fo := ⟨fun b j n19_0 n19_1 n26_13 => (yz51200.1 b j n26_13).trans (hfr.1 b j n19_0 n19_1 n26_13), fun b j hb => (yz51200.2 b j hb).trans (hfr.2 b j hb)⟩
        exact t_iret hQ X hT (⟨rg_all _, hfr⟩) (Nat.le_of_ble_eq_true rfl) (Nat.le_of_ble_eq_true rfl) dX11_skinsIn_45
      · have w51201 := cv_nle (rfl : p1.toInt = p1.toInt) (by decide : (60 : Int32).toInt = 60) c51194
        exact K23 z51188 _ _ _ _ (by omega) hT hfr hv51187 (lv_sub hl [0, 1] rfl)
  · have w51202 := cv_eq (rfl : z51188.toInt = z51188.toInt) (by decide : (0 : Int32).toInt = 0) c51189
    refine lv_aload_n hx hb dX11_skinsIn_7 rfl (lv_at hl 0 rfl) ?_
    refine lv_iconst (v := 1) hx hb dX11_skinsIn_8 (by decide) ?_
    refine t_cVi (n := 1) (C := RX11) (T := TX11) (N := 16) (As := [.int 1]) (rest := []) X hT (kt63_X11_refuse l G tag L F hT.2.2.2 p0 1 m0 g0) m0 g0 rfl rfl qw_152 qw_153 qw_154 qw_2 qw_155 ⟨rfl, by decide +kernel, by decide +kernel, by decide +kernel⟩ ⟨Nat.le_of_ble_eq_true rfl, Nat.le_of_ble_eq_true rfl⟩ hl rfl rfl (Nat.le_of_ble_eq_true rfl) dX11_skinsIn_9 ⟨Nat.le_of_ble_eq_true rfl, Nat.le_of_ble_eq_true rfl⟩ (fun z51203 F H locs hT hz51203 => ?_)
    obtain ⟨hz51203, yz51203⟩ := hz51203
    have hv51187 := (yz51203.1 _ 2 (Or.inr (by decide))).trans hv51187
    have hfr : (∀ b j : Nat, (tag b ≠ 19 ∨ j ≠ 0) → (tag b ≠ 19 ∨ j ≠ 1) → (tag b ≠ 26 ∨ j ≠ 13) → fld F b j = fld Fo b j) ∧ EF tag F Fo := ⟨fun b j n19_0 n19_1 n26_13 => (yz51203.1 b j n26_13).trans (hfr.1 b j n19_0 n19_1 n26_13), fun b j hb => (yz51203.2 b j hb).trans (hfr.2 b j hb)⟩
    exact t_iret hQ X hT (⟨rg_all _, hfr⟩) (Nat.le_of_ble_eq_true rfl) (Nat.le_of_ble_eq_true rfl) dX11_skinsIn_12
set_option maxHeartbeats 4000000 in
set_option maxRecDepth 100000 in
theorem kt139_X11_soonest (l : Launch) (G : KG) (tag : Nat → Nat) (L : List Nat) (Fo : Nat → va_E) (ho : okT G ttC tag L Fo) (p0 : Nat) (p1 : Int32) (m0 : p0 ∈ L) (g0 : tag p0 = 26) : TMi l yX11_soonest cX11_soonest 2 (some .int) { frames := 4, cells := 0, slots := 0, locals := 86 } G ttC tag L Fo [.ref p0, .int p1] (fun r F1 => ((-2147483648) ≤ r.toInt ∧ r.toInt ≤ 2147483647) ∧ ((∀ b j : Nat, (tag b ≠ 22 ∨ j ≠ 2) → (tag b ≠ 26 ∨ j ≠ 13) → fld F1 b j = fld Fo b j) ∧ EF tag F1 Fo)) := by
  refine t_bodyi (y := yX11_soonest) (cd := cX11_soonest) (mL := 2) (rt := (some .int)) (rm := { frames := 4, cells := 0, slots := 0, locals := 86 }) (av := [.ref p0, .int p1]) (by decide) (Nat.le_of_ble_eq_true rfl) ho ?_
  intro p e s m args below meth c ls A Q hQ X hT hl
  have hx := X.1.1
  have hb := X.1.2.1
  have hl : lv_has ls 2 [(0, .ref p0), (1, .int p1)] := hl
  have rp1 := rg_all p1
  obtain ⟨F, hFo⟩ : ∃ F : Nat → va_E, F = Fo := ⟨_, rfl⟩
  rw [← hFo] at hT
  have hfr : (∀ b j : Nat, (tag b ≠ 22 ∨ j ≠ 2) → (tag b ≠ 26 ∨ j ≠ 13) → fld F b j = fld Fo b j) ∧ EF tag F Fo := by
    rw [hFo]
    exact ⟨by intros; rfl, fun _ _ _ => rfl⟩
  have K57 : ∀ (z51513 : Int32) (b51514 : Nat) (F : Nat → va_E) (H : Heap) (locs : List Loc) (ls : Array Slot), (b51514 ∈ L) → (tag b51514 = 26) → (0 ≤ p1.toInt ∧ p1.toInt ≤ 5) → TH G ttC A s tag L F H locs → ((∀ b j : Nat, (tag b ≠ 22 ∨ j ≠ 2) → (tag b ≠ 26 ∨ j ≠ 13) → fld F b j = fld Fo b j) ∧ EF tag F Fo) → lv_has ls 2 [(0, .ref p0), (1, .int p1)] → W p l e { frames := 4, cells := 0, slots := 0, locals := 86 } s m args below meth c H locs 0 0 Q (F0 m 57 ls [.int z51513, .ref b51514]) := by
    intro z51513 b51514 F H locs ls mb51514 gb51514 r9s51512 hT hfr hl
    have rz51513 := rg_all z51513
    refine t_cVi (n := 1) (C := RX11) (T := TX11) (N := 16) (As := [.int z51513]) (rest := []) X hT (kt56_X11_answer l G tag L F hT.2.2.2 b51514 z51513 mb51514 gb51514) mb51514 gb51514 rfl rfl qw_463 qw_464 qw_465 qw_2 qw_466 ⟨rfl, by decide +kernel, by decide +kernel, by decide +kernel⟩ ⟨Nat.le_of_ble_eq_true rfl, Nat.le_of_ble_eq_true rfl⟩ hl rfl rfl (Nat.le_of_ble_eq_true rfl) dX11_soonest_57 ⟨Nat.le_of_ble_eq_true rfl, Nat.le_of_ble_eq_true rfl⟩ (fun z51515 F H locs hT hz51515 => ?_)
    obtain ⟨hz51515, yz51515⟩ := hz51515
    have hfr : (∀ b j : Nat, (tag b ≠ 22 ∨ j ≠ 2) → (tag b ≠ 26 ∨ j ≠ 13) → fld F b j = fld Fo b j) ∧ EF tag F Fo := ⟨fun b j n22_2 n26_13 => (yz51515.1 b j n26_13).trans (hfr.1 b j n22_2 n26_13), fun b j hb => (yz51515.2 b j hb).trans (hfr.2 b j hb)⟩
    exact t_iret hQ X hT (⟨rg_all _, hfr⟩) (Nat.le_of_ble_eq_true rfl) (Nat.le_of_ble_eq_true rfl) dX11_soonest_60
  refine lv_aload_n hx hb dX11_soonest_0 rfl (lv_at hl 0 rfl) ?_
  refine lv_iload_n hx hb dX11_soonest_1 rfl (lv_at hl 1 rfl) ?_
  refine t_cVi (n := 1) (C := RX11) (T := TX11) (N := 16) (As := [.int p1]) (rest := []) X hT (kt92_X11_isWall l G tag L F hT.2.2.2 p0 p1 m0 g0) m0 g0 rfl rfl qw_1379 qw_1380 qw_1381 qw_2 qw_1382 ⟨rfl, by decide +kernel, by decide +kernel, by decide +kernel⟩ ⟨Nat.le_of_ble_eq_true rfl, Nat.le_of_ble_eq_true rfl⟩ hl rfl rfl (Nat.le_of_ble_eq_true rfl) dX11_soonest_2 ⟨Nat.le_of_ble_eq_true rfl, Nat.le_of_ble_eq_true rfl⟩ (fun z51516 F9 H locs hT hz51516 => ?_)
  obtain ⟨fz51516, hz51516⟩ := hz51516
  rw [fz51516] at hT
  obtain ⟨hz51516, iz51516⟩ := hz51516
  refine lv_if_ne (tgt := 14) hx hb dX11_soonest_5 (by decide) (fun c51517 => ?_) (fun c51517 => ?_)
  · have w51518 := cv_ne (rfl : z51516.toInt = z51516.toInt) (by decide : (0 : Int32).toInt = 0) c51517
    have w51519 := (fun h => (iz51516 h)) (by omega)
    refine lv_aload_n hx hb dX11_soonest_14 rfl (lv_at hl 0 rfl) ?_
    refine t_get (C := RX11) (T := TX11) (N := 16) X hT m0 g0 rfl rfl 11 (by decide) qw_41 inlX11 rfl dX11_soonest_15 (fun v51520 hv51520 ov51520 => ?_)
    obtain ⟨b51521, rfl, mb51521, gb51521⟩ := okV_r ov51520
    have gb51521 : tag b51521 = 22 := tg_of gb51521
    refine lv_aload_n hx hb dX11_soonest_18 rfl (lv_at hl 0 rfl) ?_
    refine t_get (C := RX11) (T := TX11) (N := 16) X hT m0 g0 rfl rfl 3 (by decide) qw_18 inlX11 rfl dX11_soonest_19 (fun v51522 hv51522 ov51522 => ?_)
    obtain ⟨b51523, rfl, mb51523, gb51523⟩ := okV_r ov51522
    have gb51523 : tag b51523 = 18 := tg_of gb51523
    refine lv_aload_n hx hb dX11_soonest_22 rfl (lv_at hl 0 rfl) ?_
    refine t_get (C := RX11) (T := TX11) (N := 16) X hT m0 g0 rfl rfl 5 (by decide) qw_23 inlX11 rfl dX11_soonest_23 (fun v51524 hv51524 ov51524 => ?_)
    obtain ⟨b51525, rfl, mb51525, gb51525⟩ := okV_r ov51524
    have gb51525 : tag b51525 = 19 := tg_of gb51525
    refine t_get (C := RX7) (T := TX7) (N := 7) X hT mb51525 gb51525 rfl rfl 0 (by decide) qw_1225 inlX7 rfl dX11_soonest_26 (fun v51526 hv51526 ov51526 => ?_)
    obtain ⟨z51527, rfl, rz51527⟩ := okV_i ov51526
    refine t_cVv (n := 2) (C := RX9) (T := TX9) (N := 6) (As := [.ref b51523, .int z51527]) (rest := []) X hT (kt118_X9_lookAtAll l G tag L F hT.2.2.2 b51521 b51523 z51527 mb51521 gb51521 mb51523 gb51523) mb51521 gb51521 rfl rfl qw_1333 qw_1334 qw_1335 qw_40 qw_1336 ⟨rfl, by decide +kernel, by decide +kernel, by decide +kernel⟩ ⟨Nat.le_of_ble_eq_true rfl, Nat.le_of_ble_eq_true rfl⟩ hl rfl rfl (Nat.le_of_ble_eq_true rfl) dX11_soonest_29 ⟨Nat.le_of_ble_eq_true rfl, Nat.le_of_ble_eq_true rfl⟩ (fun F H locs hT hz51528 => ?_)
    have yz51528 := hz51528
    have hv51520 := (yz51528.1 _ 11 (Or.inr (by decide))).trans hv51520
    have hv51522 := (yz51528.1 _ 3 (Or.inr (by decide))).trans hv51522
    have hv51524 := (yz51528.1 _ 5 (Or.inr (by decide))).trans hv51524
    have hv51526 := (yz51528.1 _ 0 (Or.inr (by decide))).trans hv51526
    have hfr : (∀ b j : Nat, (tag b ≠ 22 ∨ j ≠ 2) → (tag b ≠ 26 ∨ j ≠ 13) → fld F b j = fld Fo b j) ∧ EF tag F Fo := ⟨fun b j n22_2 n26_13 => (yz51528.1 b j n22_2).trans (hfr.1 b j n22_2 n26_13), fun b j hb => (yz51528.2 b j hb).trans (hfr.2 b j hb)⟩
    refine lv_aload_n hx hb dX11_soonest_32 rfl (lv_at hl 0 rfl) ?_
    refine lv_aload_n hx hb dX11_soonest_33 rfl (lv_at hl 0 rfl) ?_
    refine t_get (C := RX11) (T := TX11) (N := 16) X hT m0 g0 rfl rfl 11 (by decide) qw_41 inlX11 rfl dX11_soonest_34 (fun v51529 hv51529 ov51529 => ?_)
    obtain rfl : v51529 = .ref b51521 := hv51529.symm.trans hv51520
    refine t_get (C := RX9) (T := TX9) (N := 6) X hT mb51521 gb51521 rfl rfl 2 (by decide) qw_1332 inlX9 rfl dX11_soonest_37 (fun v51530 hv51530 ov51530 => ?_)
    obtain ⟨z51531, rfl, rz51531⟩ := okV_i ov51530
    refine lv_if_ne (tgt := 48) hx hb dX11_soonest_40 (by decide) (fun c51532 => ?_) (fun c51532 => ?_)
    · have w51533 := cv_ne (rfl : z51531.toInt = z51531.toInt) (by decide : (0 : Int32).toInt = 0) c51532
      refine lv_aload_n hx hb dX11_soonest_48 rfl (lv_at hl 0 rfl) ?_
      refine t_get (C := RX11) (T := TX11) (N := 16) X hT m0 g0 rfl rfl 11 (by decide) qw_41 inlX11 rfl dX11_soonest_49 (fun v51534 hv51534 ov51534 => ?_)
      obtain rfl : v51534 = .ref b51521 := hv51534.symm.trans hv51520
      refine t_get (C := RX9) (T := TX9) (N := 6) X hT mb51521 gb51521 rfl rfl 3 (by decide) qw_1400 inlX9 rfl dX11_soonest_52 (fun v51535 hv51535 ov51535 => ?_)
      obtain ⟨b51536, rfl, mb51536, gb51536⟩ := okV_r ov51535
      have gb51536 : tag b51536 = 7 := tg_of gb51536
      refine lv_iload_n hx hb dX11_soonest_55 rfl (lv_at hl 1 rfl) ?_
      refine t_ild X hT mb51536 gb51536 rfl (by omega) dX11_soonest_56 (fun z51537 vz51537 rz51537 => ?_)
      have rz51537 : (-2147483648) ≤ z51537.toInt ∧ z51537.toInt ≤ 2147483647 := rz51537
      exact K57 z51537 p0 _ _ _ _ m0 g0 (by omega) hT hfr  (lv_sub hl [0, 1] rfl)
    · have w51538 := cv_eq (rfl : z51531.toInt = z51531.toInt) (by decide : (0 : Int32).toInt = 0) c51532
      refine lv_bipush (v := (-2)) hx hb dX11_soonest_43 (by decide) ?_
      refine lv_goto (tgt := 57) hx hb dX11_soonest_45 (by decide) ?_
      exact K57 (-2) p0 _ _ _ _ m0 g0 (by omega) hT hfr  (lv_sub hl [0, 1] rfl)
  · have w51539 := cv_eq (rfl : z51516.toInt = z51516.toInt) (by decide : (0 : Int32).toInt = 0) c51517
    refine lv_aload_n hx hb dX11_soonest_8 rfl (lv_at hl 0 rfl) ?_
    refine lv_iconst (v := 1) hx hb dX11_soonest_9 (by decide) ?_
    refine t_cVi (n := 1) (C := RX11) (T := TX11) (N := 16) (As := [.int 1]) (rest := []) X hT (kt63_X11_refuse l G tag L F hT.2.2.2 p0 1 m0 g0) m0 g0 rfl rfl qw_152 qw_153 qw_154 qw_2 qw_155 ⟨rfl, by decide +kernel, by decide +kernel, by decide +kernel⟩ ⟨Nat.le_of_ble_eq_true rfl, Nat.le_of_ble_eq_true rfl⟩ hl rfl rfl (Nat.le_of_ble_eq_true rfl) dX11_soonest_10 ⟨Nat.le_of_ble_eq_true rfl, Nat.le_of_ble_eq_true rfl⟩ (fun z51540 F H locs hT hz51540 => ?_)
    obtain ⟨hz51540, yz51540⟩ := hz51540
    have hfr : (∀ b j : Nat, (tag b ≠ 22 ∨ j ≠ 2) → (tag b ≠ 26 ∨ j ≠ 13) → fld F b j = fld Fo b j) ∧ EF tag F Fo := ⟨fun b j n22_2 n26_13 => (yz51540.1 b j n26_13).trans (hfr.1 b j n22_2 n26_13), fun b j hb => (yz51540.2 b j hb).trans (hfr.2 b j hb)⟩
    exact t_iret hQ X hT (⟨rg_all _, hfr⟩) (Nat.le_of_ble_eq_true rfl) (Nat.le_of_ble_eq_true rfl) dX11_soonest_13
