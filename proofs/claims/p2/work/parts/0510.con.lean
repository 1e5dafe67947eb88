set_option maxHeartbeats 4000000 in
set_option maxRecDepth 100000 in
theorem kt83_X11_goTo (l : Launch) (G : KG) (tag : Nat → Nat) (L : List Nat) (Fo : Nat → va_E) (ho : okT G ttC tag L Fo) (p0 : Nat) (p1 : Int32) (m0 : p0 ∈ L) (g0 : tag p0 = 26) (h1 : 0 ≤ p1.toInt ∧ p1.toInt ≤ 60) : TMv l yX11_goTo cX11_goTo 3 { frames := 6, cells := 0, slots := 0, locals := 157 } G ttC tag L Fo [.ref p0, .int p1] (fun F1 => ((∀ b j : Nat, (tag b ≠ 19 ∨ j ≠ 0) → (tag b ≠ 19 ∨ j ≠ 1) → fld F1 b j = fld Fo b j) ∧ EF tag F1 Fo)) := by
  refine t_bodyv (y := yX11_goTo) (cd := cX11_goTo) (mL := 3) (rm := { frames := 6, cells := 0, slots := 0, locals := 157 }) (av := [.ref p0, .int p1]) (by decide) (Nat.le_of_ble_eq_true rfl) ho ?_
  intro p e s m args below meth c ls A Q hQ X hT hl
  have hx := X.1.1
  have hb := X.1.2.1
  have hl : lv_has ls 3 [(0, .ref p0), (1, .int p1)] := hl
  obtain ⟨F, hFo⟩ : ∃ F : Nat → va_E, F = Fo := ⟨_, rfl⟩
  rw [← hFo] at hT
  have hfr : (∀ b j : Nat, (tag b ≠ 19 ∨ j ≠ 0) → (tag b ≠ 19 ∨ j ≠ 1) → fld F b j = fld Fo b j) ∧ EF tag F Fo := by
    rw [hFo]
    exact ⟨by intros; rfl, fun _ _ _ => rfl⟩
  have K13 : ∀ (n : Nat) (z28355 : Int32) (F : Nat → va_E) (H : Heap) (locs : List Loc) (ls : Array Slot), (60 - z28355.toInt < (n : Int)) → (0 ≤ z28355.toInt ∧ z28355.toInt ≤ 60) → TH G ttC A s tag L F H locs → ((∀ b j : Nat, (tag b ≠ 19 ∨ j ≠ 0) → (tag b ≠ 19 ∨ j ≠ 1) → fld F b j = fld Fo b j) ∧ EF tag F Fo) → lv_has ls 3 [(0, .ref p0), (1, .int p1), (2, .int z28355)] → W p l e { frames := 6, cells := 0, slots := 0, locals := 157 } s m args below meth c H locs 0 0 Q (F0 m 13 ls []) := by
    intro n
    induction n with
    | zero =>
      intro z28355 F H locs ls hn rz28355 hT hfr hl
      exfalso
      omega
    | succ n ih13 =>
      intro z28355 F H locs ls hn rz28355 hT hfr hl
      refine lv_iload_n hx hb dX11_goTo_13 rfl (lv_at hl 2 rfl) ?_
      refine lv_iload_n hx hb dX11_goTo_14 rfl (lv_at hl 1 rfl) ?_
      refine lv_icmp_ge (tgt := 38) hx hb dX11_goTo_15 (by decide) (fun c28356 => ?_) (fun c28356 => ?_)
      · have w28357 := cv_le (rfl : p1.toInt = p1.toInt) (rfl : z28355.toInt = z28355.toInt) c28356
        exact t_vret hQ X hT hfr (Nat.le_of_ble_eq_true rfl) (Nat.le_of_ble_eq_true rfl) dX11_goTo_38
      · have w28358 := cv_nle (rfl : p1.toInt = p1.toInt) (rfl : z28355.toInt = z28355.toInt) c28356
        refine lv_aload_n hx hb dX11_goTo_18 rfl (lv_at hl 0 rfl) ?_
        refine t_get (C := RX11) (T := TX11) (N := 16) X hT m0 g0 rfl rfl 3 (by decide) qw_18 inlX11 rfl dX11_goTo_19 (fun v28359 hv28359 ov28359 => ?_)
        obtain ⟨b28360, rfl, mb28360, gb28360⟩ := okV_r ov28359
        have gb28360 : tag b28360 = 18 := tg_of gb28360
        refine lv_aload_n hx hb dX11_goTo_22 rfl (lv_at hl 0 rfl) ?_
        refine t_get (C := RX11) (T := TX11) (N := 16) X hT m0 g0 rfl rfl 7 (by decide) qw_25 inlX11 rfl dX11_goTo_23 (fun v28361 hv28361 ov28361 => ?_)
        obtain ⟨b28362, rfl, mb28362, gb28362⟩ := okV_r ov28361
        have gb28362 : tag b28362 = 19 := tg_of gb28362
        refine t_gets X hT X.2.2.2.1.2.1.2.2.2 qw_1096 dX11_goTo_26 ?_
        refine t_cSv (n := 3) (As := [.ref b28360, .ref b28362, .ref (G.2 13)]) (rest := []) X hT (kt71_X10_pass l G tag L F hT.2.2.2 b28360 b28362 mb28360 gb28360 mb28362 gb28362) qw_1097 qw_1098 qw_32 qw_1099 ⟨by decide +kernel, by decide +kernel, by decide +kernel⟩ ⟨Nat.le_of_ble_eq_true rfl, Nat.le_of_ble_eq_true rfl⟩ hl rfl rfl (Nat.le_of_ble_eq_true rfl) dX11_goTo_29 ⟨Nat.le_of_ble_eq_true rfl, Nat.le_of_ble_eq_true rfl⟩ (fun F H locs hT hz28363 => ?_)
        have yz28363 := hz28363
        have hv28359 := (yz28363.1 _ 3 (Or.inr (by decide)) (Or.inr (by decide))).trans hv28359
        have hv28361 := (yz28363.1 _ 7 (Or.inr (by decide)) (Or.inr (by decide))).trans hv28361
        have hfr : (∀ b j : Nat, (tag b ≠ 19 ∨ j ≠ 0) → (tag b ≠ 19 ∨ j ≠ 1) → fld F b j = fld Fo b j) ∧ EF tag F Fo := ⟨fun b j n19_0 n19_1 => (yz28363.1 b j n19_0 n19_1).trans (hfr.1 b j n19_0 n19_1), fun b j hb => (yz28363.2 b j hb).trans (hfr.2 b j hb)⟩
        obtain ⟨z28364, ez28364⟩ : ∃ y : Int32, y = z28355 + 1 := ⟨_, rfl⟩
        have hz28364 : z28364.toInt = z28355.toInt + 1 := ar_add ez28364 rfl (by decide : (1 : Int32).toInt = 1) (by omega) (by omega)
        refine lv_iinc (v := z28364) (lv' := [(2, .int z28364), (0, .ref p0), (1, .int p1)]) hx hb dX11_goTo_32 hl (k := 2) rfl (by rw [ez28364]; rfl) (by decide) rfl (fun ls hl => ?_)
        refine lv_goto (tgt := 13) hx hb dX11_goTo_35 (by decide) ?_
        exact ih13 z28364 _ _ _ _ (by omega) (by omega) hT hfr  (lv_sub hl [1, 2, 0] rfl)
  refine lv_aload_n hx hb dX11_goTo_0 rfl (lv_at hl 0 rfl) ?_
  refine t_get (C := RX11) (T := TX11) (N := 16) X hT m0 g0 rfl rfl 7 (by decide) qw_25 inlX11 rfl dX11_goTo_1 (fun v28365 hv28365 ov28365 => ?_)
  obtain ⟨b28366, rfl, mb28366, gb28366⟩ := okV_r ov28365
  have gb28366 : tag b28366 = 19 := tg_of gb28366
  refine lv_aload_n hx hb dX11_goTo_4 rfl (lv_at hl 0 rfl) ?_
  refine t_get (C := RX11) (T := TX11) (N := 16) X hT m0 g0 rfl rfl 5 (by decide) qw_23 inlX11 rfl dX11_goTo_5 (fun v28367 hv28367 ov28367 => ?_)
  obtain ⟨b28368, rfl, mb28368, gb28368⟩ := okV_r ov28367
  have gb28368 : tag b28368 = 19 := tg_of gb28368
  refine t_cVv (n := 1) (C := RX7) (T := TX7) (N := 7) (As := [.ref b28368]) (rest := []) X hT (kt49_X7_copyFrom l G tag L F hT.2.2.2 b28366 b28368 mb28366 gb28366 mb28368 gb28368) mb28366 gb28366 rfl rfl qw_449 qw_450 qw_451 qw_22 qw_452 ⟨rfl, by decide +kernel, by decide +kernel, by decide +kernel⟩ ⟨Nat.le_of_ble_eq_true rfl, Nat.le_of_ble_eq_true rfl⟩ hl rfl rfl (Nat.le_of_ble_eq_true rfl) dX11_goTo_8 ⟨Nat.le_of_ble_eq_true rfl, Nat.le_of_ble_eq_true rfl⟩ (fun F H locs hT hz28369 => ?_)
  have yz28369 := hz28369
  have hv28365 := (yz28369.1 _ 7 (Or.inr (by decide)) (Or.inr (by decide))).trans hv28365
  have hv28367 := (yz28369.1 _ 5 (Or.inr (by decide)) (Or.inr (by decide))).trans hv28367
  have hfr : (∀ b j : Nat, (tag b ≠ 19 ∨ j ≠ 0) → (tag b ≠ 19 ∨ j ≠ 1) → fld F b j = fld Fo b j) ∧ EF tag F Fo := ⟨fun b j n19_0 n19_1 => (yz28369.1 b j n19_0 n19_1).trans (hfr.1 b j n19_0 n19_1), fun b j hb => (yz28369.2 b j hb).trans (hfr.2 b j hb)⟩
  refine lv_iconst (v := 0) hx hb dX11_goTo_11 (by decide) ?_
  refine lv_istore_n (lv' := [(2, .int 0), (0, .ref p0), (1, .int p1)]) hx hb dX11_goTo_12 rfl hl (by decide) rfl (fun ls hl => ?_)
  have kk28370 : (0 : Int32).toInt = 0 := by decide
  exact K13 61 0 _ _ _ _ (by omega) (by decide) hT hfr  (lv_sub hl [1, 2, 0] rfl)
set_option maxHeartbeats 4000000 in
set_option maxRecDepth 100000 in
theorem kt84_X11_goldIn (l : Launch) (G : KG) (tag : Nat → Nat) (L : List Nat) (F : Nat → va_E) (ho : okT G ttC tag L F) (p0 : Nat) (p1 : Int32) (p2 : Int32) (m0 : p0 ∈ L) (g0 : tag p0 = 26) : TMi l yX11_goldIn cX11_goldIn 3 (some .int) { frames := 1, cells := 0, slots := 0, locals := 24 } G ttC tag L F [.ref p0, .int p1, .int p2] (fun r F1 => F1 = F ∧ ((-2147483648) ≤ r.toInt ∧ r.toInt ≤ 2147483647)) := by
  refine t_bodyi (y := yX11_goldIn) (cd := cX11_goldIn) (mL := 3) (rt := (some .int)) (rm := { frames := 1, cells := 0, slots := 0, locals := 24 }) (av := [.ref p0, .int p1, .int p2]) (by decide) (Nat.le_of_ble_eq_true rfl) ho ?_
  intro p e s m args below meth c ls A Q hQ X hT hl
  have hx := X.1.1
  have hb := X.1.2.1
  have hl : lv_has ls 3 [(0, .ref p0), (1, .int p1), (2, .int p2)] := hl
  have rp1 := rg_all p1
  have rp2 := rg_all p2
  refine lv_aload_n hx hb dX11_goldIn_0 rfl (lv_at hl 0 rfl) ?_
  refine t_get (C := RX11) (T := TX11) (N := 16) X hT m0 g0 rfl rfl 3 (by decide) qw_18 inlX11 rfl dX11_goldIn_1 (fun v28470 hv28470 ov28470 => ?_)
  obtain ⟨b28471, rfl, mb28471, gb28471⟩ := okV_r ov28470
  have gb28471 : tag b28471 = 18 := tg_of gb28471
  refine lv_aload_n hx hb dX11_goldIn_4 rfl (lv_at hl 0 rfl) ?_
  refine t_get (C := RX11) (T := TX11) (N := 16) X hT m0 g0 rfl rfl 5 (by decide) qw_23 inlX11 rfl dX11_goldIn_5 (fun v28472 hv28472 ov28472 => ?_)
  obtain ⟨b28473, rfl, mb28473, gb28473⟩ := okV_r ov28472
  have gb28473 : tag b28473 = 19 := tg_of gb28473
  refine lv_iload_n hx hb dX11_goldIn_8 rfl (lv_at hl 1 rfl) ?_
  refine lv_iload_n hx hb dX11_goldIn_9 rfl (lv_at hl 2 rfl) ?_
  refine lv_iconst (v := 0) hx hb dX11_goldIn_10 (by decide) ?_
  refine t_cVi (n := 3) (C := RX7) (T := TX7) (N := 7) (As := [.int p1, .int p2, .int 0]) (rest := [.ref b28471]) X hT (kt15_X7_partOf l G tag L F hT.2.2.2 b28473 p1 p2 0 mb28473 gb28473) mb28473 gb28473 rfl rfl qw_831 qw_778 qw_779 qw_22 qw_780 ⟨rfl, by decide +kernel, by decide +kernel, by decide +kernel⟩ ⟨Nat.le_of_ble_eq_true rfl, Nat.le_of_ble_eq_true rfl⟩ hl rfl rfl (Nat.le_of_ble_eq_true rfl) dX11_goldIn_11 ⟨Nat.le_of_ble_eq_true rfl, Nat.le_of_ble_eq_true rfl⟩ (fun z28474 F9 H locs hT hz28474 => ?_)
  obtain ⟨fz28474, hz28474⟩ := hz28474
  rw [fz28474] at hT
  refine lv_iconst (v := 1) hx hb dX11_goldIn_14 (by decide) ?_
  refine t_cVi (n := 2) (C := RX1) (T := TX1) (N := 20) (As := [.int z28474, .int 1]) (rest := []) X hT (kt9_X1_stonePart l G tag L F hT.2.2.2 b28471 z28474 1 mb28471 gb28471) mb28471 gb28471 rfl rfl qw_857 qw_858 qw_859 qw_17 qw_860 ⟨rfl, by decide +kernel, by decide +kernel, by decide +kernel⟩ ⟨Nat.le_of_ble_eq_true rfl, Nat.le_of_ble_eq_true rfl⟩ hl rfl rfl (Nat.le_of_ble_eq_true rfl) dX11_goldIn_15 ⟨Nat.le_of_ble_eq_true rfl, Nat.le_of_ble_eq_true rfl⟩ (fun z28475 F9 H locs hT hz28475 => ?_)
  obtain ⟨fz28475, hz28475⟩ := hz28475
  rw [fz28475] at hT
  refine lv_bipush (v := 8) hx hb dX11_goldIn_18 (by decide) ?_
  refine lv_imul hx hb dX11_goldIn_20 ?_
  refine lv_topi (fun z28476 ez28476 => ?_)
  have rz28476 := rg_all z28476
  refine lv_iload_n hx hb dX11_goldIn_21 rfl (lv_at hl 2 rfl) ?_
  refine lv_imul hx hb dX11_goldIn_22 ?_
  refine lv_topi (fun z28477 ez28477 => ?_)
  have rz28477 := rg_all z28477
  refine lv_iconst (v := 2) hx hb dX11_goldIn_23 (by decide) ?_
  refine lv_idiv hx hb dX11_goldIn_24 (by decide) ?_
  refine lv_topi (fun z28478 ez28478 => ?_)
  have rz28478 := rg_all z28478
  exact t_iret hQ X hT (⟨rfl, rg_all _⟩) (Nat.le_of_ble_eq_true rfl) (Nat.le_of_ble_eq_true rfl) dX11_goldIn_25
set_option maxHeartbeats 4000000 in
set_option maxRecDepth 100000 in
theorem kt85_X11_heads (l : Launch) (G : KG) (tag : Nat → Nat) (L : List Nat) (Fo : Nat → va_E) (ho : okT G ttC tag L Fo) (p0 : Nat) (p1 : Int32) (p2 : Int32) (m0 : p0 ∈ L) (g0 : tag p0 = 26) : TMi l yX11_heads cX11_heads 5 (some .int) { frames := 6, cells := 0, slots := 0, locals := 157 } G ttC tag L Fo [.ref p0, .int p1, .int p2] (fun r F1 => ((-2147483648) ≤ r.toInt ∧ r.toInt ≤ 2147483647) ∧ ((∀ b j : Nat, (tag b ≠ 19 ∨ j ≠ 0) → (tag b ≠ 19 ∨ j ≠ 1) → (tag b ≠ 26 ∨ j ≠ 13) → fld F1 b j = fld Fo b j) ∧ EF tag F1 Fo)) := by
  refine t_bodyi (y := yX11_heads) (cd := cX11_heads) (mL := 5) (rt := (some .int)) (rm := { frames := 6, cells := 0, slots := 0, locals := 157 }) (av := [.ref p0, .int p1, .int p2]) (by decide) (Nat.le_of_ble_eq_true rfl) ho ?_
  intro p e s m args below meth c ls A Q hQ X hT hl
  have hx := X.1.1
  have hb := X.1.2.1
  have hl : lv_has ls 5 [(0, .ref p0), (1, .int p1), (2, .int p2)] := hl
  have rp1 := rg_all p1
  have rp2 := rg_all p2
  obtain ⟨F, hFo⟩ : ∃ F : Nat → va_E, F = Fo := ⟨_, rfl⟩
  rw [← hFo] at hT
  have hfr : (∀ b j : Nat, (tag b ≠ 19 ∨ j ≠ 0) → (tag b ≠ 19 ∨ j ≠ 1) → (tag b ≠ 26 ∨ j ≠ 13) → fld F b j = fld Fo b j) ∧ EF tag F Fo := by
    rw [hFo]
    exact ⟨by intros; rfl, fun _ _ _ => rfl⟩
  have K34 : ∀ (z29494 : Int32) (F : Nat → va_E) (H : Heap) (locs : List Loc) (ls : Array Slot), (1 ≤ z29494.toInt ∧ z29494.toInt ≤ 1) → TH G ttC A s tag L F H locs → ((∀ b j : Nat, (tag b ≠ 19 ∨ j ≠ 0) → (tag b ≠ 19 ∨ j ≠ 1) → (tag b ≠ 26 ∨ j ≠ 13) → fld F b j = fld Fo b j) ∧ EF tag F Fo) → fld F p0 2 = .int z29494 → lv_has ls 5 [(0, .ref p0), (1, .int p1), (2, .int p2)] → W p l e { frames := 6, cells := 0, slots := 0, locals := 157 } s m args below meth c H locs 0 0 Q (F0 m 34 ls []) := by
    intro z29494 F H locs ls rz29494 hT hfr qz29494 hl
    refine lv_aload_n hx hb dX11_heads_34 rfl (lv_at hl 0 rfl) ?_
    refine lv_iconst (v := 2) hx hb dX11_heads_35 (by decide) ?_
    refine t_cVi (n := 1) (C := RX11) (T := TX11) (N := 16) (As := [.int 2]) (rest := []) X hT (kt63_X11_refuse l G tag L F hT.2.2.2 p0 2 m0 g0) m0 g0 rfl rfl qw_152 qw_153 qw_154 qw_2 qw_155 ⟨rfl, by decide +kernel, by decide +kernel, by decide +kernel⟩ ⟨Nat.le_of_ble_eq_true rfl, Nat.le_of_ble_eq_true rfl⟩ hl rfl rfl (Nat.le_of_ble_eq_true rfl) dX11_heads_36 ⟨Nat.le_of_ble_eq_true rfl, Nat.le_of_ble_eq_true rfl⟩ (fun z29495 F H locs hT hz29495 => ?_)
    obtain ⟨hz29495, yz29495⟩ := hz29495
    have qz29494 := (yz29495.1 _ 2 (Or.inr (by decide))).trans qz29494
    have hfr : (∀ b j : Nat, (tag b ≠ 19 ∨ j ≠ 0) → (tag b ≠ 19 ∨ j ≠ 1) → (tag b ≠ 26 ∨ j ≠ 13) → fld F b j = fld Fo b j) ∧ EF tag F Fo := ⟨fun b j n19_0 n19_1 n26_13 => (yz29495.1 b j n26_13).trans (hfr.1 b j n19_0 n19_1 n26_13), fun b j hb => (yz29495.2 b j hb).trans (hfr.2 b j hb)⟩
    exact t_iret hQ X hT (⟨rg_all _, hfr⟩) (Nat.le_of_ble_eq_true rfl) (Nat.le_of_ble_eq_true rfl) dX11_heads_39
  have K91 : ∀ (n : Nat) (z29498 : Int32) (z29499 : Int32) (z29500 : Int32) (F : Nat → va_E) (H : Heap) (locs : List Loc) (ls : Array Slot), (4 - z29499.toInt < (n : Int)) → (0 ≤ z29499.toInt ∧ z29499.toInt ≤ 4) → (1 ≤ z29500.toInt ∧ z29500.toInt ≤ 1) → (0 ≤ p1.toInt ∧ p1.toInt ≤ 65536) → (0 ≤ p2.toInt ∧ p2.toInt ≤ 96) → TH G ttC A s tag L F H locs → ((∀ b j : Nat, (tag b ≠ 19 ∨ j ≠ 0) → (tag b ≠ 19 ∨ j ≠ 1) → (tag b ≠ 26 ∨ j ≠ 13) → fld F b j = fld Fo b j) ∧ EF tag F Fo) → fld F p0 2 = .int z29500 → lv_has ls 5 [(0, .ref p0), (1, .int p1), (2, .int p2), (3, .int z29498), (4, .int z29499)] → W p l e { frames := 6, cells := 0, slots := 0, locals := 157 } s m args below meth c H locs 0 0 Q (F0 m 91 ls []) := by
    intro n
    induction n with
    | zero =>
      intro z29498 z29499 z29500 F H locs ls hn rz29499 rz29500 r9s29496 r9s29497 hT hfr qz29500 hl
      have rz29498 := rg_all z29498
      exfalso
      omega
    | succ n ih91 =>
      intro z29498 z29499 z29500 F H locs ls hn rz29499 rz29500 r9s29496 r9s29497 hT hfr qz29500 hl
      have rz29498 := rg_all z29498
      refine lv_iload hx hb dX11_heads_91 (lv_at hl 4 rfl) ?_
      refine lv_aload_n hx hb dX11_heads_93 rfl (lv_at hl 0 rfl) ?_
      refine t_get (C := RX11) (T := TX11) (N := 16) X hT m0 g0 rfl rfl 3 (by decide) qw_18 inlX11 rfl dX11_heads_94 (fun v29501 hv29501 ov29501 => ?_)
      obtain ⟨b29502, rfl, mb29502, gb29502⟩ := okV_r ov29501
      have gb29502 : tag b29502 = 18 := tg_of gb29502
      refine t_get (C := RX1) (T := TX1) (N := 20) X hT mb29502 gb29502 rfl rfl 10 (by decide) qw_151 inlX1 rfl dX11_heads_97 (fun v29503 hv29503 ov29503 => ?_)
      obtain ⟨z29504, rfl, rz29504⟩ := okV_i ov29503
      refine lv_icmp_ge (tgt := 122) hx hb dX11_heads_100 (by decide) (fun c29505 => ?_) (fun c29505 => ?_)
      · have w29506 := cv_le (rfl : z29504.toInt = z29504.toInt) (rfl : z29499.toInt = z29499.toInt) c29505
        refine lv_aload_n hx hb dX11_heads_122 rfl (lv_at hl 0 rfl) ?_
        refine lv_iload_n hx hb dX11_heads_123 rfl (lv_at hl 3 rfl) ?_
        refine t_cVi (n := 1) (C := RX11) (T := TX11) (N := 16) (As := [.int z29498]) (rest := []) X hT (kt56_X11_answer l G tag L F hT.2.2.2 p0 z29498 m0 g0) m0 g0 rfl rfl qw_463 qw_464 qw_465 qw_2 qw_466 ⟨rfl, by decide +kernel, by decide +kernel, by decide +kernel⟩ ⟨Nat.le_of_ble_eq_true rfl, Nat.le_of_ble_eq_true rfl⟩ hl rfl rfl (Nat.le_of_ble_eq_true rfl) dX11_heads_124 ⟨Nat.le_of_ble_eq_true rfl, Nat.le_of_ble_eq_true rfl⟩ (fun z29507 F H locs hT hz29507 => ?_)
        obtain ⟨hz29507, yz29507⟩ := hz29507
        have qz29500 := (yz29507.1 _ 2 (Or.inr (by decide))).trans qz29500
        have hv29501 := (yz29507.1 _ 3 (Or.inr (by decide))).trans hv29501
        have hv29503 := (yz29507.1 _ 10 (Or.inr (by decide))).trans hv29503
        have hfr : (∀ b j : Nat, (tag b ≠ 19 ∨ j ≠ 0) → (tag b ≠ 19 ∨ j ≠ 1) → (tag b ≠ 26 ∨ j ≠ 13) → fld F b j = fld Fo b j) ∧ EF tag F Fo := ⟨fun b j n19_0 n19_1 n26_13 => (yz29507.1 b j n26_13).trans (hfr.1 b j n19_0 n19_1 n26_13), fun b j hb => (yz29507.2 b j hb).trans (hfr.2 b j hb)⟩
        exact t_iret hQ X hT (⟨rg_all _, hfr⟩) (Nat.le_of_ble_eq_true rfl) (Nat.le_of_ble_eq_true rfl) dX11_heads_127
      · have w29508 := cv_nle (rfl : z29504.toInt = z29504.toInt) (rfl : z29499.toInt = z29499.toInt) c29505
        refine lv_iload_n hx hb dX11_heads_103 rfl (lv_at hl 3 rfl) ?_
        refine lv_aload_n hx hb dX11_heads_104 rfl (lv_at hl 0 rfl) ?_
        refine t_get (C := RX11) (T := TX11) (N := 16) X hT m0 g0 rfl rfl 7 (by decide) qw_25 inlX11 rfl dX11_heads_105 (fun v29509 hv29509 ov29509 => ?_)
        obtain ⟨b29510, rfl, mb29510, gb29510⟩ := okV_r ov29509
        have gb29510 : tag b29510 = 19 := tg_of gb29510
        refine t_get (C := RX7) (T := TX7) (N := 7) X hT mb29510 gb29510 rfl rfl 3 (by decide) qw_767 inlX7 rfl dX11_heads_108 (fun v29511 hv29511 ov29511 => ?_)
        obtain ⟨b29512, rfl, mb29512, gb29512⟩ := okV_r ov29511
        have gb29512 : tag b29512 = 5 := tg_of gb29512
        refine lv_iload hx hb dX11_heads_111 (lv_at hl 4 rfl) ?_
        refine t_ild X hT mb29512 gb29512 rfl (by omega) dX11_heads_113 (fun z29513 vz29513 rz29513 => ?_)
        have rz29513 : (-2147483648) ≤ z29513.toInt ∧ z29513.toInt ≤ 2147483647 := rz29513
        refine lv_iadd hx hb dX11_heads_114 ?_
        refine lv_topi (fun z29514 ez29514 => ?_)
        have rz29514 := rg_all z29514
        refine lv_istore_n (lv' := [(3, .int z29514), (0, .ref p0), (1, .int p1), (2, .int p2), (4, .int z29499)]) hx hb dX11_heads_115 rfl hl (by decide) rfl (fun ls hl => ?_)
        obtain ⟨z29515, ez29515⟩ : ∃ y : Int32, y = z29499 + 1 := ⟨_, rfl⟩
        have hz29515 : z29515.toInt = z29499.toInt + 1 := ar_add ez29515 rfl (by decide : (1 : Int32).toInt = 1) (by omega) (by omega)
        refine lv_iinc (v := z29515) (lv' := [(4, .int z29515), (3, .int z29514), (0, .ref p0), (1, .int p1), (2, .int p2)]) hx hb dX11_heads_116 hl (k := 4) rfl (by rw [ez29515]; rfl) (by decide) rfl (fun ls hl => ?_)
        refine lv_goto (tgt := 91) hx hb dX11_heads_119 (by decide) ?_
        exact ih91 z29514 z29515 z29500 _ _ _ _ (by omega) (by omega) (by omega) (by omega) (by omega) hT hfr qz29500 (lv_sub hl [2, 3, 4, 1, 0] rfl)
  have K61 : ∀ (n : Nat) (z29518 : Int32) (z29519 : Int32) (F : Nat → va_E) (H : Heap) (locs : List Loc) (ls : Array Slot), (60 - z29518.toInt < (n : Int)) → (0 ≤ z29518.toInt ∧ z29518.toInt ≤ 60) → (1 ≤ z29519.toInt ∧ z29519.toInt ≤ 1) → (0 ≤ p1.toInt ∧ p1.toInt ≤ 65536) → (0 ≤ p2.toInt ∧ p2.toInt ≤ 60) → TH G ttC A s tag L F H locs → ((∀ b j : Nat, (tag b ≠ 19 ∨ j ≠ 0) → (tag b ≠ 19 ∨ j ≠ 1) → (tag b ≠ 26 ∨ j ≠ 13) → fld F b j = fld Fo b j) ∧ EF tag F Fo) → fld F p0 2 = .int z29519 → lv_has ls 5 [(0, .ref p0), (1, .int p1), (2, .int p2), (3, .int z29518)] → W p l e { frames := 6, cells := 0, slots := 0, locals := 157 } s m args below meth c H locs 0 0 Q (F0 m 61 ls []) := by
    intro n
    induction n with
    | zero =>
      intro z29518 z29519 F H locs ls hn rz29518 rz29519 r9s29516 r9s29517 hT hfr qz29519 hl
      exfalso
      omega
    | succ n ih61 =>
      intro z29518 z29519 F H locs ls hn rz29518 rz29519 r9s29516 r9s29517 hT hfr qz29519 hl
      refine lv_iload_n hx hb dX11_heads_61 rfl (lv_at hl 3 rfl) ?_
      refine lv_iload_n hx hb dX11_heads_62 rfl (lv_at hl 2 rfl) ?_
      refine lv_icmp_ge (tgt := 86) hx hb dX11_heads_63 (by decide) (fun c29520 => ?_) (fun c29520 => ?_)
      · have w29521 := cv_le (rfl : p2.toInt = p2.toInt) (rfl : z29518.toInt = z29518.toInt) c29520
        refine lv_iconst (v := 0) hx hb dX11_heads_86 (by decide) ?_
        refine lv_istore_n (lv' := [(3, .int 0), (0, .ref p0), (1, .int p1), (2, .int p2)]) hx hb dX11_heads_87 rfl hl (by decide) rfl (fun ls hl => ?_)
        refine lv_iconst (v := 0) hx hb dX11_heads_88 (by decide) ?_
        refine lv_istore (lv' := [(4, .int 0), (3, .int 0), (0, .ref p0), (1, .int p1), (2, .int p2)]) hx hb dX11_heads_89 hl (by decide) rfl (fun ls hl => ?_)
        have kk29522 : (0 : Int32).toInt = 0 := by decide
        have kk29523 : (0 : Int32).toInt = 0 := by decide
        exact K91 5 0 0 z29519 _ _ _ _ (by omega) (by decide) (by omega) (by omega) (by omega) hT hfr qz29519 (lv_sub hl [2, 3, 4, 1, 0] rfl)
      · have w29524 := cv_nle (rfl : p2.toInt = p2.toInt) (rfl : z29518.toInt = z29518.toInt) c29520
        refine lv_aload_n hx hb dX11_heads_66 rfl (lv_at hl 0 rfl) ?_
        refine t_get (C := RX11) (T := TX11) (N := 16) X hT m0 g0 rfl rfl 3 (by decide) qw_18 inlX11 rfl dX11_heads_67 (fun v29525 hv29525 ov29525 => ?_)
        obtain ⟨b29526, rfl, mb29526, gb29526⟩ := okV_r ov29525
        have gb29526 : tag b29526 = 18 := tg_of gb29526
        refine lv_aload_n hx hb dX11_heads_70 rfl (lv_at hl 0 rfl) ?_
        refine t_get (C := RX11) (T := TX11) (N := 16) X hT m0 g0 rfl rfl 7 (by decide) qw_25 inlX11 rfl dX11_heads_71 (fun v29527 hv29527 ov29527 => ?_)
        obtain ⟨b29528, rfl, mb29528, gb29528⟩ := okV_r ov29527
        have gb29528 : tag b29528 = 19 := tg_of gb29528
        refine t_gets X hT X.2.2.2.1.2.1.2.2.2 qw_1096 dX11_heads_74 ?_
        refine t_cSv (n := 3) (As := [.ref b29526, .ref b29528, .ref (G.2 13)]) (rest := []) X hT (kt71_X10_pass l G tag L F hT.2.2.2 b29526 b29528 mb29526 gb29526 mb29528 gb29528) qw_1097 qw_1098 qw_32 qw_1099 ⟨by decide +kernel, by decide +kernel, by decide +kernel⟩ ⟨Nat.le_of_ble_eq_true rfl, Nat.le_of_ble_eq_true rfl⟩ hl rfl rfl (Nat.le_of_ble_eq_true rfl) dX11_heads_77 ⟨Nat.le_of_ble_eq_true rfl, Nat.le_of_ble_eq_true rfl⟩ (fun F H locs hT hz29529 => ?_)
        have yz29529 := hz29529
        have qz29519 := (yz29529.1 _ 2 (Or.inr (by decide)) (Or.inr (by decide))).trans qz29519
        have hv29525 := (yz29529.1 _ 3 (Or.inr (by decide)) (Or.inr (by decide))).trans hv29525
        have hv29527 := (yz29529.1 _ 7 (Or.inr (by decide)) (Or.inr (by decide))).trans hv29527
        have hfr : (∀ b j : Nat, (tag b ≠ 19 ∨ j ≠ 0) → (tag b ≠ 19 ∨ j ≠ 1) → (tag b ≠ 26 ∨ j ≠ 13) → fld F b j = fld Fo b j) ∧ EF tag F Fo := ⟨fun b j n19_0 n19_1 n26_13 => (yz29529.1 b j n19_0 n19_1).trans (hfr.1 b j n19_0 n19_1 n26_13), fun b j hb => (yz29529.2 b j hb).trans (hfr.2 b j hb)⟩
        obtain ⟨z29530, ez29530⟩ : ∃ y : Int32, y = z29518 + 1 := ⟨_, rfl⟩
        have hz29530 : z29530.toInt = z29518.toInt + 1 := ar_add ez29530 rfl (by decide : (1 : Int32).toInt = 1) (by omega) (by omega)
        refine lv_iinc (v := z29530) (lv' := [(3, .int z29530), (0, .ref p0), (1, .int p1), (2, .int p2)]) hx hb dX11_heads_80 hl (k := 3) rfl (by rw [ez29530]; rfl) (by decide) rfl (fun ls hl => ?_)
        refine lv_goto (tgt := 61) hx hb dX11_heads_83 (by decide) ?_
        exact ih61 z29530 z29519 _ _ _ _ (by omega) (by omega) (by omega) (by omega) (by omega) hT hfr qz29519 (lv_sub hl [1, 2, 3, 0] rfl)
  refine lv_aload_n hx hb dX11_heads_0 rfl (lv_at hl 0 rfl) ?_
  refine t_get (C := RX11) (T := TX11) (N := 16) X hT m0 g0 rfl rfl 2 (by decide) qw_150 inlX11 rfl dX11_heads_1 (fun v29531 hv29531 ov29531 => ?_)
  obtain ⟨z29532, rfl, rz29532⟩ := okV_i ov29531
  refine lv_if_ne (tgt := 13) hx hb dX11_heads_4 (by decide) (fun c29533 => ?_) (fun c29533 => ?_)
  · have w29534 := cv_ne (rfl : z29532.toInt = z29532.toInt) (by decide : (0 : Int32).toInt = 0) c29533
    refine lv_iload_n hx hb dX11_heads_13 rfl (lv_at hl 1 rfl) ?_
    refine lv_if_lt (tgt := 34) hx hb dX11_heads_14 (by decide) (fun c29535 => ?_) (fun c29535 => ?_)
    · have w29536 := cv_lt (rfl : p1.toInt = p1.toInt) (by decide : (0 : Int32).toInt = 0) c29535
      exact K34 z29532 _ _ _ _ (by omega) hT hfr hv29531 (lv_sub hl [0, 1, 2] rfl)
    · have w29537 := cv_nlt (rfl : p1.toInt = p1.toInt) (by decide : (0 : Int32).toInt = 0) c29535
      refine lv_iload_n hx hb dX11_heads_17 rfl (lv_at hl 1 rfl) ?_
      refine m_ldcw X qw_1281 dX11_heads_18 ?_
      refine lv_icmp_ge (tgt := 34) hx hb dX11_heads_21 (by decide) (fun c29538 => ?_) (fun c29538 => ?_)
      · have w29539 := cv_le (by decide : (65537 : Int32).toInt = 65537) (rfl : p1.toInt = p1.toInt) c29538
        exact K34 z29532 _ _ _ _ (by omega) hT hfr hv29531 (lv_sub hl [0, 1, 2] rfl)
      · have w29540 := cv_nle (by decide : (65537 : Int32).toInt = 65537) (rfl : p1.toInt = p1.toInt) c29538
        refine lv_iload_n hx hb dX11_heads_24 rfl (lv_at hl 2 rfl) ?_
        refine lv_if_lt (tgt := 34) hx hb dX11_heads_25 (by decide) (fun c29541 => ?_) (fun c29541 => ?_)
        · have w29542 := cv_lt (rfl : p2.toInt = p2.toInt) (by decide : (0 : Int32).toInt = 0) c29541
          exact K34 z29532 _ _ _ _ (by omega) hT hfr hv29531 (lv_sub hl [0, 1, 2] rfl)
        · have w29543 := cv_nlt (rfl : p2.toInt = p2.toInt) (by decide : (0 : Int32).toInt = 0) c29541
          refine lv_iload_n hx hb dX11_heads_28 rfl (lv_at hl 2 rfl) ?_
          refine lv_bipush (v := 60) hx hb dX11_heads_29 (by decide) ?_
          refine lv_icmp_le (tgt := 40) hx hb dX11_heads_31 (by decide) (fun c29544 => ?_) (fun c29544 => ?_)
          · have w29545 := cv_le (rfl : p2.toInt = p2.toInt) (by decide : (60 : Int32).toInt = 60) c29544
            refine lv_aload_n hx hb dX11_heads_40 rfl (lv_at hl 0 rfl) ?_
            refine t_get (C := RX11) (T := TX11) (N := 16) X hT m0 g0 rfl rfl 7 (by decide) qw_25 inlX11 rfl dX11_heads_41 (fun v29546 hv29546 ov29546 => ?_)
            obtain ⟨b29547, rfl, mb29547, gb29547⟩ := okV_r ov29546
            have gb29547 : tag b29547 = 19 := tg_of gb29547
            refine lv_aload_n hx hb dX11_heads_44 rfl (lv_at hl 0 rfl) ?_
            refine t_get (C := RX11) (T := TX11) (N := 16) X hT m0 g0 rfl rfl 5 (by decide) qw_23 inlX11 rfl dX11_heads_45 (fun v29548 hv29548 ov29548 => ?_)
            obtain ⟨b29549, rfl, mb29549, gb29549⟩ := okV_r ov29548
            have gb29549 : tag b29549 = 19 := tg_of gb29549
            refine t_cVv (n := 1) (C := RX7) (T := TX7) (N := 7) (As := [.ref b29549]) (rest := []) X hT (kt49_X7_copyFrom l G tag L F hT.2.2.2 b29547 b29549 mb29547 gb29547 mb29549 gb29549) mb29547 gb29547 rfl rfl qw_449 qw_450 qw_451 qw_22 qw_452 ⟨rfl, by decide +kernel, by decide +kernel, by decide +kernel⟩ ⟨Nat.le_of_ble_eq_true rfl, Nat.le_of_ble_eq_true rfl⟩ hl rfl rfl (Nat.le_of_ble_eq_true rfl) dX11_heads_48 ⟨Nat.le_of_ble_eq_true rfl, Nat.le_of_ble_eq_true rfl⟩ (fun F H locs hT hz29550 => ?_)
            have yz29550 := hz29550
            have hv29531 := (yz29550.1 _ 2 (Or.inr (by decide)) (Or.inr (by decide))).trans hv29531
            have hv29546 := (yz29550.1 _ 7 (Or.inr (by decide)) (Or.inr (by decide))).trans hv29546
            have hv29548 := (yz29550.1 _ 5 (Or.inr (by decide)) (Or.inr (by decide))).trans hv29548
            have hfr : (∀ b j : Nat, (tag b ≠ 19 ∨ j ≠ 0) → (tag b ≠ 19 ∨ j ≠ 1) → (tag b ≠ 26 ∨ j ≠ 13) → fld F b j = fld Fo b j) ∧ EF tag F Fo := ⟨fun b j n19_0 n19_1 n26_13 => (yz29550.1 b j n19_0 n19_1).trans (hfr.1 b j n19_0 n19_1 n26_13), fun b j hb => (yz29550.2 b j hb).trans (hfr.2 b j hb)⟩
            refine lv_aload_n hx hb dX11_heads_51 rfl (lv_at hl 0 rfl) ?_
            refine t_get (C := RX11) (T := TX11) (N := 16) X hT m0 g0 rfl rfl 7 (by decide) qw_25 inlX11 rfl dX11_heads_52 (fun v29551 hv29551 ov29551 => ?_)
            obtain rfl : v29551 = .ref b29547 := hv29551.symm.trans hv29546
            refine lv_iload_n hx hb dX11_heads_55 rfl (lv_at hl 1 rfl) ?_
            refine t_put (C := RX7) (T := TX7) (N := 7) (v := .int p1) X hT mb29547 gb29547 rfl tyX7 tyX7_ok nmX7 rfl 1 (by decide) qw_1282 inlX7 rfl (by first | rfl | decide) (by first | rfl | decide) rfl (⟨_, rfl, (show (-2147483648) ≤ (p1 : Int32).toInt from (by omega)), (show (p1 : Int32).toInt ≤ 2147483647 from (by omega))⟩) dX11_heads_56 (fun F H locs hT v29552 h1v29552 h2v29552 => ?_)
            have hv29531 := (h1v29552 _ _ (Or.inr (by decide))).trans hv29531
            have hv29546 := (h1v29552 _ _ (Or.inr (by decide))).trans hv29546
            have hv29548 := (h1v29552 _ _ (Or.inr (by decide))).trans hv29548
            have hfr : (∀ b j : Nat, (tag b ≠ 19 ∨ j ≠ 0) → (tag b ≠ 19 ∨ j ≠ 1) → (tag b ≠ 26 ∨ j ≠ 13) → fld F b j = fld Fo b j) ∧ EF tag F Fo := ⟨fun b j n19_0 n19_1 n26_13 => (h1v29552 b j (fr_ne gb29547 n19_1)).trans (hfr.1 b j n19_0 n19_1 n26_13), fun b j hb => (h2v29552 b j).trans (hfr.2 b j hb)⟩
            refine lv_iconst (v := 0) hx hb dX11_heads_59 (by decide) ?_
            refine lv_istore_n (lv' := [(3, .int 0), (0, .ref p0), (1, .int p1), (2, .int p2)]) hx hb dX11_heads_60 rfl hl (by decide) rfl (fun ls hl => ?_)
            have kk29553 : (0 : Int32).toInt = 0 := by decide
            exact K61 61 0 z29532 _ _ _ _ (by omega) (by decide) (by omega) (by omega) (by omega) hT hfr hv29531 (lv_sub hl [1, 2, 3, 0] rfl)
          · have w29554 := cv_nle (rfl : p2.toInt = p2.toInt) (by decide : (60 : Int32).toInt = 60) c29544
            exact K34 z29532 _ _ _ _ (by omega) hT hfr hv29531 (lv_sub hl [0, 1, 2] rfl)
  · have w29555 := cv_eq (rfl : z29532.toInt = z29532.toInt) (by decide : (0 : Int32).toInt = 0) c29533
    refine lv_aload_n hx hb dX11_heads_7 rfl (lv_at hl 0 rfl) ?_
    refine lv_iconst (v := 1) hx hb dX11_heads_8 (by decide) ?_
    refine t_cVi (n := 1) (C := RX11) (T := TX11) (N := 16) (As := [.int 1]) (rest := []) X hT (kt63_X11_refuse l G tag L F hT.2.2.2 p0 1 m0 g0) m0 g0 rfl rfl qw_152 qw_153 qw_154 qw_2 qw_155 ⟨rfl, by decide +kernel, by decide +kernel, by decide +kernel⟩ ⟨Nat.le_of_ble_eq_true rfl, Nat.le_of_ble_eq_true rfl⟩ hl rfl rfl (Nat.le_of_ble_eq_true rfl) dX11_heads_9 ⟨Nat.le_of_ble_eq_true rfl, Nat.le_of_ble_eq_true rfl⟩ (fun z29556 F H locs hT hz29556 => ?_)
    obtain ⟨hz29556, yz29556⟩ := hz29556
    have hv29531 := (yz29556.1 _ 2 (Or.inr (by decide))).trans hv29531
    have hfr : (∀ b j : Nat, (tag b ≠ 19 ∨ j ≠ 0) → (tag b ≠ 19 ∨ j ≠ 1) → (tag b ≠ 26 ∨ j ≠ 13) → fld F b j = fld Fo b j) ∧ EF tag F Fo := ⟨fun b j n19_0 n19_1 n26_13 => (yz29556.1 b j n26_13).trans (hfr.1 b j n19_0 n19_1 n26_13), fun b j hb => (yz29556.2 b j hb).trans (hfr.2 b j hb)⟩
    exact t_iret hQ X hT (⟨rg_all _, hfr⟩) (Nat.le_of_ble_eq_true rfl) (Nat.le_of_ble_eq_true rfl) dX11_heads_12
set_option maxHeartbeats 4000000 in
set_option maxRecDepth 100000 in
theorem kt86_X11_isHeir (l : Launch) (G : KG) (tag : Nat → Nat) (L : List Nat) (F : Nat → va_E) (ho : okT G ttC tag L F) (p0 : Nat) (p1 : Int32) (m0 : p0 ∈ L) (g0 : tag p0 = 26) : TMi l yX11_isHeir cX11_isHeir 2 (some .boolean) { frames := 0, cells := 0, slots := 0, locals := 0 } G ttC tag L F [.ref p0, .int p1] (fun r F1 => F1 = F ∧ ((0 ≤ r.toInt ∧ r.toInt ≤ 1) ∧ (r.toInt ≠ 0 → (0 ≤ p1.toInt ∧ p1.toInt ≤ 5)))) := by
  refine t_bodyi (y := yX11_isHeir) (cd := cX11_isHeir) (mL := 2) (rt := (some .boolean)) (rm := { frames := 0, cells := 0, slots := 0, locals := 0 }) (av := [.ref p0, .int p1]) (by decide) (Nat.le_of_ble_eq_true rfl) ho ?_
  intro p e s m args below meth c ls A Q hQ X hT hl
  have hx := X.1.1
  have hb := X.1.2.1
  have hl : lv_has ls 2 [(0, .ref p0), (1, .int p1)] := hl
  have rp1 := rg_all p1
  refine lv_aload_n hx hb dX11_isHeir_0 rfl (lv_at hl 0 rfl) ?_
  refine t_get (C := RX11) (T := TX11) (N := 16) X hT m0 g0 rfl rfl 2 (by decide) qw_150 inlX11 rfl dX11_isHeir_1 (fun v29722 hv29722 ov29722 => ?_)
  obtain ⟨z29723, rfl, rz29723⟩ := okV_i ov29722
  refine lv_if_eq (tgt := 26) hx hb dX11_isHeir_4 (by decide) (fun c29724 => ?_) (fun c29724 => ?_)
  · have w29725 := cv_eq (rfl : z29723.toInt = z29723.toInt) (by decide : (0 : Int32).toInt = 0) c29724
    refine lv_iconst (v := 0) hx hb dX11_isHeir_26 (by decide) ?_
    exact t_zret hQ X hT (by decide) (⟨rfl, ⟨(by decide), fun h => absurd (by decide) h⟩⟩) (Nat.le_of_ble_eq_true rfl) (Nat.le_of_ble_eq_true rfl) dX11_isHeir_27
  · have w29726 := cv_ne (rfl : z29723.toInt = z29723.toInt) (by decide : (0 : Int32).toInt = 0) c29724
    refine lv_iload_n hx hb dX11_isHeir_7 rfl (lv_at hl 1 rfl) ?_
    refine lv_if_lt (tgt := 26) hx hb dX11_isHeir_8 (by decide) (fun c29727 => ?_) (fun c29727 => ?_)
    · have w29728 := cv_lt (rfl : p1.toInt = p1.toInt) (by decide : (0 : Int32).toInt = 0) c29727
      refine lv_iconst (v := 0) hx hb dX11_isHeir_26 (by decide) ?_
      exact t_zret hQ X hT (by decide) (⟨rfl, ⟨(by decide), fun h => absurd (by decide) h⟩⟩) (Nat.le_of_ble_eq_true rfl) (Nat.le_of_ble_eq_true rfl) dX11_isHeir_27
    · have w29729 := cv_nlt (rfl : p1.toInt = p1.toInt) (by decide : (0 : Int32).toInt = 0) c29727
      refine lv_iload_n hx hb dX11_isHeir_11 rfl (lv_at hl 1 rfl) ?_
      refine lv_aload_n hx hb dX11_isHeir_12 rfl (lv_at hl 0 rfl) ?_
      refine t_get (C := RX11) (T := TX11) (N := 16) X hT m0 g0 rfl rfl 3 (by decide) qw_18 inlX11 rfl dX11_isHeir_13 (fun v29730 hv29730 ov29730 => ?_)
      obtain ⟨b29731, rfl, mb29731, gb29731⟩ := okV_r ov29730
      have gb29731 : tag b29731 = 18 := tg_of gb29731
      refine t_get (C := RX1) (T := TX1) (N := 20) X hT mb29731 gb29731 rfl rfl 14 (by decide) qw_891 inlX1 rfl dX11_isHeir_16 (fun v29732 hv29732 ov29732 => ?_)
      obtain ⟨z29733, rfl, rz29733⟩ := okV_i ov29732
      refine lv_icmp_ge (tgt := 26) hx hb dX11_isHeir_19 (by decide) (fun c29734 => ?_) (fun c29734 => ?_)
      · have w29735 := cv_le (rfl : z29733.toInt = z29733.toInt) (rfl : p1.toInt = p1.toInt) c29734
        refine lv_iconst (v := 0) hx hb dX11_isHeir_26 (by decide) ?_
        exact t_zret hQ X hT (by decide) (⟨rfl, ⟨(by decide), fun h => absurd (by decide) h⟩⟩) (Nat.le_of_ble_eq_true rfl) (Nat.le_of_ble_eq_true rfl) dX11_isHeir_27
      · have w29736 := cv_nle (rfl : z29733.toInt = z29733.toInt) (rfl : p1.toInt = p1.toInt) c29734
        refine lv_iconst (v := 1) hx hb dX11_isHeir_22 (by decide) ?_
        refine lv_goto (tgt := 27) hx hb dX11_isHeir_23 (by decide) ?_
        exact t_zret hQ X hT (by decide) (⟨rfl, ⟨(by decide), fun _ => by omega⟩⟩) (Nat.le_of_ble_eq_true rfl) (Nat.le_of_ble_eq_true rfl) dX11_isHeir_27
set_option maxHeartbeats 4000000 in
set_option maxRecDepth 100000 in
theorem kt87_X11_warmth (l : Launch) (G : KG) (tag : Nat → Nat) (L : List Nat) (F : Nat → va_E) (ho : okT G ttC tag L F) (p0 : Nat) (p1 : Int32) (p2 : Int32) (m0 : p0 ∈ L) (g0 : tag p0 = 26) (h1 : 0 ≤ p1.toInt ∧ p1.toInt ≤ 3) : TMi l yX11_warmth cX11_warmth 5 (some .int) { frames := 2, cells := 0, slots := 0, locals := 46 } G ttC tag L F [.ref p0, .int p1, .int p2] (fun r F1 => F1 = F ∧ ((-2147483648) ≤ r.toInt ∧ r.toInt ≤ 2147483647)) := by
  refine t_bodyi (y := yX11_warmth) (cd := cX11_warmth) (mL := 5) (rt := (some .int)) (rm := { frames := 2, cells := 0, slots := 0, locals := 46 }) (av := [.ref p0, .int p1, .int p2]) (by decide) (Nat.le_of_ble_eq_true rfl) ho ?_
  intro p e s m args below meth c ls A Q hQ X hT hl
  have hx := X.1.1
  have hb := X.1.2.1
  have hl : lv_has ls 5 [(0, .ref p0), (1, .int p1), (2, .int p2)] := hl
  have rp2 := rg_all p2
  have K9 : ∀ (n : Nat) (z30066 : Int32) (z30067 : Int32) (H : Heap) (locs : List Loc) (ls : Array Slot), (7 - z30067.toInt < (n : Int)) → (1 ≤ z30067.toInt ∧ z30067.toInt ≤ 2147483647) → TH G ttC A s tag L F H locs → lv_has ls 5 [(0, .ref p0), (1, .int p1), (2, .int p2), (3, .int z30066), (4, .int z30067)] → W p l e { frames := 2, cells := 0, slots := 0, locals := 46 } s m args below meth c H locs 0 0 Q (F0 m 9 ls []) := by
    intro n
    induction n with
    | zero =>
      intro z30066 z30067 H locs ls hn rz30067 hT hl
      have rz30066 := rg_all z30066
      refine lv_iload hx hb dX11_warmth_9 (lv_at hl 4 rfl) ?_
      refine lv_aload_n hx hb dX11_warmth_11 rfl (lv_at hl 0 rfl) ?_
      refine t_get (C := RX11) (T := TX11) (N := 16) X hT m0 g0 rfl rfl 5 (by decide) qw_23 inlX11 rfl dX11_warmth_12 (fun v30068 hv30068 ov30068 => ?_)
      obtain ⟨b30069, rfl, mb30069, gb30069⟩ := okV_r ov30068
      have gb30069 : tag b30069 = 19 := tg_of gb30069
      refine t_get (C := RX7) (T := TX7) (N := 7) X hT mb30069 gb30069 rfl rfl 2 (by decide) qw_766 inlX7 rfl dX11_warmth_15 (fun v30070 hv30070 ov30070 => ?_)
      obtain ⟨b30071, rfl, mb30071, gb30071⟩ := okV_r ov30070
      have gb30071 : tag b30071 = 8 := tg_of gb30071
      refine lv_iload_n hx hb dX11_warmth_18 rfl (lv_at hl 1 rfl) ?_
      refine t_ild X hT mb30071 gb30071 rfl (by omega) dX11_warmth_19 (fun z30072 vz30072 rz30072 => ?_)
      have rz30072 : 0 ≤ z30072.toInt ∧ z30072.toInt ≤ 6 := rz30072
      refine lv_icmp_gt (tgt := 64) hx hb dX11_warmth_20 (by decide) (fun c30073 => ?_) (fun c30073 => ?_)
      · have w30074 := cv_lt (rfl : z30072.toInt = z30072.toInt) (rfl : z30067.toInt = z30067.toInt) c30073
        refine lv_iload_n hx hb dX11_warmth_64 rfl (lv_at hl 3 rfl) ?_
        exact t_iret hQ X hT (⟨rfl, rg_all _⟩) (Nat.le_of_ble_eq_true rfl) (Nat.le_of_ble_eq_true rfl) dX11_warmth_65
      · have w30075 := cv_nlt (rfl : z30072.toInt = z30072.toInt) (rfl : z30067.toInt = z30067.toInt) c30073
        exfalso
        omega
    | succ n ih9 =>
      intro z30066 z30067 H locs ls hn rz30067 hT hl
      have rz30066 := rg_all z30066
      have K58 : ∀ (z30076 : Int32) (H : Heap) (locs : List Loc) (ls : Array Slot), (1 ≤ z30067.toInt ∧ z30067.toInt ≤ 6) → TH G ttC A s tag L F H locs → lv_has ls 5 [(0, .ref p0), (1, .int p1), (2, .int p2), (3, .int z30076), (4, .int z30067)] → W p l e { frames := 2, cells := 0, slots := 0, locals := 46 } s m args below meth c H locs 0 0 Q (F0 m 58 ls []) := by
        intro z30076 H locs ls r9s30077 hT hl
        have rz30076 := rg_all z30076
        obtain ⟨z30078, ez30078⟩ : ∃ y : Int32, y = z30067 + 1 := ⟨_, rfl⟩
        have hz30078 : z30078.toInt = z30067.toInt + 1 := ar_add ez30078 rfl (by decide : (1 : Int32).toInt = 1) (by omega) (by omega)
        refine lv_iinc (v := z30078) (lv' := [(4, .int z30078), (0, .ref p0), (1, .int p1), (2, .int p2), (3, .int z30076)]) hx hb dX11_warmth_58 hl (k := 4) rfl (by rw [ez30078]; rfl) (by decide) rfl (fun ls hl => ?_)
        refine lv_goto (tgt := 9) hx hb dX11_warmth_61 (by decide) ?_
        exact ih9 z30076 z30078 _ _ _ (by omega) (by omega) hT  (lv_sub hl [1, 2, 3, 4, 0] rfl)
      refine lv_iload hx hb dX11_warmth_9 (lv_at hl 4 rfl) ?_
      refine lv_aload_n hx hb dX11_warmth_11 rfl (lv_at hl 0 rfl) ?_
      refine t_get (C := RX11) (T := TX11) (N := 16) X hT m0 g0 rfl rfl 5 (by decide) qw_23 inlX11 rfl dX11_warmth_12 (fun v30079 hv30079 ov30079 => ?_)
      obtain ⟨b30080, rfl, mb30080, gb30080⟩ := okV_r ov30079
      have gb30080 : tag b30080 = 19 := tg_of gb30080
      refine t_get (C := RX7) (T := TX7) (N := 7) X hT mb30080 gb30080 rfl rfl 2 (by decide) qw_766 inlX7 rfl dX11_warmth_15 (fun v30081 hv30081 ov30081 => ?_)
      obtain ⟨b30082, rfl, mb30082, gb30082⟩ := okV_r ov30081
      have gb30082 : tag b30082 = 8 := tg_of gb30082
      refine lv_iload_n hx hb dX11_warmth_18 rfl (lv_at hl 1 rfl) ?_
      refine t_ild X hT mb30082 gb30082 rfl (by omega) dX11_warmth_19 (fun z30083 vz30083 rz30083 => ?_)
      have rz30083 : 0 ≤ z30083.toInt ∧ z30083.toInt ≤ 6 := rz30083
      refine lv_icmp_gt (tgt := 64) hx hb dX11_warmth_20 (by decide) (fun c30084 => ?_) (fun c30084 => ?_)
      · have w30085 := cv_lt (rfl : z30083.toInt = z30083.toInt) (rfl : z30067.toInt = z30067.toInt) c30084
        refine lv_iload_n hx hb dX11_warmth_64 rfl (lv_at hl 3 rfl) ?_
        exact t_iret hQ X hT (⟨rfl, rg_all _⟩) (Nat.le_of_ble_eq_true rfl) (Nat.le_of_ble_eq_true rfl) dX11_warmth_65
      · have w30086 := cv_nlt (rfl : z30083.toInt = z30083.toInt) (rfl : z30067.toInt = z30067.toInt) c30084
        refine lv_aload_n hx hb dX11_warmth_23 rfl (lv_at hl 0 rfl) ?_
        refine t_get (C := RX11) (T := TX11) (N := 16) X hT m0 g0 rfl rfl 5 (by decide) qw_23 inlX11 rfl dX11_warmth_24 (fun v30087 hv30087 ov30087 => ?_)
        obtain rfl : v30087 = .ref b30080 := hv30087.symm.trans hv30079
        refine lv_iload_n hx hb dX11_warmth_27 rfl (lv_at hl 1 rfl) ?_
        refine lv_iload hx hb dX11_warmth_28 (lv_at hl 4 rfl) ?_
        refine t_cVi (n := 2) (C := RX7) (T := TX7) (N := 7) (As := [.int p1, .int z30067]) (rest := []) X hT (kt18_X7_stands l G tag L F hT.2.2.2 b30080 p1 z30067 mb30080 gb30080) mb30080 gb30080 rfl rfl qw_852 qw_853 qw_854 qw_22 qw_855 ⟨rfl, by decide +kernel, by decide +kernel, by decide +kernel⟩ ⟨Nat.le_of_ble_eq_true rfl, Nat.le_of_ble_eq_true rfl⟩ hl rfl rfl (Nat.le_of_ble_eq_true rfl) dX11_warmth_30 ⟨Nat.le_of_ble_eq_true rfl, Nat.le_of_ble_eq_true rfl⟩ (fun z30088 F9 H locs hT hz30088 => ?_)
        obtain ⟨fz30088, hz30088⟩ := hz30088
        rw [fz30088] at hT
        refine lv_if_eq (tgt := 58) hx hb dX11_warmth_33 (by decide) (fun c30089 => ?_) (fun c30089 => ?_)
        · have w30090 := cv_eq (rfl : z30088.toInt = z30088.toInt) (by decide : (0 : Int32).toInt = 0) c30089
          exact K58 z30066 _ _ _ (by omega) hT  (lv_sub hl [0, 1, 2, 3, 4] rfl)
        · have w30091 := cv_ne (rfl : z30088.toInt = z30088.toInt) (by decide : (0 : Int32).toInt = 0) c30089
          refine lv_iload_n hx hb dX11_warmth_36 rfl (lv_at hl 3 rfl) ?_
          refine lv_aload_n hx hb dX11_warmth_37 rfl (lv_at hl 0 rfl) ?_
          refine t_get (C := RX11) (T := TX11) (N := 16) X hT m0 g0 rfl rfl 3 (by decide) qw_18 inlX11 rfl dX11_warmth_38 (fun v30092 hv30092 ov30092 => ?_)
          obtain ⟨b30093, rfl, mb30093, gb30093⟩ := okV_r ov30092
          have gb30093 : tag b30093 = 18 := tg_of gb30093
          refine lv_aload_n hx hb dX11_warmth_41 rfl (lv_at hl 0 rfl) ?_
          refine t_get (C := RX11) (T := TX11) (N := 16) X hT m0 g0 rfl rfl 5 (by decide) qw_23 inlX11 rfl dX11_warmth_42 (fun v30094 hv30094 ov30094 => ?_)
          obtain rfl : v30094 = .ref b30080 := hv30094.symm.trans hv30079
          refine lv_iload_n hx hb dX11_warmth_45 rfl (lv_at hl 1 rfl) ?_
          refine lv_iload hx hb dX11_warmth_46 (lv_at hl 4 rfl) ?_
          refine lv_iconst (v := 0) hx hb dX11_warmth_48 (by decide) ?_
          refine t_cVi (n := 3) (C := RX7) (T := TX7) (N := 7) (As := [.int p1, .int z30067, .int 0]) (rest := [.ref b30093, .int z30066]) X hT (kt15_X7_partOf l G tag L F hT.2.2.2 b30080 p1 z30067 0 mb30080 gb30080) mb30080 gb30080 rfl rfl qw_831 qw_778 qw_779 qw_22 qw_780 ⟨rfl, by decide +kernel, by decide +kernel, by decide +kernel⟩ ⟨Nat.le_of_ble_eq_true rfl, Nat.le_of_ble_eq_true rfl⟩ hl rfl rfl (Nat.le_of_ble_eq_true rfl) dX11_warmth_49 ⟨Nat.le_of_ble_eq_true rfl, Nat.le_of_ble_eq_true rfl⟩ (fun z30095 F9 H locs hT hz30095 => ?_)
          obtain ⟨fz30095, hz30095⟩ := hz30095
          rw [fz30095] at hT
          refine lv_iconst (v := 2) hx hb dX11_warmth_52 (by decide) ?_
          refine t_cVi (n := 2) (C := RX1) (T := TX1) (N := 20) (As := [.int z30095, .int 2]) (rest := [.int z30066]) X hT (kt9_X1_stonePart l G tag L F hT.2.2.2 b30093 z30095 2 mb30093 gb30093) mb30093 gb30093 rfl rfl qw_857 qw_858 qw_859 qw_17 qw_860 ⟨rfl, by decide +kernel, by decide +kernel, by decide +kernel⟩ ⟨Nat.le_of_ble_eq_true rfl, Nat.le_of_ble_eq_true rfl⟩ hl rfl rfl (Nat.le_of_ble_eq_true rfl) dX11_warmth_53 ⟨Nat.le_of_ble_eq_true rfl, Nat.le_of_ble_eq_true rfl⟩ (fun z30096 F9 H locs hT hz30096 => ?_)
          obtain ⟨fz30096, hz30096⟩ := hz30096
          rw [fz30096] at hT
          refine lv_iadd hx hb dX11_warmth_56 ?_
          refine lv_topi (fun z30097 ez30097 => ?_)
          have rz30097 := rg_all z30097
          refine lv_istore_n (lv' := [(3, .int z30097), (0, .ref p0), (1, .int p1), (2, .int p2), (4, .int z30067)]) hx hb dX11_warmth_57 rfl hl (by decide) rfl (fun ls hl => ?_)
          exact K58 z30097 _ _ _ (by omega) hT  (lv_sub hl [1, 2, 3, 0, 4] rfl)
  refine lv_iconst (v := 0) hx hb dX11_warmth_0 (by decide) ?_
  refine lv_istore_n (lv' := [(3, .int 0), (0, .ref p0), (1, .int p1), (2, .int p2)]) hx hb dX11_warmth_1 rfl hl (by decide) rfl (fun ls hl => ?_)
  refine lv_iload_n hx hb dX11_warmth_2 rfl (lv_at hl 3 rfl) ?_
  refine lv_iconst (v := 1) hx hb dX11_warmth_3 (by decide) ?_
  refine t_mmax X hl qw_848 qw_849 qw_850 qw_851 (Nat.le_of_ble_eq_true rfl) (Nat.le_of_ble_eq_true rfl) (Nat.le_of_ble_eq_true rfl) (Nat.le_of_ble_eq_true rfl) dX11_warmth_4 (fun z30098 ez30098 => ?_)
  have hz30098 := mmax_e ez30098 (rfl : p2.toInt = p2.toInt) (by decide : (1 : Int32).toInt = 1)
  refine lv_istore (lv' := [(4, .int z30098), (3, .int 0), (0, .ref p0), (1, .int p1), (2, .int p2)]) hx hb dX11_warmth_7 hl (by decide) rfl (fun ls hl => ?_)
  have kk30099 : (0 : Int32).toInt = 0 := by decide
  exact K9 7 0 z30098 _ _ _ (by omega) (by omega) hT  (lv_sub hl [2, 3, 4, 1, 0] rfl)
set_option maxHeartbeats 4000000 in
set_option maxRecDepth 100000 in
theorem kt88_X11_heir (l : Launch) (G : KG) (tag : Nat → Nat) (L : List Nat) (Fo : Nat → va_E) (ho : okT G ttC tag L Fo) (p0 : Nat) (p1 : Int32) (p2 : Int32) (m0 : p0 ∈ L) (g0 : tag p0 = 26) : TMi l yX11_heir cX11_heir 3 (some .int) { frames := 3, cells := 0, slots := 0, locals := 70 } G ttC tag L Fo [.ref p0, .int p1, .int p2] (fun r F1 => ((-2147483648) ≤ r.toInt ∧ r.toInt ≤ 2147483647) ∧ ((∀ b j : Nat, (tag b ≠ 26 ∨ j ≠ 13) → fld F1 b j = fld Fo b j) ∧ EF tag F1 Fo)) := by
  refine t_bodyi (y := yX11_heir) (cd := cX11_heir) (mL := 3) (rt := (some .int)) (rm := { frames := 3, cells := 0, slots := 0, locals := 70 }) (av := [.ref p0, .int p1, .int p2]) (by decide) (Nat.le_of_ble_eq_true rfl) ho ?_
  intro p e s m args below meth c ls A Q hQ X hT hl
  have hx := X.1.1
  have hb := X.1.2.1
  have hl : lv_has ls 3 [(0, .ref p0), (1, .int p1), (2, .int p2)] := hl
  have rp1 := rg_all p1
  have rp2 := rg_all p2
  obtain ⟨F, hFo⟩ : ∃ F : Nat → va_E, F = Fo := ⟨_, rfl⟩
  rw [← hFo] at hT
  have hfr : (∀ b j : Nat, (tag b ≠ 26 ∨ j ≠ 13) → fld F b j = fld Fo b j) ∧ EF tag F Fo := by
    rw [hFo]
    exact ⟨by intros; rfl, fun _ _ _ => rfl⟩
  refine lv_aload_n hx hb dX11_heir_0 rfl (lv_at hl 0 rfl) ?_
  refine lv_iload_n hx hb dX11_heir_1 rfl (lv_at hl 1 rfl) ?_
  refine t_cVi (n := 1) (C := RX11) (T := TX11) (N := 16) (As := [.int p1]) (rest := []) X hT (kt86_X11_isHeir l G tag L F hT.2.2.2 p0 p1 m0 g0) m0 g0 rfl rfl qw_887 qw_888 qw_889 qw_2 qw_890 ⟨rfl, by decide +kernel, by decide +kernel, by decide +kernel⟩ ⟨Nat.le_of_ble_eq_true rfl, Nat.le_of_ble_eq_true rfl⟩ hl rfl rfl (Nat.le_of_ble_eq_true rfl) dX11_heir_2 ⟨Nat.le_of_ble_eq_true rfl, Nat.le_of_ble_eq_true rfl⟩ (fun z30506 F9 H locs hT hz30506 => ?_)
  obtain ⟨fz30506, hz30506⟩ := hz30506
  rw [fz30506] at hT
  obtain ⟨hz30506, iz30506⟩ := hz30506
  refine lv_if_ne (tgt := 14) hx hb dX11_heir_5 (by decide) (fun c30507 => ?_) (fun c30507 => ?_)
  · have w30508 := cv_ne (rfl : z30506.toInt = z30506.toInt) (by decide : (0 : Int32).toInt = 0) c30507
    have w30509 := (fun h => (iz30506 h)) (by omega)
    refine lv_iload_n hx hb dX11_heir_14 rfl (lv_at hl 2 rfl) ?_
    by_cases c30510 : p2 = 0
    · have w30511 := cv_eq (rfl : p2.toInt = p2.toInt) (by decide : (0 : Int32).toInt = 0) c30510
      refine lv_tableIn (off := 25) (tgt := 40) hx hb dX11_heir_15 (by rw [c30510]; decide) (by rw [c30510]; decide) (by rw [c30510]; decide) (by decide) ?_
      refine lv_aload_n hx hb dX11_heir_40 rfl (lv_at hl 0 rfl) ?_
      refine lv_aload_n hx hb dX11_heir_41 rfl (lv_at hl 0 rfl) ?_
      refine t_get (C := RX11) (T := TX11) (N := 16) X hT m0 g0 rfl rfl 3 (by decide) qw_18 inlX11 rfl dX11_heir_42 (fun v30512 hv30512 ov30512 => ?_)
      obtain ⟨b30513, rfl, mb30513, gb30513⟩ := okV_r ov30512
      have gb30513 : tag b30513 = 18 := tg_of gb30513
      refine t_get (C := RX1) (T := TX1) (N := 20) X hT mb30513 gb30513 rfl rfl 15 (by decide) qw_885 inlX1 rfl dX11_heir_45 (fun v30514 hv30514 ov30514 => ?_)
      obtain ⟨b30515, rfl, mb30515, gb30515⟩ := okV_r ov30514
      have gb30515 : tag b30515 = 6 := tg_of gb30515
      refine lv_iload_n hx hb dX11_heir_48 rfl (lv_at hl 1 rfl) ?_
      refine t_ild X hT mb30515 gb30515 rfl (by omega) dX11_heir_49 (fun z30516 vz30516 rz30516 => ?_)
      have rz30516 : 0 ≤ z30516.toInt ∧ z30516.toInt ≤ 3 := rz30516
      refine t_cVi (n := 1) (C := RX11) (T := TX11) (N := 16) (As := [.int z30516]) (rest := []) X hT (kt56_X11_answer l G tag L F hT.2.2.2 p0 z30516 m0 g0) m0 g0 rfl rfl qw_463 qw_464 qw_465 qw_2 qw_466 ⟨rfl, by decide +kernel, by decide +kernel, by decide +kernel⟩ ⟨Nat.le_of_ble_eq_true rfl, Nat.le_of_ble_eq_true rfl⟩ hl rfl rfl (Nat.le_of_ble_eq_true rfl) dX11_heir_50 ⟨Nat.le_of_ble_eq_true rfl, Nat.le_of_ble_eq_true rfl⟩ (fun z30517 F H locs hT hz30517 => ?_)
      obtain ⟨hz30517, yz30517⟩ := hz30517
      have hv30512 := (yz30517.1 _ 3 (Or.inr (by decide))).trans hv30512
      have hv30514 := (yz30517.1 _ 15 (Or.inr (by decide))).trans hv30514
      have hfr : (∀ b j : Nat, (tag b ≠ 26 ∨ j ≠ 13) → fld F b j = fld Fo b j) ∧ EF tag F Fo := ⟨fun b j n26_13 => (yz30517.1 b j n26_13).trans (hfr.1 b j n26_13), fun b j hb => (yz30517.2 b j hb).trans (hfr.2 b j hb)⟩
      exact t_iret hQ X hT (⟨rg_all _, hfr⟩) (Nat.le_of_ble_eq_true rfl) (Nat.le_of_ble_eq_true rfl) dX11_heir_53
    have w30518 := cv_ne (rfl : p2.toInt = p2.toInt) (by decide : (0 : Int32).toInt = 0) c30510
    by_cases c30519 : p2 = 1
    · have w30520 := cv_eq (rfl : p2.toInt = p2.toInt) (by decide : (1 : Int32).toInt = 1) c30519
      refine lv_tableIn (off := 39) (tgt := 54) hx hb dX11_heir_15 (by rw [c30519]; decide) (by rw [c30519]; decide) (by rw [c30519]; decide) (by decide) ?_
      refine lv_aload_n hx hb dX11_heir_54 rfl (lv_at hl 0 rfl) ?_
      refine lv_aload_n hx hb dX11_heir_55 rfl (lv_at hl 0 rfl) ?_
      refine t_get (C := RX11) (T := TX11) (N := 16) X hT m0 g0 rfl rfl 5 (by decide) qw_23 inlX11 rfl dX11_heir_56 (fun v30521 hv30521 ov30521 => ?_)
      obtain ⟨b30522, rfl, mb30522, gb30522⟩ := okV_r ov30521
      have gb30522 : tag b30522 = 19 := tg_of gb30522
      refine t_get (C := RX7) (T := TX7) (N := 7) X hT mb30522 gb30522 rfl rfl 5 (by decide) qw_886 inlX7 rfl dX11_heir_59 (fun v30523 hv30523 ov30523 => ?_)
      obtain ⟨b30524, rfl, mb30524, gb30524⟩ := okV_r ov30523
      have gb30524 : tag b30524 = 7 := tg_of gb30524
      refine lv_iload_n hx hb dX11_heir_62 rfl (lv_at hl 1 rfl) ?_
      refine t_ild X hT mb30524 gb30524 rfl (by omega) dX11_heir_63 (fun z30525 vz30525 rz30525 => ?_)
      have rz30525 : (-2147483648) ≤ z30525.toInt ∧ z30525.toInt ≤ 2147483647 := rz30525
      refine t_cVi (n := 1) (C := RX11) (T := TX11) (N := 16) (As := [.int z30525]) (rest := []) X hT (kt56_X11_answer l G tag L F hT.2.2.2 p0 z30525 m0 g0) m0 g0 rfl rfl qw_463 qw_464 qw_465 qw_2 qw_466 ⟨rfl, by decide +kernel, by decide +kernel, by decide +kernel⟩ ⟨Nat.le_of_ble_eq_true rfl, Nat.le_of_ble_eq_true rfl⟩ hl rfl rfl (Nat.le_of_ble_eq_true rfl) dX11_heir_64 ⟨Nat.le_of_ble_eq_true rfl, Nat.le_of_ble_eq_true rfl⟩ (fun z30526 F H locs hT hz30526 => ?_)
      obtain ⟨hz30526, yz30526⟩ := hz30526
      have hv30521 := (yz30526.1 _ 5 (Or.inr (by decide))).trans hv30521
      have hv30523 := (yz30526.1 _ 5 (Or.inr (by decide))).trans hv30523
      have hfr : (∀ b j : Nat, (tag b ≠ 26 ∨ j ≠ 13) → fld F b j = fld Fo b j) ∧ EF tag F Fo := ⟨fun b j n26_13 => (yz30526.1 b j n26_13).trans (hfr.1 b j n26_13), fun b j hb => (yz30526.2 b j hb).trans (hfr.2 b j hb)⟩
      exact t_iret hQ X hT (⟨rg_all _, hfr⟩) (Nat.le_of_ble_eq_true rfl) (Nat.le_of_ble_eq_true rfl) dX11_heir_67
    have w30527 := cv_ne (rfl : p2.toInt = p2.toInt) (by decide : (1 : Int32).toInt = 1) c30519
    by_cases c30528 : p2 = 2
    · have w30529 := cv_eq (rfl : p2.toInt = p2.toInt) (by decide : (2 : Int32).toInt = 2) c30528
      refine lv_tableIn (off := 53) (tgt := 68) hx hb dX11_heir_15 (by rw [c30528]; decide) (by rw [c30528]; decide) (by rw [c30528]; decide) (by decide) ?_
      refine lv_aload_n hx hb dX11_heir_68 rfl (lv_at hl 0 rfl) ?_
      refine lv_aload_n hx hb dX11_heir_69 rfl (lv_at hl 0 rfl) ?_
      refine lv_aload_n hx hb dX11_heir_70 rfl (lv_at hl 0 rfl) ?_
      refine t_get (C := RX11) (T := TX11) (N := 16) X hT m0 g0 rfl rfl 3 (by decide) qw_18 inlX11 rfl dX11_heir_71 (fun v30530 hv30530 ov30530 => ?_)
      obtain ⟨b30531, rfl, mb30531, gb30531⟩ := okV_r ov30530
      have gb30531 : tag b30531 = 18 := tg_of gb30531
      refine t_get (C := RX1) (T := TX1) (N := 20) X hT mb30531 gb30531 rfl rfl 15 (by decide) qw_885 inlX1 rfl dX11_heir_74 (fun v30532 hv30532 ov30532 => ?_)
      obtain ⟨b30533, rfl, mb30533, gb30533⟩ := okV_r ov30532
      have gb30533 : tag b30533 = 6 := tg_of gb30533
      refine lv_iload_n hx hb dX11_heir_77 rfl (lv_at hl 1 rfl) ?_
      refine t_ild X hT mb30533 gb30533 rfl (by omega) dX11_heir_78 (fun z30534 vz30534 rz30534 => ?_)
      have rz30534 : 0 ≤ z30534.toInt ∧ z30534.toInt ≤ 3 := rz30534
      refine lv_aload_n hx hb dX11_heir_79 rfl (lv_at hl 0 rfl) ?_
      refine t_get (C := RX11) (T := TX11) (N := 16) X hT m0 g0 rfl rfl 5 (by decide) qw_23 inlX11 rfl dX11_heir_80 (fun v30535 hv30535 ov30535 => ?_)
      obtain ⟨b30536, rfl, mb30536, gb30536⟩ := okV_r ov30535
      have gb30536 : tag b30536 = 19 := tg_of gb30536
      refine t_get (C := RX7) (T := TX7) (N := 7) X hT mb30536 gb30536 rfl rfl 5 (by decide) qw_886 inlX7 rfl dX11_heir_83 (fun v30537 hv30537 ov30537 => ?_)
      obtain ⟨b30538, rfl, mb30538, gb30538⟩ := okV_r ov30537
      have gb30538 : tag b30538 = 7 := tg_of gb30538
      refine lv_iload_n hx hb dX11_heir_86 rfl (lv_at hl 1 rfl) ?_
      refine t_ild X hT mb30538 gb30538 rfl (by omega) dX11_heir_87 (fun z30539 vz30539 rz30539 => ?_)
      have rz30539 : (-2147483648) ≤ z30539.toInt ∧ z30539.toInt ≤ 2147483647 := rz30539
      refine t_cVi (n := 2) (C := RX11) (T := TX11) (N := 16) (As := [.int z30534, .int z30539]) (rest := [.ref p0]) X hT (kt87_X11_warmth l G tag L F hT.2.2.2 p0 z30534 z30539 m0 g0 (by omega)) m0 g0 rfl rfl qw_844 qw_845 qw_846 qw_2 qw_847 ⟨rfl, by decide +kernel, by decide +kernel, by decide +kernel⟩ ⟨Nat.le_of_ble_eq_true rfl, Nat.le_of_ble_eq_true rfl⟩ hl rfl rfl (Nat.le_of_ble_eq_true rfl) dX11_heir_88 ⟨Nat.le_of_ble_eq_true rfl, Nat.le_of_ble_eq_true rfl⟩ (fun z30540 F9 H locs hT hz30540 => ?_)
      obtain ⟨fz30540, hz30540⟩ := hz30540
      rw [fz30540] at hT
      refine t_cVi (n := 1) (C := RX11) (T := TX11) (N := 16) (As := [.int z30540]) (rest := []) X hT (kt56_X11_answer l G tag L F hT.2.2.2 p0 z30540 m0 g0) m0 g0 rfl rfl qw_463 qw_464 qw_465 qw_2 qw_466 ⟨rfl, by decide +kernel, by decide +kernel, by decide +kernel⟩ ⟨Nat.le_of_ble_eq_true rfl, Nat.le_of_ble_eq_true rfl⟩ hl rfl rfl (Nat.le_of_ble_eq_true rfl) dX11_heir_91 ⟨Nat.le_of_ble_eq_true rfl, Nat.le_of_ble_eq_true rfl⟩ (fun z30541 F H locs hT hz30541 => ?_)
      obtain ⟨hz30541, yz30541⟩ := hz30541
      have hv30530 := (yz30541.1 _ 3 (Or.inr (by decide))).trans hv30530
      have hv30532 := (yz30541.1 _ 15 (Or.inr (by decide))).trans hv30532
      have hv30535 := (yz30541.1 _ 5 (Or.inr (by decide))).trans hv30535
      have hv30537 := (yz30541.1 _ 5 (Or.inr (by decide))).trans hv30537
      have hfr : (∀ b j : Nat, (tag b ≠ 26 ∨ j ≠ 13) → fld F b j = fld Fo b j) ∧ EF tag F Fo := ⟨fun b j n26_13 => (yz30541.1 b j n26_13).trans (hfr.1 b j n26_13), fun b j hb => (yz30541.2 b j hb).trans (hfr.2 b j hb)⟩
      exact t_iret hQ X hT (⟨rg_all _, hfr⟩) (Nat.le_of_ble_eq_true rfl) (Nat.le_of_ble_eq_true rfl) dX11_heir_94
    have w30542 := cv_ne (rfl : p2.toInt = p2.toInt) (by decide : (2 : Int32).toInt = 2) c30528
    refine lv_tableOut (tgt := 95) hx hb dX11_heir_15 (by omega) (by decide) ?_
    refine lv_aload_n hx hb dX11_heir_95 rfl (lv_at hl 0 rfl) ?_
    refine lv_iconst (v := 1) hx hb dX11_heir_96 (by decide) ?_
    refine t_cVi (n := 1) (C := RX11) (T := TX11) (N := 16) (As := [.int 1]) (rest := []) X hT (kt63_X11_refuse l G tag L F hT.2.2.2 p0 1 m0 g0) m0 g0 rfl rfl qw_152 qw_153 qw_154 qw_2 qw_155 ⟨rfl, by decide +kernel, by decide +kernel, by decide +kernel⟩ ⟨Nat.le_of_ble_eq_true rfl, Nat.le_of_ble_eq_true rfl⟩ hl rfl rfl (Nat.le_of_ble_eq_true rfl) dX11_heir_97 ⟨Nat.le_of_ble_eq_true rfl, Nat.le_of_ble_eq_true rfl⟩ (fun z30543 F H locs hT hz30543 => ?_)
    obtain ⟨hz30543, yz30543⟩ := hz30543
    have hfr : (∀ b j : Nat, (tag b ≠ 26 ∨ j ≠ 13) → fld F b j = fld Fo b j) ∧ EF tag F Fo := ⟨fun b j n26_13 => (yz30543.1 b j n26_13).trans (hfr.1 b j n26_13), fun b j hb => (yz30543.2 b j hb).trans (hfr.2 b j hb)⟩
    exact t_iret hQ X hT (⟨rg_all _, hfr⟩) (Nat.le_of_ble_eq_true rfl) (Nat.le_of_ble_eq_true rfl) dX11_heir_100
  · have w30544 := cv_eq (rfl : z30506.toInt = z30506.toInt) (by decide : (0 : Int32).toInt = 0) c30507
    refine lv_aload_n hx hb dX11_heir_8 rfl (lv_at hl 0 rfl) ?_
    refine lv_iconst (v := 1) hx hb dX11_heir_9 (by decide) ?_
    refine t_cVi (n := 1) (C := RX11) (T := TX11) (N := 16) (As := [.int 1]) (rest := []) X hT (kt63_X11_refuse l G tag L F hT.2.2.2 p0 1 m0 g0) m0 g0 rfl rfl qw_152 qw_153 qw_154 qw_2 qw_155 ⟨rfl, by decide +kernel, by decide +kernel, by decide +kernel⟩ ⟨Nat.le_of_ble_eq_true rfl, Nat.le_of_ble_eq_true rfl⟩ hl rfl rfl (Nat.le_of_ble_eq_true rfl) dX11_heir_10 ⟨Nat.le_of_ble_eq_true rfl, Nat.le_of_ble_eq_true rfl⟩ (fun z30545 F H locs hT hz30545 => ?_)
    obtain ⟨hz30545, yz30545⟩ := hz30545
    have hfr : (∀ b j : Nat, (tag b ≠ 26 ∨ j ≠ 13) → fld F b j = fld Fo b j) ∧ EF tag F Fo := ⟨fun b j n26_13 => (yz30545.1 b j n26_13).trans (hfr.1 b j n26_13), fun b j hb => (yz30545.2 b j hb).trans (hfr.2 b j hb)⟩
    exact t_iret hQ X hT (⟨rg_all _, hfr⟩) (Nat.le_of_ble_eq_true rfl) (Nat.le_of_ble_eq_true rfl) dX11_heir_13
set_option maxHeartbeats 4000000 in
set_option maxRecDepth 100000 in
theorem kt89_X6_isShut (l : Launch) (G : KG) (tag : Nat → Nat) (L : List Nat) (F : Nat → va_E) (ho : okT G ttC tag L F) (p0 : Nat) (p1 : Nat) (p2 : Int32) (m0 : p0 ∈ L) (g0 : tag p0 = 18) (m1 : p1 ∈ L) (g1 : tag p1 = 19) (h2 : 0 ≤ p2.toInt ∧ p2.toInt ≤ 3) : TMi l yX6_isShut cX6_isShut 5 (some .boolean) { frames := 3, cells := 0, slots := 0, locals := 77 } G ttC tag L F [.ref p0, .ref p1, .int p2] (fun r F1 => F1 = F ∧ (0 ≤ r.toInt ∧ r.toInt ≤ 1)) := by
  refine t_bodyi (y := yX6_isShut) (cd := cX6_isShut) (mL := 5) (rt := (some .boolean)) (rm := { frames := 3, cells := 0, slots := 0, locals := 77 }) (av := [.ref p0, .ref p1, .int p2]) (by decide) (Nat.le_of_ble_eq_true rfl) ho ?_
  intro p e s m args below meth c ls A Q hQ X hT hl
  have hx := X.1.1
  have hb := X.1.2.1
  have hl : lv_has ls 5 [(0, .ref p0), (1, .ref p1), (2, .int p2)] := hl
  refine lv_aload_n hx hb dX6_isShut_0 rfl (lv_at hl 1 rfl) ?_
  refine t_get (C := RX7) (T := TX7) (N := 7) X hT m1 g1 rfl rfl 2 (by decide) qw_383 inlX7 rfl dX6_isShut_1 (fun v30808 hv30808 ov30808 => ?_)
  obtain ⟨b30809, rfl, mb30809, gb30809⟩ := okV_r ov30808
  have gb30809 : tag b30809 = 8 := tg_of gb30809
  refine lv_iload_n hx hb dX6_isShut_4 rfl (lv_at hl 2 rfl) ?_
  refine t_ild X hT mb30809 gb30809 rfl (by omega) dX6_isShut_5 (fun z30810 vz30810 rz30810 => ?_)
  have rz30810 : 0 ≤ z30810.toInt ∧ z30810.toInt ≤ 6 := rz30810
  refine lv_istore_n (lv' := [(3, .int z30810), (0, .ref p0), (1, .ref p1), (2, .int p2)]) hx hb dX6_isShut_6 rfl hl (by decide) rfl (fun ls hl => ?_)
  refine lv_iload_n hx hb dX6_isShut_7 rfl (lv_at hl 0 rfl) ?_
  refine lv_if_ne (tgt := 13) hx hb dX6_isShut_8 (by decide) (fun c30811 => ?_) (fun c30811 => ?_)
  · have w30812 := cv_ne (rfl : z30810.toInt = z30810.toInt) (by decide : (0 : Int32).toInt = 0) c30811
    refine lv_aload_n hx hb dX6_isShut_13 rfl (lv_at hl 2 rfl) ?_
    refine lv_iload_n hx hb dX6_isShut_14 rfl (lv_at hl 3 rfl) ?_
    refine lv_iload_n hx hb dX6_isShut_15 rfl (lv_at hl 0 rfl) ?_
    refine lv_iconst (v := 1) hx hb dX6_isShut_16 (by decide) ?_
    refine t_cVi (n := 3) (C := RX7) (T := TX7) (N := 7) (As := [.int p2, .int z30810, .int 1]) (rest := []) X hT (kt15_X7_partOf l G tag L F hT.2.2.2 p1 p2 z30810 1 m1 g1) m1 g1 rfl rfl qw_777 qw_778 qw_779 qw_22 qw_780 ⟨rfl, by decide +kernel, by decide +kernel, by decide +kernel⟩ ⟨Nat.le_of_ble_eq_true rfl, Nat.le_of_ble_eq_true rfl⟩ hl rfl rfl (Nat.le_of_ble_eq_true rfl) dX6_isShut_17 ⟨Nat.le_of_ble_eq_true rfl, Nat.le_of_ble_eq_true rfl⟩ (fun z30813 F9 H locs hT hz30813 => ?_)
    obtain ⟨fz30813, hz30813⟩ := hz30813
    rw [fz30813] at hT
    refine lv_istore (lv' := [(4, .int z30813), (3, .int z30810), (0, .ref p0), (1, .ref p1), (2, .int p2)]) hx hb dX6_isShut_20 hl (by decide) rfl (fun ls hl => ?_)
    refine lv_iload hx hb dX6_isShut_22 (lv_at hl 0 rfl) ?_
    refine lv_if_lt (tgt := 33) hx hb dX6_isShut_24 (by decide) (fun c30814 => ?_) (fun c30814 => ?_)
    · have w30815 := cv_lt (rfl : z30813.toInt = z30813.toInt) (by decide : (0 : Int32).toInt = 0) c30814
      refine lv_iconst (v := 0) hx hb dX6_isShut_33 (by decide) ?_
      exact t_zret hQ X hT (by decide) (⟨rfl, (by decide)⟩) (Nat.le_of_ble_eq_true rfl) (Nat.le_of_ble_eq_true rfl) dX6_isShut_34
    · have w30816 := cv_nlt (rfl : z30813.toInt = z30813.toInt) (by decide : (0 : Int32).toInt = 0) c30814
      refine lv_iload hx hb dX6_isShut_27 (lv_at hl 0 rfl) ?_
      refine lv_iconst (v := 4) hx hb dX6_isShut_29 (by decide) ?_
      refine lv_icmp_lt (tgt := 35) hx hb dX6_isShut_30 (by decide) (fun c30817 => ?_) (fun c30817 => ?_)
      · have w30818 := cv_lt (rfl : z30813.toInt = z30813.toInt) (by decide : (4 : Int32).toInt = 4) c30817
        refine lv_aload_n hx hb dX6_isShut_35 rfl (lv_at hl 2 rfl) ?_
        refine lv_aload_n hx hb dX6_isShut_36 rfl (lv_at hl 3 rfl) ?_
        refine lv_iload_n hx hb dX6_isShut_37 rfl (lv_at hl 4 rfl) ?_
        refine lv_iload_n hx hb dX6_isShut_38 rfl (lv_at hl 1 rfl) ?_
        refine lv_iload hx hb dX6_isShut_39 (lv_at hl 0 rfl) ?_
        refine lv_aload_n hx hb dX6_isShut_41 rfl (lv_at hl 3 rfl) ?_
        refine lv_iload_n hx hb dX6_isShut_42 rfl (lv_at hl 4 rfl) ?_
        refine lv_iload_n hx hb dX6_isShut_43 rfl (lv_at hl 1 rfl) ?_
        refine lv_iconst (v := 2) hx hb dX6_isShut_44 (by decide) ?_
        refine t_cVi (n := 3) (C := RX7) (T := TX7) (N := 7) (As := [.int p2, .int z30810, .int 2]) (rest := [.int z30813, .int z30810, .int p2, .ref p1, .ref p0]) X hT (kt15_X7_partOf l G tag L F hT.2.2.2 p1 p2 z30810 2 m1 g1) m1 g1 rfl rfl qw_777 qw_778 qw_779 qw_22 qw_780 ⟨rfl, by decide +kernel, by decide +kernel, by decide +kernel⟩ ⟨Nat.le_of_ble_eq_true rfl, Nat.le_of_ble_eq_true rfl⟩ hl rfl rfl (Nat.le_of_ble_eq_true rfl) dX6_isShut_45 ⟨Nat.le_of_ble_eq_true rfl, Nat.le_of_ble_eq_true rfl⟩ (fun z30819 F9 H locs hT hz30819 => ?_)
        obtain ⟨fz30819, hz30819⟩ := hz30819
        rw [fz30819] at hT
        refine t_cSi (n := 6) (As := [.ref p0, .ref p1, .int p2, .int z30810, .int z30813, .int z30819]) (rest := []) X hT (kt43_X6_isFrontFree l G tag L F hT.2.2.2 p0 p1 p2 z30810 z30813 z30819 m0 g0 m1 g1 (by omega) (by omega)) qw_781 qw_782 qw_380 qw_783 ⟨by decide +kernel, by decide +kernel, by decide +kernel⟩ ⟨Nat.le_of_ble_eq_true rfl, Nat.le_of_ble_eq_true rfl⟩ hl rfl rfl (Nat.le_of_ble_eq_true rfl) dX6_isShut_48 ⟨Nat.le_of_ble_eq_true rfl, Nat.le_of_ble_eq_true rfl⟩ (fun z30820 F9 H locs hT hz30820 => ?_)
        obtain ⟨fz30820, hz30820⟩ := hz30820
        rw [fz30820] at hT
        refine lv_if_ne (tgt := 58) hx hb dX6_isShut_51 (by decide) (fun c30821 => ?_) (fun c30821 => ?_)
        · have w30822 := cv_ne (rfl : z30820.toInt = z30820.toInt) (by decide : (0 : Int32).toInt = 0) c30821
          refine lv_iconst (v := 0) hx hb dX6_isShut_58 (by decide) ?_
          exact t_zret hQ X hT (by decide) (⟨rfl, (by decide)⟩) (Nat.le_of_ble_eq_true rfl) (Nat.le_of_ble_eq_true rfl) dX6_isShut_59
        · have w30823 := cv_eq (rfl : z30820.toInt = z30820.toInt) (by decide : (0 : Int32).toInt = 0) c30821
          refine lv_iconst (v := 1) hx hb dX6_isShut_54 (by decide) ?_
          refine lv_goto (tgt := 59) hx hb dX6_isShut_55 (by decide) ?_
          exact t_zret hQ X hT (by decide) (⟨rfl, (by decide)⟩) (Nat.le_of_ble_eq_true rfl) (Nat.le_of_ble_eq_true rfl) dX6_isShut_59
      · have w30824 := cv_nlt (rfl : z30813.toInt = z30813.toInt) (by decide : (4 : Int32).toInt = 4) c30817
        refine lv_iconst (v := 0) hx hb dX6_isShut_33 (by decide) ?_
        exact t_zret hQ X hT (by decide) (⟨rfl, (by decide)⟩) (Nat.le_of_ble_eq_true rfl) (Nat.le_of_ble_eq_true rfl) dX6_isShut_34
  · have w30825 := cv_eq (rfl : z30810.toInt = z30810.toInt) (by decide : (0 : Int32).toInt = 0) c30811
    refine lv_iconst (v := 0) hx hb dX6_isShut_11 (by decide) ?_
    exact t_zret hQ X hT (by decide) (⟨rfl, (by decide)⟩) (Nat.le_of_ble_eq_true rfl) (Nat.le_of_ble_eq_true rfl) dX6_isShut_12
