set_option maxHeartbeats 4000000 in
set_option maxRecDepth 100000 in
theorem kt57_X4_inFront (l : Launch) (G : KG) (tag : Nat → Nat) (L : List Nat) (F : Nat → va_E) (ho : okT G ttC tag L F) (p0 : Int32) (p1 : Int32) (h0 : (-2147483648) ≤ p0.toInt ∧ p0.toInt ≤ 7) (h1 : 0 ≤ p1.toInt ∧ p1.toInt ≤ 47) : TMi l yX4_inFront cX4_inFront 4 (some .int) { frames := 0, cells := 0, slots := 0, locals := 0 } G ttC tag L F [.int p0, .int p1] (fun r F1 => F1 = F ∧ (0 ≤ r.toInt ∧ r.toInt ≤ 766)) := by
  refine t_bodyi (y := yX4_inFront) (cd := cX4_inFront) (mL := 4) (rt := (some .int)) (rm := { frames := 0, cells := 0, slots := 0, locals := 0 }) (av := [.int p0, .int p1]) (by decide) (Nat.le_of_ble_eq_true rfl) ho ?_
  intro p e s m args below meth c ls A Q hQ X hT hl
  have hx := X.1.1
  have hb := X.1.2.1
  have hl : lv_has ls 4 [(0, .int p0), (1, .int p1)] := hl
  refine lv_iload_n hx hb dX4_inFront_0 rfl (lv_at hl 0 rfl) ?_
  refine lv_iconst (v := 1) hx hb dX4_inFront_1 (by decide) ?_
  refine lv_icmp_ge (tgt := 7) hx hb dX4_inFront_2 (by decide) (fun c14118 => ?_) (fun c14118 => ?_)
  · have w14119 := cv_le (by decide : (1 : Int32).toInt = 1) (rfl : p0.toInt = p0.toInt) c14118
    refine lv_iload_n hx hb dX4_inFront_7 rfl (lv_at hl 1 rfl) ?_
    refine lv_iconst (v := 2) hx hb dX4_inFront_8 (by decide) ?_
    refine lv_iload_n hx hb dX4_inFront_9 rfl (lv_at hl 0 rfl) ?_
    refine lv_imul hx hb dX4_inFront_10 ?_
    refine lv_topi (fun z14120 ez14120 => ?_)
    have hz14120 : z14120.toInt = 2 * p0.toInt := ar_mul ez14120 (by decide : (2 : Int32).toInt = 2) (rfl : p0.toInt = p0.toInt) (by omega) (by omega)
    have rz14120 : 2 ≤ z14120.toInt ∧ z14120.toInt ≤ 14 := by omega
    refine lv_idiv hx hb dX4_inFront_11 (ne0_of (by omega)) ?_
    refine lv_topi (fun z14121 ez14121 => ?_)
    have rz14121 : 0 ≤ z14121.toInt ∧ z14121.toInt ≤ 47 := ar_divv ez14121 (A := 47) (by omega) (by omega)
    refine lv_istore_n (lv' := [(2, .int z14121), (0, .int p0), (1, .int p1)]) hx hb dX4_inFront_12 rfl hl (by decide) rfl (fun ls hl => ?_)
    refine lv_iload_n hx hb dX4_inFront_13 rfl (lv_at hl 2 rfl) ?_
    refine lv_iconst (v := 2) hx hb dX4_inFront_14 (by decide) ?_
    refine lv_iload_n hx hb dX4_inFront_15 rfl (lv_at hl 1 rfl) ?_
    refine lv_imul hx hb dX4_inFront_16 ?_
    refine lv_topi (fun z14122 ez14122 => ?_)
    have hz14122 : z14122.toInt = 2 * p0.toInt := ar_mul ez14122 (by decide : (2 : Int32).toInt = 2) (rfl : p0.toInt = p0.toInt) (by omega) (by omega)
    have rz14122 : 2 ≤ z14122.toInt ∧ z14122.toInt ≤ 14 := by omega
    refine lv_irem hx hb dX4_inFront_17 (ne0_of (by omega)) ?_
    refine lv_topi (fun z14123 ez14123 => ?_)
    have hz14123 := ar_remv ez14123 (by omega) (by omega)
    have rz14123 : 0 ≤ z14123.toInt ∧ z14123.toInt ≤ 13 := by omega
    refine lv_istore_n (lv' := [(3, .int z14123), (2, .int z14121), (0, .int p0), (1, .int p1)]) hx hb dX4_inFront_18 rfl hl (by decide) rfl (fun ls hl => ?_)
    refine lv_iload_n hx hb dX4_inFront_19 rfl (lv_at hl 1 rfl) ?_
    refine lv_iconst (v := 2) hx hb dX4_inFront_20 (by decide) ?_
    refine lv_iload_n hx hb dX4_inFront_21 rfl (lv_at hl 2 rfl) ?_
    refine lv_imul hx hb dX4_inFront_22 ?_
    refine lv_topi (fun z14124 ez14124 => ?_)
    have hz14124 : z14124.toInt = 2 * p0.toInt := ar_mul ez14124 (by decide : (2 : Int32).toInt = 2) (rfl : p0.toInt = p0.toInt) (by omega) (by omega)
    have rz14124 : 2 ≤ z14124.toInt ∧ z14124.toInt ≤ 14 := by omega
    refine lv_iconst (v := 2) hx hb dX4_inFront_23 (by decide) ?_
    refine lv_iadd hx hb dX4_inFront_24 ?_
    refine lv_topi (fun z14125 ez14125 => ?_)
    have hz14125 : z14125.toInt = z14124.toInt + 2 := ar_add ez14125 (rfl : z14124.toInt = z14124.toInt) (by decide : (2 : Int32).toInt = 2) (by omega) (by omega)
    have rz14125 : 4 ≤ z14125.toInt ∧ z14125.toInt ≤ 16 := by omega
    refine lv_imul hx hb dX4_inFront_25 ?_
    refine lv_topi (fun z14126 ez14126 => ?_)
    have rz14126 : 0 ≤ z14126.toInt ∧ z14126.toInt ≤ 752 := ar_mulb ez14126 (A := 47) (B := 16) (by omega) (by omega) (by decide) (by decide)
    refine lv_iload_n hx hb dX4_inFront_26 rfl (lv_at hl 0 rfl) ?_
    refine lv_iadd hx hb dX4_inFront_27 ?_
    refine lv_topi (fun z14127 ez14127 => ?_)
    have hz14127 : z14127.toInt = z14126.toInt + z14123.toInt := ar_add ez14127 (rfl : z14126.toInt = z14126.toInt) (rfl : z14123.toInt = z14123.toInt) (by omega) (by omega)
    have rz14127 : 0 ≤ z14127.toInt ∧ z14127.toInt ≤ 765 := by omega
    refine lv_iconst (v := 1) hx hb dX4_inFront_28 (by decide) ?_
    refine lv_iadd hx hb dX4_inFront_29 ?_
    refine lv_topi (fun z14128 ez14128 => ?_)
    have hz14128 : z14128.toInt = z14127.toInt + 1 := ar_add ez14128 (rfl : z14127.toInt = z14127.toInt) (by decide : (1 : Int32).toInt = 1) (by omega) (by omega)
    have rz14128 : 1 ≤ z14128.toInt ∧ z14128.toInt ≤ 766 := by omega
    exact t_iret hQ X hT (⟨rfl, (by omega)⟩) (Nat.le_of_ble_eq_true rfl) (Nat.le_of_ble_eq_true rfl) dX4_inFront_30
  · have w14129 := cv_nle (by decide : (1 : Int32).toInt = 1) (rfl : p0.toInt = p0.toInt) c14118
    refine lv_iconst (v := 0) hx hb dX4_inFront_5 (by decide) ?_
    exact t_iret hQ X hT (⟨rfl, (by decide)⟩) (Nat.le_of_ble_eq_true rfl) (Nat.le_of_ble_eq_true rfl) dX4_inFront_6
set_option maxHeartbeats 4000000 in
set_option maxRecDepth 100000 in
theorem kt58_X4_isCorner (l : Launch) (G : KG) (tag : Nat → Nat) (L : List Nat) (F : Nat → va_E) (ho : okT G ttC tag L F) (p0 : Int32) (p1 : Int32)  : TMi l yX4_isCorner cX4_isCorner 2 (some .boolean) { frames := 0, cells := 0, slots := 0, locals := 0 } G ttC tag L F [.int p0, .int p1] (fun r F1 => F1 = F ∧ (0 ≤ r.toInt ∧ r.toInt ≤ 1)) := by
  refine t_bodyi (y := yX4_isCorner) (cd := cX4_isCorner) (mL := 2) (rt := (some .boolean)) (rm := { frames := 0, cells := 0, slots := 0, locals := 0 }) (av := [.int p0, .int p1]) (by decide) (Nat.le_of_ble_eq_true rfl) ho ?_
  intro p e s m args below meth c ls A Q hQ X hT hl
  have hx := X.1.1
  have hb := X.1.2.1
  have hl : lv_has ls 2 [(0, .int p0), (1, .int p1)] := hl
  have rp0 := rg_all p0
  have rp1 := rg_all p1
  have K13 : ∀  (H : Heap) (locs : List Loc) (ls : Array Slot), TH G ttC A s tag L F H locs → lv_has ls 2 [(0, .int p0), (1, .int p1)] → W p l e { frames := 0, cells := 0, slots := 0, locals := 0 } s m args below meth c H locs 0 0 Q (F0 m 13 ls []) := by
    intro H locs ls hT hl
    refine lv_iconst (v := 1) hx hb dX4_isCorner_13 (by decide) ?_
    refine lv_goto (tgt := 18) hx hb dX4_isCorner_14 (by decide) ?_
    exact t_zret hQ X hT (by decide) (⟨rfl, (by decide)⟩) (Nat.le_of_ble_eq_true rfl) (Nat.le_of_ble_eq_true rfl) dX4_isCorner_18
  refine lv_iload_n hx hb dX4_isCorner_0 rfl (lv_at hl 0 rfl) ?_
  refine lv_iconst (v := 1) hx hb dX4_isCorner_1 (by decide) ?_
  refine lv_icmp_lt (tgt := 13) hx hb dX4_isCorner_2 (by decide) (fun c14219 => ?_) (fun c14219 => ?_)
  · have w14220 := cv_lt (rfl : p0.toInt = p0.toInt) (by decide : (1 : Int32).toInt = 1) c14219
    exact K13  _ _ _  hT  (lv_sub hl [0, 1] rfl)
  · have w14221 := cv_nlt (rfl : p0.toInt = p0.toInt) (by decide : (1 : Int32).toInt = 1) c14219
    refine lv_iload_n hx hb dX4_isCorner_5 rfl (lv_at hl 1 rfl) ?_
    refine lv_iconst (v := 2) hx hb dX4_isCorner_6 (by decide) ?_
    refine lv_iload_n hx hb dX4_isCorner_7 rfl (lv_at hl 0 rfl) ?_
    refine lv_imul hx hb dX4_isCorner_8 ?_
    refine lv_topi (fun z14222 ez14222 => ?_)
    have rz14222 := rg_all z14222
    refine lv_irem hx hb dX4_isCorner_9 (mul2_ne ez14222 (by omega)) ?_
    refine lv_topi (fun z14223 ez14223 => ?_)
    have rz14223 := rg_all z14223
    refine lv_if_ne (tgt := 17) hx hb dX4_isCorner_10 (by decide) (fun c14224 => ?_) (fun c14224 => ?_)
    · have w14225 := cv_ne (rfl : z14223.toInt = z14223.toInt) (by decide : (0 : Int32).toInt = 0) c14224
      refine lv_iconst (v := 0) hx hb dX4_isCorner_17 (by decide) ?_
      exact t_zret hQ X hT (by decide) (⟨rfl, (by decide)⟩) (Nat.le_of_ble_eq_true rfl) (Nat.le_of_ble_eq_true rfl) dX4_isCorner_18
    · have w14226 := cv_eq (rfl : z14223.toInt = z14223.toInt) (by decide : (0 : Int32).toInt = 0) c14224
      exact K13  _ _ _  hT  (lv_sub hl [0, 1] rfl)
set_option maxHeartbeats 4000000 in
set_option maxRecDepth 100000 in
theorem kt59_X0_goIn (l : Launch) (G : KG) (tag : Nat → Nat) (L : List Nat) (Fo : Nat → va_E) (ho : okT G ttC tag L Fo) (p0 : Nat) (p1 : Nat) (p2 : Nat) (p3 : Int32) (p4 : Int32) (m0 : p0 ∈ L) (g0 : tag p0 = 21) (m1 : p1 ∈ L) (g1 : tag p1 = 18) (m2 : p2 ∈ L) (g2 : tag p2 = 19) (h3 : 0 ≤ p3.toInt ∧ p3.toInt ≤ 3) (h4 : (-2147483648) ≤ p4.toInt ∧ p4.toInt ≤ 7) : TMv l yX0_goIn cX0_goIn 10 { frames := 4, cells := 0, slots := 0, locals := 92 } G ttC tag L Fo [.ref p0, .ref p1, .ref p2, .int p3, .int p4] (fun F1 => ∀ b j : Nat, (tag b ≠ 21 ∨ j ≠ 0) → (tag b ≠ 21 ∨ j ≠ 1) → fld F1 b j = fld Fo b j) := by
  refine t_bodyv (y := yX0_goIn) (cd := cX0_goIn) (mL := 10) (rm := { frames := 4, cells := 0, slots := 0, locals := 92 }) (av := [.ref p0, .ref p1, .ref p2, .int p3, .int p4]) (by decide) (Nat.le_of_ble_eq_true rfl) ho ?_
  intro p e s m args below meth c ls A Q hQ X hT hl
  have hx := X.1.1
  have hb := X.1.2.1
  have hl : lv_has ls 10 [(0, .ref p0), (1, .ref p1), (2, .ref p2), (3, .int p3), (4, .int p4)] := hl
  obtain ⟨F, hFo⟩ : ∃ F : Nat → va_E, F = Fo := ⟨_, rfl⟩
  rw [← hFo] at hT
  have hfr : ∀ b j : Nat, (tag b ≠ 21 ∨ j ≠ 0) → (tag b ≠ 21 ∨ j ≠ 1) → fld F b j = fld Fo b j := by
    rw [hFo]
    intros
    rfl
  have K127 : ∀ (z15587 : Int32) (z15588 : Int32) (z15589 : Int32) (z15590 : Int32) (F : Nat → va_E) (H : Heap) (locs : List Loc) (ls : Array Slot), (0 ≤ z15590.toInt ∧ z15590.toInt ≤ 48) → TH G ttC A s tag L F H locs → (∀ b j : Nat, (tag b ≠ 21 ∨ j ≠ 0) → (tag b ≠ 21 ∨ j ≠ 1) → fld F b j = fld Fo b j) → lv_has ls 10 [(0, .ref p0), (1, .ref p1), (2, .ref p2), (3, .int p3), (4, .int p4), (5, .int z15587), (6, .int z15588), (7, .int z15589), (8, .int z15590)] → W p l e { frames := 4, cells := 0, slots := 0, locals := 92 } s m args below meth c H locs 0 0 Q (F0 m 127 ls []) := by
    intro z15587 z15588 z15589 z15590 F H locs ls rz15590 hT hfr hl
    have rz15587 := rg_all z15587
    have rz15588 := rg_all z15588
    have rz15589 := rg_all z15589
    refine lv_aload_n hx hb dX0_goIn_127 rfl (lv_at hl 0 rfl) ?_
    refine t_get (C := RX0) (T := TX0) (N := 2) X hT m0 g0 rfl rfl 0 (by decide) qw_88 inlX0 rfl dX0_goIn_128 (fun v15591 hv15591 ov15591 => ?_)
    obtain ⟨b15592, rfl, mb15592, gb15592⟩ := okV_r ov15591
    have gb15592 : tag b15592 = 12 := tg_of gb15592
    refine lv_astore (lv' := [(8, .ref b15592), (0, .ref p0), (1, .ref p1), (2, .ref p2), (3, .int p3), (4, .int p4), (5, .int z15587), (6, .int z15588), (7, .int z15589)]) hx hb dX0_goIn_131 hl (by decide) rfl (fun ls hl => ?_)
    refine lv_aload_n hx hb dX0_goIn_133 rfl (lv_at hl 1 rfl) ?_
    refine lv_aload_n hx hb dX0_goIn_134 rfl (lv_at hl 1 rfl) ?_
    refine t_get (C := RX0) (T := TX0) (N := 2) X hT m0 g0 rfl rfl 1 (by decide) qw_89 inlX0 rfl dX0_goIn_135 (fun v15593 hv15593 ov15593 => ?_)
    obtain ⟨b15594, rfl, mb15594, gb15594⟩ := okV_r ov15593
    have gb15594 : tag b15594 = 12 := tg_of gb15594
    refine t_put (C := RX0) (T := TX0) (N := 2) (v := .ref b15594) X hT m0 g0 rfl tyX0 tyX0_ok nmX0 rfl 0 (by decide) qw_88 inlX0 rfl (by first | rfl | decide) (by first | rfl | decide) rfl (⟨_, rfl, mb15594, by rw [gb15594]; rfl⟩) dX0_goIn_138 (fun F H locs hT v15595 h1v15595 h2v15595 => ?_)
    have hv15593 := (h1v15595 _ _ (Or.inr (by decide))).trans hv15593
    have hfr : ∀ b j : Nat, (tag b ≠ 21 ∨ j ≠ 0) → (tag b ≠ 21 ∨ j ≠ 1) → fld F b j = fld Fo b j := fun b j n21_0 n21_1 => (h1v15595 b j (fr_ne g0 n21_0)).trans (hfr b j n21_0 n21_1)
    refine lv_aload_n hx hb dX0_goIn_141 rfl (lv_at hl 1 rfl) ?_
    refine lv_aload hx hb dX0_goIn_142 (lv_at hl 0 rfl) ?_
    refine t_put (C := RX0) (T := TX0) (N := 2) (v := .ref b15592) X hT m0 g0 rfl tyX0 tyX0_ok nmX0 rfl 1 (by decide) qw_89 inlX0 rfl (by first | rfl | decide) (by first | rfl | decide) rfl (⟨_, rfl, mb15592, by rw [gb15592]; rfl⟩) dX0_goIn_144 (fun F H locs hT v15596 h1v15596 h2v15596 => ?_)
    have v15595 := (h1v15596 _ _ (Or.inr (by decide))).trans v15595
    have hfr : ∀ b j : Nat, (tag b ≠ 21 ∨ j ≠ 0) → (tag b ≠ 21 ∨ j ≠ 1) → fld F b j = fld Fo b j := fun b j n21_0 n21_1 => (h1v15596 b j (fr_ne g0 n21_1)).trans (hfr b j n21_0 n21_1)
    exact t_vret hQ X hT hfr (Nat.le_of_ble_eq_true rfl) (Nat.le_of_ble_eq_true rfl) dX0_goIn_147
  have K43 : ∀ (n : Nat) (z15597 : Int32) (z15598 : Int32) (z15599 : Int32) (z15600 : Int32) (F : Nat → va_E) (H : Heap) (locs : List Loc) (ls : Array Slot), (48 - z15600.toInt < (n : Int)) → (0 ≤ z15600.toInt ∧ z15600.toInt ≤ 48) → TH G ttC A s tag L F H locs → (∀ b j : Nat, (tag b ≠ 21 ∨ j ≠ 0) → (tag b ≠ 21 ∨ j ≠ 1) → fld F b j = fld Fo b j) → lv_has ls 10 [(0, .ref p0), (1, .ref p1), (2, .ref p2), (3, .int p3), (4, .int p4), (5, .int z15597), (6, .int z15598), (7, .int z15599), (8, .int z15600)] → W p l e { frames := 4, cells := 0, slots := 0, locals := 92 } s m args below meth c H locs 0 0 Q (F0 m 43 ls []) := by
    intro n
    induction n with
    | zero =>
      intro z15597 z15598 z15599 z15600 F H locs ls hn rz15600 hT hfr hl
      have rz15597 := rg_all z15597
      have rz15598 := rg_all z15598
      have rz15599 := rg_all z15599
      exfalso
      omega
    | succ n ih43 =>
      intro z15597 z15598 z15599 z15600 F H locs ls hn rz15600 hT hfr hl
      have rz15597 := rg_all z15597
      have rz15598 := rg_all z15598
      have rz15599 := rg_all z15599
      have K121 : ∀ (z15602 : Int32) (F : Nat → va_E) (H : Heap) (locs : List Loc) (ls : Array Slot), (0 ≤ z15602.toInt ∧ z15602.toInt ≤ 766) → (0 ≤ z15600.toInt ∧ z15600.toInt ≤ 47) → TH G ttC A s tag L F H locs → (∀ b j : Nat, (tag b ≠ 21 ∨ j ≠ 0) → (tag b ≠ 21 ∨ j ≠ 1) → fld F b j = fld Fo b j) → lv_has ls 10 [(0, .ref p0), (1, .ref p1), (2, .ref p2), (3, .int p3), (4, .int p4), (5, .int z15597), (6, .int z15598), (7, .int z15599), (8, .int z15600), (9, .int z15602)] → W p l e { frames := 4, cells := 0, slots := 0, locals := 92 } s m args below meth c H locs 0 0 Q (F0 m 121 ls []) := by
        intro z15602 F H locs ls rz15602 r9s15601 hT hfr hl
        obtain ⟨z15603, ez15603⟩ : ∃ y : Int32, y = z15600 + 1 := ⟨_, rfl⟩
        have hz15603 : z15603.toInt = z15600.toInt + 1 := ar_add ez15603 rfl (by decide : (1 : Int32).toInt = 1) (by omega) (by omega)
        refine lv_iinc (v := z15603) (lv' := [(8, .int z15603), (0, .ref p0), (1, .ref p1), (2, .ref p2), (3, .int p3), (4, .int p4), (5, .int z15597), (6, .int z15598), (7, .int z15599), (9, .int z15602)]) hx hb dX0_goIn_121 hl (k := 8) rfl (by rw [ez15603]; rfl) (by decide) rfl (fun ls hl => ?_)
        refine lv_goto (tgt := 43) hx hb dX0_goIn_124 (by decide) ?_
        exact ih43 z15597 z15598 z15599 z15603 _ _ _ _ (by omega) (by omega) hT hfr  (lv_sub hl [1, 2, 3, 4, 5, 6, 7, 8, 0] rfl)
      have K119 : ∀ (z15605 : Int32) (z15606 : Int32) (z15607 : Int32) (z15608 : Int32) (b15609 : Nat) (F : Nat → va_E) (H : Heap) (locs : List Loc) (ls : Array Slot), (0 ≤ z15605.toInt ∧ z15605.toInt ≤ 47) → (0 ≤ z15608.toInt ∧ z15608.toInt ≤ 47) → (b15609 ∈ L) → (tag b15609 = 12) → (0 ≤ z15600.toInt ∧ z15600.toInt ≤ 47) → TH G ttC A s tag L F H locs → (∀ b j : Nat, (tag b ≠ 21 ∨ j ≠ 0) → (tag b ≠ 21 ∨ j ≠ 1) → fld F b j = fld Fo b j) → lv_has ls 10 [(0, .ref p0), (1, .ref p1), (2, .ref p2), (3, .int p3), (4, .int p4), (5, .int z15597), (6, .int z15598), (7, .int z15599), (8, .int z15600), (9, .int z15605)] → W p l e { frames := 4, cells := 0, slots := 0, locals := 92 } s m args below meth c H locs 0 0 Q (F0 m 119 ls [.int z15606, .int z15607, .int z15608, .ref b15609]) := by
        intro z15605 z15606 z15607 z15608 b15609 F H locs ls rz15605 rz15608 mb15609 gb15609 r9s15604 hT hfr hl
        have rz15606 := rg_all z15606
        have rz15607 := rg_all z15607
        refine lv_iadd hx hb dX0_goIn_119 ?_
        refine lv_topi (fun z15610 ez15610 => ?_)
        have rz15610 := rg_all z15610
        refine t_ist X hT mb15609 gb15609 rfl (by omega) (show (-2147483648) ≤ (z15610 : Int32).toInt ∧ (z15610 : Int32).toInt ≤ 2147483647 from (by omega)) dX0_goIn_120 (fun F H locs hT v15611 h1v15611 h2v15611 => ?_)
        have hfr : ∀ b j : Nat, (tag b ≠ 21 ∨ j ≠ 0) → (tag b ≠ 21 ∨ j ≠ 1) → fld F b j = fld Fo b j := fun b j n21_0 n21_1 => (h2v15611 b j).trans (hfr b j n21_0 n21_1)
        exact K121 z15605 _ _ _ _ (by omega) (by omega) hT hfr  (lv_sub hl [0, 1, 2, 3, 4, 5, 6, 7, 8, 9] rfl)
      refine lv_iload hx hb dX0_goIn_43 (lv_at hl 8 rfl) ?_
      refine lv_bipush (v := 8) hx hb dX0_goIn_45 (by decide) ?_
      refine lv_iload hx hb dX0_goIn_47 (lv_at hl 4 rfl) ?_
      refine lv_imul hx hb dX0_goIn_49 ?_
      refine lv_topi (fun z15612 ez15612 => ?_)
      have rz15612 := rg_all z15612
      refine lv_icmp_ge (tgt := 127) hx hb dX0_goIn_50 (by decide) (fun c15613 => ?_) (fun c15613 => ?_)
      · have w15614 := cv_le (rfl : z15612.toInt = z15612.toInt) (rfl : z15600.toInt = z15600.toInt) c15613
        exact K127 z15597 z15598 z15599 z15600 _ _ _ _ (by omega) hT hfr  (lv_sub hl [0, 1, 2, 3, 4, 5, 6, 7, 8] rfl)
      · have w15615 := cv_nle (rfl : z15612.toInt = z15612.toInt) (rfl : z15600.toInt = z15600.toInt) c15613
        refine lv_iload hx hb dX0_goIn_53 (lv_at hl 8 rfl) ?_
        refine lv_aload_n hx hb dX0_goIn_55 rfl (lv_at hl 0 rfl) ?_
        refine t_get (C := RX0) (T := TX0) (N := 2) X hT m0 g0 rfl rfl 1 (by decide) qw_89 inlX0 rfl dX0_goIn_56 (fun v15616 hv15616 ov15616 => ?_)
        obtain ⟨b15617, rfl, mb15617, gb15617⟩ := okV_r ov15616
        have gb15617 : tag b15617 = 12 := tg_of gb15617
        refine t_alen X hT mb15617 gb15617 rfl (by decide) dX0_goIn_59 ?_
        refine lv_topi (fun z15618 ez15618 => ?_)
        obtain rfl : z15618 = 48 := ez15618.trans (by rfl)
        refine lv_icmp_ge (tgt := 127) hx hb dX0_goIn_60 (by decide) (fun c15619 => ?_) (fun c15619 => ?_)
        · have w15620 := cv_le (by decide : (48 : Int32).toInt = 48) (rfl : z15600.toInt = z15600.toInt) c15619
          exact K127 z15597 z15598 z15599 z15600 _ _ _ _ (by omega) hT hfr  (lv_sub hl [0, 1, 2, 3, 4, 5, 6, 7, 8] rfl)
        · have w15621 := cv_nle (by decide : (48 : Int32).toInt = 48) (rfl : z15600.toInt = z15600.toInt) c15619
          refine lv_iload hx hb dX0_goIn_63 (lv_at hl 4 rfl) ?_
          refine lv_iload hx hb dX0_goIn_65 (lv_at hl 8 rfl) ?_
          refine t_cSi (n := 2) (As := [.int p4, .int z15600]) (rest := []) X hT (kt57_X4_inFront l G tag L F hT.2.2.2 p4 z15600 (by omega) (by omega)) qw_1044 qw_923 qw_409 qw_924 ⟨by decide +kernel, by decide +kernel, by decide +kernel⟩ ⟨Nat.le_of_ble_eq_true rfl, Nat.le_of_ble_eq_true rfl⟩ hl rfl rfl (Nat.le_of_ble_eq_true rfl) dX0_goIn_67 ⟨Nat.le_of_ble_eq_true rfl, Nat.le_of_ble_eq_true rfl⟩ (fun z15622 F9 H locs hT hz15622 => ?_)
          obtain ⟨fz15622, hz15622⟩ := hz15622
          rw [fz15622] at hT
          refine lv_istore (lv' := [(9, .int z15622), (0, .ref p0), (1, .ref p1), (2, .ref p2), (3, .int p3), (4, .int p4), (5, .int z15597), (6, .int z15598), (7, .int z15599), (8, .int z15600)]) hx hb dX0_goIn_70 hl (by decide) rfl (fun ls hl => ?_)
          refine lv_iload hx hb dX0_goIn_72 (lv_at hl 5 rfl) ?_
          refine lv_iload hx hb dX0_goIn_74 (lv_at hl 9 rfl) ?_
          refine t_cSi (n := 2) (As := [.int p4, .int z15600]) (rest := []) X hT (kt58_X4_isCorner l G tag L F hT.2.2.2 p4 z15600 ) qw_1045 qw_1046 qw_409 qw_1047 ⟨by decide +kernel, by decide +kernel, by decide +kernel⟩ ⟨Nat.le_of_ble_eq_true rfl, Nat.le_of_ble_eq_true rfl⟩ hl rfl rfl (Nat.le_of_ble_eq_true rfl) dX0_goIn_76 ⟨Nat.le_of_ble_eq_true rfl, Nat.le_of_ble_eq_true rfl⟩ (fun z15623 F9 H locs hT hz15623 => ?_)
          obtain ⟨fz15623, hz15623⟩ := hz15623
          rw [fz15623] at hT
          refine lv_if_ne (tgt := 121) hx hb dX0_goIn_79 (by decide) (fun c15624 => ?_) (fun c15624 => ?_)
          · have w15625 := cv_ne (rfl : z15623.toInt = z15623.toInt) (by decide : (0 : Int32).toInt = 0) c15624
            exact K121 z15622 _ _ _ _ (by omega) (by omega) hT hfr  (lv_sub hl [1, 2, 3, 4, 5, 6, 7, 8, 9, 0] rfl)
          · have w15626 := cv_eq (rfl : z15623.toInt = z15623.toInt) (by decide : (0 : Int32).toInt = 0) c15624
            refine lv_iload hx hb dX0_goIn_82 (lv_at hl 0 rfl) ?_
            refine lv_aload_n hx hb dX0_goIn_84 rfl (lv_at hl 1 rfl) ?_
            refine t_get (C := RX0) (T := TX0) (N := 2) X hT m0 g0 rfl rfl 0 (by decide) qw_88 inlX0 rfl dX0_goIn_85 (fun v15627 hv15627 ov15627 => ?_)
            obtain ⟨b15628, rfl, mb15628, gb15628⟩ := okV_r ov15627
            have gb15628 : tag b15628 = 12 := tg_of gb15628
            refine t_alen X hT mb15628 gb15628 rfl (by decide) dX0_goIn_88 ?_
            refine lv_topi (fun z15629 ez15629 => ?_)
            obtain rfl : z15629 = 48 := ez15629.trans (by rfl)
            refine lv_icmp_ge (tgt := 121) hx hb dX0_goIn_89 (by decide) (fun c15630 => ?_) (fun c15630 => ?_)
            · have w15631 := cv_le (by decide : (48 : Int32).toInt = 48) (rfl : z15622.toInt = z15622.toInt) c15630
              exact K121 z15622 _ _ _ _ (by omega) (by omega) hT hfr  (lv_sub hl [1, 2, 3, 4, 5, 6, 7, 8, 9, 0] rfl)
            · have w15632 := cv_nle (by decide : (48 : Int32).toInt = 48) (rfl : z15622.toInt = z15622.toInt) c15630
              refine lv_aload_n hx hb dX0_goIn_92 rfl (lv_at hl 1 rfl) ?_
              refine t_get (C := RX0) (T := TX0) (N := 2) X hT m0 g0 rfl rfl 1 (by decide) qw_89 inlX0 rfl dX0_goIn_93 (fun v15633 hv15633 ov15633 => ?_)
              obtain rfl : v15633 = .ref b15617 := hv15633.symm.trans hv15616
              refine lv_iload hx hb dX0_goIn_96 (lv_at hl 9 rfl) ?_
              refine lv_aload_n hx hb dX0_goIn_98 rfl (lv_at hl 1 rfl) ?_
              refine t_get (C := RX0) (T := TX0) (N := 2) X hT m0 g0 rfl rfl 0 (by decide) qw_88 inlX0 rfl dX0_goIn_99 (fun v15634 hv15634 ov15634 => ?_)
              obtain rfl : v15634 = .ref b15628 := hv15634.symm.trans hv15627
              refine lv_iload hx hb dX0_goIn_102 (lv_at hl 0 rfl) ?_
              refine t_ild X hT mb15628 gb15628 rfl (by omega) dX0_goIn_104 (fun z15635 vz15635 rz15635 => ?_)
              have rz15635 : (-2147483648) ≤ z15635.toInt ∧ z15635.toInt ≤ 2147483647 := rz15635
              refine lv_iload hx hb dX0_goIn_105 (lv_at hl 9 rfl) ?_
              refine lv_iload hx hb dX0_goIn_107 (lv_at hl 6 rfl) ?_
              refine lv_icmp_ne (tgt := 117) hx hb dX0_goIn_109 (by decide) (fun c15636 => ?_) (fun c15636 => ?_)
              · have w15637 := cv_ne (rfl : z15600.toInt = z15600.toInt) (rfl : z15597.toInt = z15597.toInt) c15636
                refine lv_iload hx hb dX0_goIn_117 (lv_at hl 7 rfl) ?_
                exact K119 z15622 z15598 z15635 z15600 b15617 _ _ _ _ (by omega) (by omega) mb15617 gb15617 (by omega) hT hfr  (lv_sub hl [1, 2, 3, 4, 5, 6, 7, 8, 9, 0] rfl)
              · have w15638 := cv_eq (rfl : z15600.toInt = z15600.toInt) (rfl : z15597.toInt = z15597.toInt) c15636
                refine lv_iload hx hb dX0_goIn_112 (lv_at hl 8 rfl) ?_
                refine lv_goto (tgt := 119) hx hb dX0_goIn_114 (by decide) ?_
                exact K119 z15622 z15599 z15635 z15600 b15617 _ _ _ _ (by omega) (by omega) mb15617 gb15617 (by omega) hT hfr  (lv_sub hl [1, 2, 3, 4, 5, 6, 7, 8, 9, 0] rfl)
  refine lv_aload_n hx hb dX0_goIn_0 rfl (lv_at hl 2 rfl) ?_
  refine lv_iload_n hx hb dX0_goIn_1 rfl (lv_at hl 3 rfl) ?_
  refine lv_iload hx hb dX0_goIn_2 (lv_at hl 4 rfl) ?_
  refine t_cVi (n := 2) (C := RX7) (T := TX7) (N := 7) (As := [.int p3, .int p4]) (rest := []) X hT (kt29_X7_doorOf l G tag L F hT.2.2.2 p2 p3 p4 m2 g2) m2 g2 rfl rfl qw_1024 qw_918 qw_919 qw_22 qw_920 ⟨rfl, by decide +kernel, by decide +kernel, by decide +kernel⟩ ⟨Nat.le_of_ble_eq_true rfl, Nat.le_of_ble_eq_true rfl⟩ hl rfl rfl (Nat.le_of_ble_eq_true rfl) dX0_goIn_4 ⟨Nat.le_of_ble_eq_true rfl, Nat.le_of_ble_eq_true rfl⟩ (fun z15639 F9 H locs hT hz15639 => ?_)
  obtain ⟨fz15639, hz15639⟩ := hz15639
  rw [fz15639] at hT
  refine lv_istore (lv' := [(5, .int z15639), (0, .ref p0), (1, .ref p1), (2, .ref p2), (3, .int p3), (4, .int p4)]) hx hb dX0_goIn_7 hl (by decide) rfl (fun ls hl => ?_)
  refine lv_aload_n hx hb dX0_goIn_9 rfl (lv_at hl 2 rfl) ?_
  refine lv_aload_n hx hb dX0_goIn_10 rfl (lv_at hl 3 rfl) ?_
  refine lv_iload_n hx hb dX0_goIn_11 rfl (lv_at hl 4 rfl) ?_
  refine lv_iload hx hb dX0_goIn_12 (lv_at hl 5 rfl) ?_
  refine t_cSi (n := 4) (As := [.ref p1, .ref p2, .int p3, .int p4]) (rest := []) X hT (kt54_X0_byWall l G tag L F hT.2.2.2 p1 p2 p3 p4 m1 g1 m2 g2) qw_1031 qw_1032 qw_36 qw_1033 ⟨by decide +kernel, by decide +kernel, by decide +kernel⟩ ⟨Nat.le_of_ble_eq_true rfl, Nat.le_of_ble_eq_true rfl⟩ hl rfl rfl (Nat.le_of_ble_eq_true rfl) dX0_goIn_14 ⟨Nat.le_of_ble_eq_true rfl, Nat.le_of_ble_eq_true rfl⟩ (fun z15640 F9 H locs hT hz15640 => ?_)
  obtain ⟨fz15640, hz15640⟩ := hz15640
  rw [fz15640] at hT
  refine lv_istore (lv' := [(6, .int z15640), (5, .int z15639), (0, .ref p0), (1, .ref p1), (2, .ref p2), (3, .int p3), (4, .int p4)]) hx hb dX0_goIn_17 hl (by decide) rfl (fun ls hl => ?_)
  refine lv_iload hx hb dX0_goIn_19 (lv_at hl 0 rfl) ?_
  refine lv_aload_n hx hb dX0_goIn_21 rfl (lv_at hl 4 rfl) ?_
  refine lv_iload_n hx hb dX0_goIn_22 rfl (lv_at hl 5 rfl) ?_
  refine lv_iload hx hb dX0_goIn_23 (lv_at hl 6 rfl) ?_
  refine t_cSi (n := 3) (As := [.ref p2, .int p3, .int p4]) (rest := [.int z15640]) X hT (kt53_X0_byDoor l G tag L F hT.2.2.2 p2 p3 p4 m2 g2) qw_1025 qw_1026 qw_36 qw_1027 ⟨by decide +kernel, by decide +kernel, by decide +kernel⟩ ⟨Nat.le_of_ble_eq_true rfl, Nat.le_of_ble_eq_true rfl⟩ hl rfl rfl (Nat.le_of_ble_eq_true rfl) dX0_goIn_25 ⟨Nat.le_of_ble_eq_true rfl, Nat.le_of_ble_eq_true rfl⟩ (fun z15641 F9 H locs hT hz15641 => ?_)
  obtain ⟨fz15641, hz15641⟩ := hz15641
  rw [fz15641] at hT
  refine t_mmin X hl qw_1017 qw_1018 qw_850 qw_1019 (Nat.le_of_ble_eq_true rfl) (Nat.le_of_ble_eq_true rfl) (Nat.le_of_ble_eq_true rfl) (Nat.le_of_ble_eq_true rfl) dX0_goIn_28 (fun z15642 ez15642 => ?_)
  have hz15642 := mmin_e ez15642 (rfl : z15640.toInt = z15640.toInt) (rfl : z15641.toInt = z15641.toInt)
  refine lv_istore (lv' := [(7, .int z15642), (6, .int z15640), (5, .int z15639), (0, .ref p0), (1, .ref p1), (2, .ref p2), (3, .int p3), (4, .int p4)]) hx hb dX0_goIn_31 hl (by decide) rfl (fun ls hl => ?_)
  refine lv_aload_n hx hb dX0_goIn_33 rfl (lv_at hl 3 rfl) ?_
  refine t_get (C := RX0) (T := TX0) (N := 2) X hT m0 g0 rfl rfl 1 (by decide) qw_89 inlX0 rfl dX0_goIn_34 (fun v15643 hv15643 ov15643 => ?_)
  obtain ⟨b15644, rfl, mb15644, gb15644⟩ := okV_r ov15643
  have gb15644 : tag b15644 = 12 := tg_of gb15644
  refine t_cSv (n := 1) (As := [.ref b15644]) (rest := []) X hT (kt52_X0_empty l G tag L F hT.2.2.2 b15644 mb15644 gb15644) qw_1020 qw_1021 qw_36 qw_1022 ⟨by decide +kernel, by decide +kernel, by decide +kernel⟩ ⟨Nat.le_of_ble_eq_true rfl, Nat.le_of_ble_eq_true rfl⟩ hl rfl rfl (Nat.le_of_ble_eq_true rfl) dX0_goIn_37 ⟨Nat.le_of_ble_eq_true rfl, Nat.le_of_ble_eq_true rfl⟩ (fun F H locs hT hz15645 => ?_)
  have yz15645 := hz15645
  have hv15643 := (yz15645 _ 1 ).trans hv15643
  have hfr : ∀ b j : Nat, (tag b ≠ 21 ∨ j ≠ 0) → (tag b ≠ 21 ∨ j ≠ 1) → fld F b j = fld Fo b j := fun b j n21_0 n21_1 => (yz15645 b j ).trans (hfr b j n21_0 n21_1)
  refine lv_iconst (v := 0) hx hb dX0_goIn_40 (by decide) ?_
  refine lv_istore (lv' := [(8, .int 0), (7, .int z15642), (6, .int z15640), (5, .int z15639), (0, .ref p0), (1, .ref p1), (2, .ref p2), (3, .int p3), (4, .int p4)]) hx hb dX0_goIn_41 hl (by decide) rfl (fun ls hl => ?_)
  have kk15646 : (0 : Int32).toInt = 0 := by decide
  exact K43 49 z15639 z15640 z15642 0 _ _ _ _ (by omega) (by decide) hT hfr  (lv_sub hl [4, 5, 6, 7, 8, 3, 2, 1, 0] rfl)
set_option maxHeartbeats 4000000 in
set_option maxRecDepth 100000 in
theorem kt60_X0_cheapest (l : Launch) (G : KG) (tag : Nat → Nat) (L : List Nat) (Fo : Nat → va_E) (ho : okT G ttC tag L Fo) (p0 : Nat) (p1 : Nat) (p2 : Nat) (p3 : Int32) (p4 : Int32) (m0 : p0 ∈ L) (g0 : tag p0 = 21) (m1 : p1 ∈ L) (g1 : tag p1 = 18) (m2 : p2 ∈ L) (g2 : tag p2 = 19) (h3 : 0 ≤ p3.toInt ∧ p3.toInt ≤ 3) : TMi l yX0_cheapest cX0_cheapest 9 (some .int) { frames := 5, cells := 0, slots := 0, locals := 121 } G ttC tag L Fo [.ref p0, .ref p1, .ref p2, .int p3, .int p4] (fun r F1 => ((-2147483648) ≤ r.toInt ∧ r.toInt ≤ 1000008) ∧ (∀ b j : Nat, (tag b ≠ 21 ∨ j ≠ 0) → (tag b ≠ 21 ∨ j ≠ 1) → fld F1 b j = fld Fo b j)) := by
  refine t_bodyi (y := yX0_cheapest) (cd := cX0_cheapest) (mL := 9) (rt := (some .int)) (rm := { frames := 5, cells := 0, slots := 0, locals := 121 }) (av := [.ref p0, .ref p1, .ref p2, .int p3, .int p4]) (by decide) (Nat.le_of_ble_eq_true rfl) ho ?_
  intro p e s m args below meth c ls A Q hQ X hT hl
  have hx := X.1.1
  have hb := X.1.2.1
  have hl : lv_has ls 9 [(0, .ref p0), (1, .ref p1), (2, .ref p2), (3, .int p3), (4, .int p4)] := hl
  have rp4 := rg_all p4
  obtain ⟨F, hFo⟩ : ∃ F : Nat → va_E, F = Fo := ⟨_, rfl⟩
  rw [← hFo] at hT
  have hfr : ∀ b j : Nat, (tag b ≠ 21 ∨ j ≠ 0) → (tag b ≠ 21 ∨ j ≠ 1) → fld F b j = fld Fo b j := by
    rw [hFo]
    intros
    rfl
  have K91 : ∀ (n : Nat) (z16149 : Int32) (z16150 : Int32) (z16151 : Int32) (z16152 : Int32) (F : Nat → va_E) (H : Heap) (locs : List Loc) (ls : Array Slot), (z16152.toInt - 0 < (n : Int)) → (1 ≤ z16149.toInt ∧ z16149.toInt ≤ 6) → (1 ≤ z16150.toInt ∧ z16150.toInt ≤ 2147483647) → (0 ≤ z16152.toInt ∧ z16152.toInt ≤ 5) → TH G ttC A s tag L F H locs → (∀ b j : Nat, (tag b ≠ 21 ∨ j ≠ 0) → (tag b ≠ 21 ∨ j ≠ 1) → fld F b j = fld Fo b j) → lv_has ls 9 [(0, .ref p0), (1, .ref p1), (2, .ref p2), (3, .int p3), (4, .int p4), (5, .int z16149), (6, .int z16150), (7, .int z16151), (8, .int z16152)] → W p l e { frames := 5, cells := 0, slots := 0, locals := 121 } s m args below meth c H locs 0 0 Q (F0 m 91 ls []) := by
    intro n
    induction n with
    | zero =>
      intro z16149 z16150 z16151 z16152 F H locs ls hn rz16149 rz16150 rz16152 hT hfr hl
      have rz16151 := rg_all z16151
      exfalso
      omega
    | succ n ih91 =>
      intro z16149 z16150 z16151 z16152 F H locs ls hn rz16149 rz16150 rz16152 hT hfr hl
      have rz16151 := rg_all z16151
      refine lv_iload hx hb dX0_cheapest_91 (lv_at hl 8 rfl) ?_
      refine lv_iload hx hb dX0_cheapest_93 (lv_at hl 6 rfl) ?_
      refine lv_icmp_lt (tgt := 121) hx hb dX0_cheapest_95 (by decide) (fun c16153 => ?_) (fun c16153 => ?_)
      · have w16154 := cv_lt (rfl : z16152.toInt = z16152.toInt) (rfl : z16150.toInt = z16150.toInt) c16153
        refine lv_aload_n hx hb dX0_cheapest_121 rfl (lv_at hl 0 rfl) ?_
        refine lv_bipush (v := 8) hx hb dX0_cheapest_122 (by decide) ?_
        refine lv_iload hx hb dX0_cheapest_124 (lv_at hl 6 rfl) ?_
        refine lv_imul hx hb dX0_cheapest_126 ?_
        refine lv_topi (fun z16155 ez16155 => ?_)
        have rz16155 := rg_all z16155
        refine t_cVi (n := 1) (C := RX0) (T := TX0) (N := 2) (As := [.int z16155]) (rest := []) X hT (kt55_X0_least l G tag L F hT.2.2.2 p0 z16155 m0 g0) m0 g0 rfl rfl qw_1048 qw_1049 qw_1050 qw_36 qw_1051 ⟨rfl, by decide +kernel, by decide +kernel, by decide +kernel⟩ ⟨Nat.le_of_ble_eq_true rfl, Nat.le_of_ble_eq_true rfl⟩ hl rfl rfl (Nat.le_of_ble_eq_true rfl) dX0_cheapest_127 ⟨Nat.le_of_ble_eq_true rfl, Nat.le_of_ble_eq_true rfl⟩ (fun z16156 F9 H locs hT hz16156 => ?_)
        obtain ⟨fz16156, hz16156⟩ := hz16156
        rw [fz16156] at hT
        refine lv_iload hx hb dX0_cheapest_130 (lv_at hl 4 rfl) ?_
        refine lv_iconst (v := 1) hx hb dX0_cheapest_132 (by decide) ?_
        refine lv_icmp_ge (tgt := 141) hx hb dX0_cheapest_133 (by decide) (fun c16157 => ?_) (fun c16157 => ?_)
        · have w16158 := cv_le (by decide : (1 : Int32).toInt = 1) (rfl : p4.toInt = p4.toInt) c16157
          refine lv_iconst (v := 0) hx hb dX0_cheapest_141 (by decide) ?_
          refine lv_iadd hx hb dX0_cheapest_142 ?_
          refine lv_topi (fun z16159 ez16159 => ?_)
          have hz16159 : z16159.toInt = z16156.toInt + 0 := ar_add ez16159 (rfl : z16156.toInt = z16156.toInt) (by decide : (0 : Int32).toInt = 0) (by omega) (by omega)
          have rz16159 : (-2147483648) ≤ z16159.toInt ∧ z16159.toInt ≤ 1000000 := by omega
          exact t_iret hQ X hT (⟨(by omega), hfr⟩) (Nat.le_of_ble_eq_true rfl) (Nat.le_of_ble_eq_true rfl) dX0_cheapest_143
        · have w16160 := cv_nle (by decide : (1 : Int32).toInt = 1) (rfl : p4.toInt = p4.toInt) c16157
          refine lv_bipush (v := 8) hx hb dX0_cheapest_136 (by decide) ?_
          refine lv_goto (tgt := 142) hx hb dX0_cheapest_138 (by decide) ?_
          refine lv_iadd hx hb dX0_cheapest_142 ?_
          refine lv_topi (fun z16161 ez16161 => ?_)
          have hz16161 : z16161.toInt = z16156.toInt + 8 := ar_add ez16161 (rfl : z16156.toInt = z16156.toInt) (by decide : (8 : Int32).toInt = 8) (by omega) (by omega)
          have rz16161 : (-2147483640) ≤ z16161.toInt ∧ z16161.toInt ≤ 1000008 := by omega
          exact t_iret hQ X hT (⟨(by omega), hfr⟩) (Nat.le_of_ble_eq_true rfl) (Nat.le_of_ble_eq_true rfl) dX0_cheapest_143
      · have w16162 := cv_nlt (rfl : z16152.toInt = z16152.toInt) (rfl : z16150.toInt = z16150.toInt) c16153
        refine lv_aload_n hx hb dX0_cheapest_98 rfl (lv_at hl 0 rfl) ?_
        refine lv_iload hx hb dX0_cheapest_99 (lv_at hl 8 rfl) ?_
        refine lv_iconst (v := 1) hx hb dX0_cheapest_101 (by decide) ?_
        refine lv_iadd hx hb dX0_cheapest_102 ?_
        refine lv_topi (fun z16163 ez16163 => ?_)
        have hz16163 : z16163.toInt = z16152.toInt + 1 := ar_add ez16163 (rfl : z16152.toInt = z16152.toInt) (by decide : (1 : Int32).toInt = 1) (by omega) (by omega)
        have rz16163 : 2 ≤ z16163.toInt ∧ z16163.toInt ≤ 6 := by omega
        refine t_cVv (n := 1) (C := RX0) (T := TX0) (N := 2) (As := [.int z16163]) (rest := []) X hT (kt56_X0_goRound l G tag L F hT.2.2.2 p0 z16163 m0 g0) m0 g0 rfl rfl qw_1036 qw_1037 qw_1038 qw_36 qw_1039 ⟨rfl, by decide +kernel, by decide +kernel, by decide +kernel⟩ ⟨Nat.le_of_ble_eq_true rfl, Nat.le_of_ble_eq_true rfl⟩ hl rfl rfl (Nat.le_of_ble_eq_true rfl) dX0_cheapest_103 ⟨Nat.le_of_ble_eq_true rfl, Nat.le_of_ble_eq_true rfl⟩ (fun F H locs hT hz16164 => ?_)
        have yz16164 := hz16164
        have hfr : ∀ b j : Nat, (tag b ≠ 21 ∨ j ≠ 0) → (tag b ≠ 21 ∨ j ≠ 1) → fld F b j = fld Fo b j := fun b j n21_0 n21_1 => (yz16164 b j ).trans (hfr b j n21_0 n21_1)
        refine lv_aload_n hx hb dX0_cheapest_106 rfl (lv_at hl 0 rfl) ?_
        refine lv_aload_n hx hb dX0_cheapest_107 rfl (lv_at hl 1 rfl) ?_
        refine lv_aload_n hx hb dX0_cheapest_108 rfl (lv_at hl 2 rfl) ?_
        refine lv_iload_n hx hb dX0_cheapest_109 rfl (lv_at hl 3 rfl) ?_
        refine lv_iload hx hb dX0_cheapest_110 (lv_at hl 8 rfl) ?_
        refine t_cVv (n := 4) (C := RX0) (T := TX0) (N := 2) (As := [.ref p1, .ref p2, .int p3, .int z16152]) (rest := []) X hT (kt59_X0_goIn l G tag L F hT.2.2.2 p0 p1 p2 p3 z16152 m0 g0 m1 g1 m2 g2 (by omega) (by omega)) m0 g0 rfl rfl qw_1040 qw_1041 qw_1042 qw_36 qw_1043 ⟨rfl, by decide +kernel, by decide +kernel, by decide +kernel⟩ ⟨Nat.le_of_ble_eq_true rfl, Nat.le_of_ble_eq_true rfl⟩ hl rfl rfl (Nat.le_of_ble_eq_true rfl) dX0_cheapest_112 ⟨Nat.le_of_ble_eq_true rfl, Nat.le_of_ble_eq_true rfl⟩ (fun F H locs hT hz16165 => ?_)
        have yz16165 := hz16165
        have hfr : ∀ b j : Nat, (tag b ≠ 21 ∨ j ≠ 0) → (tag b ≠ 21 ∨ j ≠ 1) → fld F b j = fld Fo b j := fun b j n21_0 n21_1 => (yz16165 b j n21_0 n21_1).trans (hfr b j n21_0 n21_1)
        obtain ⟨z16166, ez16166⟩ : ∃ y : Int32, y = z16152 + (-1) := ⟨_, rfl⟩
        have hz16166 : z16166.toInt = z16152.toInt + (-1) := ar_add ez16166 rfl (by decide : ((-1) : Int32).toInt = (-1)) (by omega) (by omega)
        refine lv_iinc (v := z16166) (lv' := [(8, .int z16166), (0, .ref p0), (1, .ref p1), (2, .ref p2), (3, .int p3), (4, .int p4), (5, .int z16149), (6, .int z16150), (7, .int z16151)]) hx hb dX0_cheapest_115 hl (k := 8) rfl (by rw [ez16166]; rfl) (by decide) rfl (fun ls hl => ?_)
        refine lv_goto (tgt := 91) hx hb dX0_cheapest_118 (by decide) ?_
        exact ih91 z16149 z16150 z16151 z16166 _ _ _ _ (by omega) (by omega) (by omega) (by omega) hT hfr  (lv_sub hl [1, 2, 3, 4, 5, 6, 7, 8, 0] rfl)
  have K85 : ∀ (z16167 : Int32) (z16168 : Int32) (z16169 : Int32) (F : Nat → va_E) (H : Heap) (locs : List Loc) (ls : Array Slot), (1 ≤ z16167.toInt ∧ z16167.toInt ≤ 6) → (1 ≤ z16168.toInt ∧ z16168.toInt ≤ 2147483647) → TH G ttC A s tag L F H locs → (∀ b j : Nat, (tag b ≠ 21 ∨ j ≠ 0) → (tag b ≠ 21 ∨ j ≠ 1) → fld F b j = fld Fo b j) → lv_has ls 9 [(0, .ref p0), (1, .ref p1), (2, .ref p2), (3, .int p3), (4, .int p4), (5, .int z16167), (6, .int z16168), (7, .int z16169)] → W p l e { frames := 5, cells := 0, slots := 0, locals := 121 } s m args below meth c H locs 0 0 Q (F0 m 85 ls []) := by
    intro z16167 z16168 z16169 F H locs ls rz16167 rz16168 hT hfr hl
    have rz16169 := rg_all z16169
    refine lv_iload hx hb dX0_cheapest_85 (lv_at hl 5 rfl) ?_
    refine lv_iconst (v := 1) hx hb dX0_cheapest_87 (by decide) ?_
    refine lv_isub hx hb dX0_cheapest_88 ?_
    refine lv_topi (fun z16170 ez16170 => ?_)
    have hz16170 : z16170.toInt = z16167.toInt - 1 := ar_sub ez16170 (rfl : z16167.toInt = z16167.toInt) (by decide : (1 : Int32).toInt = 1) (by omega) (by omega)
    have rz16170 : 0 ≤ z16170.toInt ∧ z16170.toInt ≤ 5 := by omega
    refine lv_istore (lv' := [(8, .int z16170), (0, .ref p0), (1, .ref p1), (2, .ref p2), (3, .int p3), (4, .int p4), (5, .int z16167), (6, .int z16168), (7, .int z16169)]) hx hb dX0_cheapest_89 hl (by decide) rfl (fun ls hl => ?_)
    exact K91 6 z16167 z16168 z16169 z16170 _ _ _ _ (by omega) (by omega) (by omega) (by omega) hT hfr  (lv_sub hl [1, 2, 3, 4, 5, 6, 7, 8, 0] rfl)
  have K27 : ∀ (z16171 : Int32) (z16172 : Int32) (F : Nat → va_E) (H : Heap) (locs : List Loc) (ls : Array Slot), (1 ≤ z16171.toInt ∧ z16171.toInt ≤ 6) → (1 ≤ z16172.toInt ∧ z16172.toInt ≤ 2147483647) → TH G ttC A s tag L F H locs → (∀ b j : Nat, (tag b ≠ 21 ∨ j ≠ 0) → (tag b ≠ 21 ∨ j ≠ 1) → fld F b j = fld Fo b j) → lv_has ls 9 [(0, .ref p0), (1, .ref p1), (2, .ref p2), (3, .int p3), (4, .int p4), (5, .int z16171)] → W p l e { frames := 5, cells := 0, slots := 0, locals := 121 } s m args below meth c H locs 0 0 Q (F0 m 27 ls [.int z16172]) := by
    intro z16171 z16172 F H locs ls rz16171 rz16172 hT hfr hl
    refine lv_istore (lv' := [(6, .int z16172), (0, .ref p0), (1, .ref p1), (2, .ref p2), (3, .int p3), (4, .int p4), (5, .int z16171)]) hx hb dX0_cheapest_27 hl (by decide) rfl (fun ls hl => ?_)
    refine lv_aload_n hx hb dX0_cheapest_29 rfl (lv_at hl 1 rfl) ?_
    refine t_get (C := RX0) (T := TX0) (N := 2) X hT m0 g0 rfl rfl 0 (by decide) qw_88 inlX0 rfl dX0_cheapest_30 (fun v16173 hv16173 ov16173 => ?_)
    obtain ⟨b16174, rfl, mb16174, gb16174⟩ := okV_r ov16173
    have gb16174 : tag b16174 = 12 := tg_of gb16174
    refine t_cSv (n := 1) (As := [.ref b16174]) (rest := []) X hT (kt52_X0_empty l G tag L F hT.2.2.2 b16174 mb16174 gb16174) qw_1020 qw_1021 qw_36 qw_1022 ⟨by decide +kernel, by decide +kernel, by decide +kernel⟩ ⟨Nat.le_of_ble_eq_true rfl, Nat.le_of_ble_eq_true rfl⟩ hl rfl rfl (Nat.le_of_ble_eq_true rfl) dX0_cheapest_33 ⟨Nat.le_of_ble_eq_true rfl, Nat.le_of_ble_eq_true rfl⟩ (fun F H locs hT hz16175 => ?_)
    have yz16175 := hz16175
    have hv16173 := (yz16175 _ 0 ).trans hv16173
    have hfr : ∀ b j : Nat, (tag b ≠ 21 ∨ j ≠ 0) → (tag b ≠ 21 ∨ j ≠ 1) → fld F b j = fld Fo b j := fun b j n21_0 n21_1 => (yz16175 b j ).trans (hfr b j n21_0 n21_1)
    refine lv_aload_n hx hb dX0_cheapest_36 rfl (lv_at hl 3 rfl) ?_
    refine lv_iload_n hx hb dX0_cheapest_37 rfl (lv_at hl 4 rfl) ?_
    refine lv_iload hx hb dX0_cheapest_38 (lv_at hl 6 rfl) ?_
    refine t_cVi (n := 2) (C := RX7) (T := TX7) (N := 7) (As := [.int p3, .int z16171]) (rest := []) X hT (kt29_X7_doorOf l G tag L F hT.2.2.2 p2 p3 z16171 m2 g2) m2 g2 rfl rfl qw_1024 qw_918 qw_919 qw_22 qw_920 ⟨rfl, by decide +kernel, by decide +kernel, by decide +kernel⟩ ⟨Nat.le_of_ble_eq_true rfl, Nat.le_of_ble_eq_true rfl⟩ hl rfl rfl (Nat.le_of_ble_eq_true rfl) dX0_cheapest_40 ⟨Nat.le_of_ble_eq_true rfl, Nat.le_of_ble_eq_true rfl⟩ (fun z16176 F9 H locs hT hz16176 => ?_)
    obtain ⟨fz16176, hz16176⟩ := hz16176
    rw [fz16176] at hT
    refine lv_istore (lv' := [(7, .int z16176), (6, .int z16172), (0, .ref p0), (1, .ref p1), (2, .ref p2), (3, .int p3), (4, .int p4), (5, .int z16171)]) hx hb dX0_cheapest_43 hl (by decide) rfl (fun ls hl => ?_)
    refine lv_iload hx hb dX0_cheapest_45 (lv_at hl 0 rfl) ?_
    refine lv_if_lt (tgt := 85) hx hb dX0_cheapest_47 (by decide) (fun c16177 => ?_) (fun c16177 => ?_)
    · have w16178 := cv_lt (rfl : z16176.toInt = z16176.toInt) (by decide : (0 : Int32).toInt = 0) c16177
      exact K85 z16171 z16172 z16176 _ _ _ _ (by omega) (by omega) hT hfr  (lv_sub hl [2, 3, 4, 5, 6, 7, 1, 0] rfl)
    · have w16179 := cv_nlt (rfl : z16176.toInt = z16176.toInt) (by decide : (0 : Int32).toInt = 0) c16177
      refine lv_iload hx hb dX0_cheapest_50 (lv_at hl 0 rfl) ?_
      refine lv_aload_n hx hb dX0_cheapest_52 rfl (lv_at hl 2 rfl) ?_
      refine t_get (C := RX0) (T := TX0) (N := 2) X hT m0 g0 rfl rfl 0 (by decide) qw_88 inlX0 rfl dX0_cheapest_53 (fun v16180 hv16180 ov16180 => ?_)
      obtain rfl : v16180 = .ref b16174 := hv16180.symm.trans hv16173
      refine t_alen X hT mb16174 gb16174 rfl (by decide) dX0_cheapest_56 ?_
      refine lv_topi (fun z16181 ez16181 => ?_)
      obtain rfl : z16181 = 48 := ez16181.trans (by rfl)
      refine lv_icmp_ge (tgt := 85) hx hb dX0_cheapest_57 (by decide) (fun c16182 => ?_) (fun c16182 => ?_)
      · have w16183 := cv_le (by decide : (48 : Int32).toInt = 48) (rfl : z16176.toInt = z16176.toInt) c16182
        exact K85 z16171 z16172 z16176 _ _ _ _ (by omega) (by omega) hT hfr  (lv_sub hl [2, 3, 4, 5, 6, 7, 1, 0] rfl)
      · have w16184 := cv_nle (by decide : (48 : Int32).toInt = 48) (rfl : z16176.toInt = z16176.toInt) c16182
        refine lv_aload_n hx hb dX0_cheapest_60 rfl (lv_at hl 2 rfl) ?_
        refine t_get (C := RX0) (T := TX0) (N := 2) X hT m0 g0 rfl rfl 0 (by decide) qw_88 inlX0 rfl dX0_cheapest_61 (fun v16185 hv16185 ov16185 => ?_)
        obtain rfl : v16185 = .ref b16174 := hv16185.symm.trans hv16173
        refine lv_iload hx hb dX0_cheapest_64 (lv_at hl 0 rfl) ?_
        refine lv_aload_n hx hb dX0_cheapest_66 rfl (lv_at hl 4 rfl) ?_
        refine lv_iload_n hx hb dX0_cheapest_67 rfl (lv_at hl 5 rfl) ?_
        refine lv_iload hx hb dX0_cheapest_68 (lv_at hl 7 rfl) ?_
        refine t_cSi (n := 3) (As := [.ref p2, .int p3, .int z16171]) (rest := [.int z16176, .ref b16174]) X hT (kt53_X0_byDoor l G tag L F hT.2.2.2 p2 p3 z16171 m2 g2) qw_1025 qw_1026 qw_36 qw_1027 ⟨by decide +kernel, by decide +kernel, by decide +kernel⟩ ⟨Nat.le_of_ble_eq_true rfl, Nat.le_of_ble_eq_true rfl⟩ hl rfl rfl (Nat.le_of_ble_eq_true rfl) dX0_cheapest_70 ⟨Nat.le_of_ble_eq_true rfl, Nat.le_of_ble_eq_true rfl⟩ (fun z16186 F9 H locs hT hz16186 => ?_)
        obtain ⟨fz16186, hz16186⟩ := hz16186
        rw [fz16186] at hT
        refine lv_aload_n hx hb dX0_cheapest_73 rfl (lv_at hl 3 rfl) ?_
        refine lv_aload_n hx hb dX0_cheapest_74 rfl (lv_at hl 4 rfl) ?_
        refine lv_iload_n hx hb dX0_cheapest_75 rfl (lv_at hl 5 rfl) ?_
        refine lv_iload hx hb dX0_cheapest_76 (lv_at hl 7 rfl) ?_
        refine t_cSi (n := 4) (As := [.ref p1, .ref p2, .int p3, .int z16171]) (rest := [.int z16186, .int z16176, .ref b16174]) X hT (kt54_X0_byWall l G tag L F hT.2.2.2 p1 p2 p3 z16171 m1 g1 m2 g2) qw_1031 qw_1032 qw_36 qw_1033 ⟨by decide +kernel, by decide +kernel, by decide +kernel⟩ ⟨Nat.le_of_ble_eq_true rfl, Nat.le_of_ble_eq_true rfl⟩ hl rfl rfl (Nat.le_of_ble_eq_true rfl) dX0_cheapest_78 ⟨Nat.le_of_ble_eq_true rfl, Nat.le_of_ble_eq_true rfl⟩ (fun z16187 F9 H locs hT hz16187 => ?_)
        obtain ⟨fz16187, hz16187⟩ := hz16187
        rw [fz16187] at hT
        refine t_mmin X hl qw_1017 qw_1018 qw_850 qw_1019 (Nat.le_of_ble_eq_true rfl) (Nat.le_of_ble_eq_true rfl) (Nat.le_of_ble_eq_true rfl) (Nat.le_of_ble_eq_true rfl) dX0_cheapest_81 (fun z16188 ez16188 => ?_)
        have hz16188 := mmin_e ez16188 (rfl : z16186.toInt = z16186.toInt) (rfl : z16187.toInt = z16187.toInt)
        refine t_ist X hT mb16174 gb16174 rfl (by omega) (show (-2147483648) ≤ (z16188 : Int32).toInt ∧ (z16188 : Int32).toInt ≤ 2147483647 from (by omega)) dX0_cheapest_84 (fun F H locs hT v16189 h1v16189 h2v16189 => ?_)
        have hv16173 := (h2v16189 _ _).trans hv16173
        have hfr : ∀ b j : Nat, (tag b ≠ 21 ∨ j ≠ 0) → (tag b ≠ 21 ∨ j ≠ 1) → fld F b j = fld Fo b j := fun b j n21_0 n21_1 => (h2v16189 b j).trans (hfr b j n21_0 n21_1)
        exact K85 z16171 z16172 z16176 _ _ _ _ (by omega) (by omega) hT hfr  (lv_sub hl [2, 3, 4, 5, 6, 7, 1, 0] rfl)
  refine lv_aload_n hx hb dX0_cheapest_0 rfl (lv_at hl 2 rfl) ?_
  refine t_get (C := RX7) (T := TX7) (N := 7) X hT m2 g2 rfl rfl 2 (by decide) qw_1016 inlX7 rfl dX0_cheapest_1 (fun v16190 hv16190 ov16190 => ?_)
  obtain ⟨b16191, rfl, mb16191, gb16191⟩ := okV_r ov16190
  have gb16191 : tag b16191 = 8 := tg_of gb16191
  refine lv_iload_n hx hb dX0_cheapest_4 rfl (lv_at hl 3 rfl) ?_
  refine t_ild X hT mb16191 gb16191 rfl (by omega) dX0_cheapest_5 (fun z16192 vz16192 rz16192 => ?_)
  have rz16192 : 0 ≤ z16192.toInt ∧ z16192.toInt ≤ 6 := rz16192
  refine lv_istore (lv' := [(5, .int z16192), (0, .ref p0), (1, .ref p1), (2, .ref p2), (3, .int p3), (4, .int p4)]) hx hb dX0_cheapest_6 hl (by decide) rfl (fun ls hl => ?_)
  refine lv_iload hx hb dX0_cheapest_8 (lv_at hl 0 rfl) ?_
  refine lv_if_ne (tgt := 15) hx hb dX0_cheapest_10 (by decide) (fun c16193 => ?_) (fun c16193 => ?_)
  · have w16194 := cv_ne (rfl : z16192.toInt = z16192.toInt) (by decide : (0 : Int32).toInt = 0) c16193
    refine lv_iload hx hb dX0_cheapest_15 (lv_at hl 5 rfl) ?_
    refine lv_iconst (v := 1) hx hb dX0_cheapest_17 (by decide) ?_
    refine lv_icmp_ge (tgt := 25) hx hb dX0_cheapest_18 (by decide) (fun c16195 => ?_) (fun c16195 => ?_)
    · have w16196 := cv_le (by decide : (1 : Int32).toInt = 1) (rfl : p4.toInt = p4.toInt) c16195
      refine lv_iload hx hb dX0_cheapest_25 (lv_at hl 5 rfl) ?_
      exact K27 z16192 p4 _ _ _ _ (by omega) (by omega) hT hfr  (lv_sub hl [1, 2, 3, 4, 5, 0] rfl)
    · have w16197 := cv_nle (by decide : (1 : Int32).toInt = 1) (rfl : p4.toInt = p4.toInt) c16195
      refine lv_iconst (v := 1) hx hb dX0_cheapest_21 (by decide) ?_
      refine lv_goto (tgt := 27) hx hb dX0_cheapest_22 (by decide) ?_
      exact K27 z16192 1 _ _ _ _ (by omega) (by decide) hT hfr  (lv_sub hl [1, 2, 3, 4, 5, 0] rfl)
  · have w16198 := cv_eq (rfl : z16192.toInt = z16192.toInt) (by decide : (0 : Int32).toInt = 0) c16193
    refine lv_iconst (v := 0) hx hb dX0_cheapest_13 (by decide) ?_
    exact t_iret hQ X hT (⟨(by decide), hfr⟩) (Nat.le_of_ble_eq_true rfl) (Nat.le_of_ble_eq_true rfl) dX0_cheapest_14
set_option maxHeartbeats 4000000 in
set_option maxRecDepth 100000 in
theorem kt61_X0_goIn (l : Launch) (G : KG) (tag : Nat → Nat) (L : List Nat) (Fo : Nat → va_E) (ho : okT G ttC tag L Fo) (p0 : Nat) (p1 : Nat) (p2 : Nat) (p3 : Int32) (p4 : Int32) (m0 : p0 ∈ L) (g0 : tag p0 = 21) (m1 : p1 ∈ L) (g1 : tag p1 = 18) (m2 : p2 ∈ L) (g2 : tag p2 = 19) (h3 : 0 ≤ p3.toInt ∧ p3.toInt ≤ 3) (h4 : (-2147483648) ≤ p4.toInt ∧ p4.toInt ≤ 7) : TMv l yX0_goIn cX0_goIn 10 { frames := 4, cells := 0, slots := 0, locals := 92 } G ttC tag L Fo [.ref p0, .ref p1, .ref p2, .int p3, .int p4] (fun F1 => ∀ b j : Nat, (tag b ≠ 21 ∨ j ≠ 0) → (tag b ≠ 21 ∨ j ≠ 1) → fld F1 b j = fld Fo b j) := by
  refine t_bodyv (y := yX0_goIn) (cd := cX0_goIn) (mL := 10) (rm := { frames := 4, cells := 0, slots := 0, locals := 92 }) (av := [.ref p0, .ref p1, .ref p2, .int p3, .int p4]) (by decide) (Nat.le_of_ble_eq_true rfl) ho ?_
  intro p e s m args below meth c ls A Q hQ X hT hl
  have hx := X.1.1
  have hb := X.1.2.1
  have hl : lv_has ls 10 [(0, .ref p0), (1, .ref p1), (2, .ref p2), (3, .int p3), (4, .int p4)] := hl
  obtain ⟨F, hFo⟩ : ∃ F : Nat → va_E, F = Fo := ⟨_, rfl⟩
  rw [← hFo] at hT
  have hfr : ∀ b j : Nat, (tag b ≠ 21 ∨ j ≠ 0) → (tag b ≠ 21 ∨ j ≠ 1) → fld F b j = fld Fo b j := by
    rw [hFo]
    intros
    rfl
  have K127 : ∀ (z17580 : Int32) (z17581 : Int32) (z17582 : Int32) (z17583 : Int32) (F : Nat → va_E) (H : Heap) (locs : List Loc) (ls : Array Slot), (0 ≤ z17583.toInt ∧ z17583.toInt ≤ 48) → TH G ttC A s tag L F H locs → (∀ b j : Nat, (tag b ≠ 21 ∨ j ≠ 0) → (tag b ≠ 21 ∨ j ≠ 1) → fld F b j = fld Fo b j) → lv_has ls 10 [(0, .ref p0), (1, .ref p1), (2, .ref p2), (3, .int p3), (4, .int p4), (5, .int z17580), (6, .int z17581), (7, .int z17582), (8, .int z17583)] → W p l e { frames := 4, cells := 0, slots := 0, locals := 92 } s m args below meth c H locs 0 0 Q (F0 m 127 ls []) := by
    intro z17580 z17581 z17582 z17583 F H locs ls rz17583 hT hfr hl
    have rz17580 := rg_all z17580
    have rz17581 := rg_all z17581
    have rz17582 := rg_all z17582
    refine lv_aload_n hx hb dX0_goIn_127 rfl (lv_at hl 0 rfl) ?_
    refine t_get (C := RX0) (T := TX0) (N := 2) X hT m0 g0 rfl rfl 0 (by decide) qw_88 inlX0 rfl dX0_goIn_128 (fun v17584 hv17584 ov17584 => ?_)
    obtain ⟨b17585, rfl, mb17585, gb17585⟩ := okV_r ov17584
    have gb17585 : tag b17585 = 12 := tg_of gb17585
    refine lv_astore (lv' := [(8, .ref b17585), (0, .ref p0), (1, .ref p1), (2, .ref p2), (3, .int p3), (4, .int p4), (5, .int z17580), (6, .int z17581), (7, .int z17582)]) hx hb dX0_goIn_131 hl (by decide) rfl (fun ls hl => ?_)
    refine lv_aload_n hx hb dX0_goIn_133 rfl (lv_at hl 1 rfl) ?_
    refine lv_aload_n hx hb dX0_goIn_134 rfl (lv_at hl 1 rfl) ?_
    refine t_get (C := RX0) (T := TX0) (N := 2) X hT m0 g0 rfl rfl 1 (by decide) qw_89 inlX0 rfl dX0_goIn_135 (fun v17586 hv17586 ov17586 => ?_)
    obtain ⟨b17587, rfl, mb17587, gb17587⟩ := okV_r ov17586
    have gb17587 : tag b17587 = 12 := tg_of gb17587
    refine t_put (C := RX0) (T := TX0) (N := 2) (v := .ref b17587) X hT m0 g0 rfl tyX0 tyX0_ok nmX0 rfl 0 (by decide) qw_88 inlX0 rfl (by first | rfl | decide) (by first | rfl | decide) rfl (⟨_, rfl, mb17587, by rw [gb17587]; rfl⟩) dX0_goIn_138 (fun F H locs hT v17588 h1v17588 h2v17588 => ?_)
    have hv17586 := (h1v17588 _ _ (Or.inr (by decide))).trans hv17586
    have hfr : ∀ b j : Nat, (tag b ≠ 21 ∨ j ≠ 0) → (tag b ≠ 21 ∨ j ≠ 1) → fld F b j = fld Fo b j := fun b j n21_0 n21_1 => (h1v17588 b j (fr_ne g0 n21_0)).trans (hfr b j n21_0 n21_1)
    refine lv_aload_n hx hb dX0_goIn_141 rfl (lv_at hl 1 rfl) ?_
    refine lv_aload hx hb dX0_goIn_142 (lv_at hl 0 rfl) ?_
    refine t_put (C := RX0) (T := TX0) (N := 2) (v := .ref b17585) X hT m0 g0 rfl tyX0 tyX0_ok nmX0 rfl 1 (by decide) qw_89 inlX0 rfl (by first | rfl | decide) (by first | rfl | decide) rfl (⟨_, rfl, mb17585, by rw [gb17585]; rfl⟩) dX0_goIn_144 (fun F H locs hT v17589 h1v17589 h2v17589 => ?_)
    have v17588 := (h1v17589 _ _ (Or.inr (by decide))).trans v17588
    have hfr : ∀ b j : Nat, (tag b ≠ 21 ∨ j ≠ 0) → (tag b ≠ 21 ∨ j ≠ 1) → fld F b j = fld Fo b j := fun b j n21_0 n21_1 => (h1v17589 b j (fr_ne g0 n21_1)).trans (hfr b j n21_0 n21_1)
    exact t_vret hQ X hT hfr (Nat.le_of_ble_eq_true rfl) (Nat.le_of_ble_eq_true rfl) dX0_goIn_147
  have K43 : ∀ (n : Nat) (z17590 : Int32) (z17591 : Int32) (z17592 : Int32) (z17593 : Int32) (F : Nat → va_E) (H : Heap) (locs : List Loc) (ls : Array Slot), (48 - z17593.toInt < (n : Int)) → (0 ≤ z17593.toInt ∧ z17593.toInt ≤ 48) → TH G ttC A s tag L F H locs → (∀ b j : Nat, (tag b ≠ 21 ∨ j ≠ 0) → (tag b ≠ 21 ∨ j ≠ 1) → fld F b j = fld Fo b j) → lv_has ls 10 [(0, .ref p0), (1, .ref p1), (2, .ref p2), (3, .int p3), (4, .int p4), (5, .int z17590), (6, .int z17591), (7, .int z17592), (8, .int z17593)] → W p l e { frames := 4, cells := 0, slots := 0, locals := 92 } s m args below meth c H locs 0 0 Q (F0 m 43 ls []) := by
    intro n
    induction n with
    | zero =>
      intro z17590 z17591 z17592 z17593 F H locs ls hn rz17593 hT hfr hl
      have rz17590 := rg_all z17590
      have rz17591 := rg_all z17591
      have rz17592 := rg_all z17592
      exfalso
      omega
    | succ n ih43 =>
      intro z17590 z17591 z17592 z17593 F H locs ls hn rz17593 hT hfr hl
      have rz17590 := rg_all z17590
      have rz17591 := rg_all z17591
      have rz17592 := rg_all z17592
      have K121 : ∀ (z17595 : Int32) (F : Nat → va_E) (H : Heap) (locs : List Loc) (ls : Array Slot), (0 ≤ z17595.toInt ∧ z17595.toInt ≤ 766) → (0 ≤ z17593.toInt ∧ z17593.toInt ≤ 47) → TH G ttC A s tag L F H locs → (∀ b j : Nat, (tag b ≠ 21 ∨ j ≠ 0) → (tag b ≠ 21 ∨ j ≠ 1) → fld F b j = fld Fo b j) → lv_has ls 10 [(0, .ref p0), (1, .ref p1), (2, .ref p2), (3, .int p3), (4, .int p4), (5, .int z17590), (6, .int z17591), (7, .int z17592), (8, .int z17593), (9, .int z17595)] → W p l e { frames := 4, cells := 0, slots := 0, locals := 92 } s m args below meth c H locs 0 0 Q (F0 m 121 ls []) := by
        intro z17595 F H locs ls rz17595 r9s17594 hT hfr hl
        obtain ⟨z17596, ez17596⟩ : ∃ y : Int32, y = z17593 + 1 := ⟨_, rfl⟩
        have hz17596 : z17596.toInt = z17593.toInt + 1 := ar_add ez17596 rfl (by decide : (1 : Int32).toInt = 1) (by omega) (by omega)
        refine lv_iinc (v := z17596) (lv' := [(8, .int z17596), (0, .ref p0), (1, .ref p1), (2, .ref p2), (3, .int p3), (4, .int p4), (5, .int z17590), (6, .int z17591), (7, .int z17592), (9, .int z17595)]) hx hb dX0_goIn_121 hl (k := 8) rfl (by rw [ez17596]; rfl) (by decide) rfl (fun ls hl => ?_)
        refine lv_goto (tgt := 43) hx hb dX0_goIn_124 (by decide) ?_
        exact ih43 z17590 z17591 z17592 z17596 _ _ _ _ (by omega) (by omega) hT hfr  (lv_sub hl [1, 2, 3, 4, 5, 6, 7, 8, 0] rfl)
      have K119 : ∀ (z17598 : Int32) (z17599 : Int32) (z17600 : Int32) (z17601 : Int32) (b17602 : Nat) (F : Nat → va_E) (H : Heap) (locs : List Loc) (ls : Array Slot), (0 ≤ z17598.toInt ∧ z17598.toInt ≤ 47) → (0 ≤ z17601.toInt ∧ z17601.toInt ≤ 47) → (b17602 ∈ L) → (tag b17602 = 12) → (0 ≤ z17593.toInt ∧ z17593.toInt ≤ 47) → TH G ttC A s tag L F H locs → (∀ b j : Nat, (tag b ≠ 21 ∨ j ≠ 0) → (tag b ≠ 21 ∨ j ≠ 1) → fld F b j = fld Fo b j) → lv_has ls 10 [(0, .ref p0), (1, .ref p1), (2, .ref p2), (3, .int p3), (4, .int p4), (5, .int z17590), (6, .int z17591), (7, .int z17592), (8, .int z17593), (9, .int z17598)] → W p l e { frames := 4, cells := 0, slots := 0, locals := 92 } s m args below meth c H locs 0 0 Q (F0 m 119 ls [.int z17599, .int z17600, .int z17601, .ref b17602]) := by
        intro z17598 z17599 z17600 z17601 b17602 F H locs ls rz17598 rz17601 mb17602 gb17602 r9s17597 hT hfr hl
        have rz17599 := rg_all z17599
        have rz17600 := rg_all z17600
        refine lv_iadd hx hb dX0_goIn_119 ?_
        refine lv_topi (fun z17603 ez17603 => ?_)
        have rz17603 := rg_all z17603
        refine t_ist X hT mb17602 gb17602 rfl (by omega) (show (-2147483648) ≤ (z17603 : Int32).toInt ∧ (z17603 : Int32).toInt ≤ 2147483647 from (by omega)) dX0_goIn_120 (fun F H locs hT v17604 h1v17604 h2v17604 => ?_)
        have hfr : ∀ b j : Nat, (tag b ≠ 21 ∨ j ≠ 0) → (tag b ≠ 21 ∨ j ≠ 1) → fld F b j = fld Fo b j := fun b j n21_0 n21_1 => (h2v17604 b j).trans (hfr b j n21_0 n21_1)
        exact K121 z17598 _ _ _ _ (by omega) (by omega) hT hfr  (lv_sub hl [0, 1, 2, 3, 4, 5, 6, 7, 8, 9] rfl)
      refine lv_iload hx hb dX0_goIn_43 (lv_at hl 8 rfl) ?_
      refine lv_bipush (v := 8) hx hb dX0_goIn_45 (by decide) ?_
      refine lv_iload hx hb dX0_goIn_47 (lv_at hl 4 rfl) ?_
      refine lv_imul hx hb dX0_goIn_49 ?_
      refine lv_topi (fun z17605 ez17605 => ?_)
      have rz17605 := rg_all z17605
      refine lv_icmp_ge (tgt := 127) hx hb dX0_goIn_50 (by decide) (fun c17606 => ?_) (fun c17606 => ?_)
      · have w17607 := cv_le (rfl : z17605.toInt = z17605.toInt) (rfl : z17593.toInt = z17593.toInt) c17606
        exact K127 z17590 z17591 z17592 z17593 _ _ _ _ (by omega) hT hfr  (lv_sub hl [0, 1, 2, 3, 4, 5, 6, 7, 8] rfl)
      · have w17608 := cv_nle (rfl : z17605.toInt = z17605.toInt) (rfl : z17593.toInt = z17593.toInt) c17606
        refine lv_iload hx hb dX0_goIn_53 (lv_at hl 8 rfl) ?_
        refine lv_aload_n hx hb dX0_goIn_55 rfl (lv_at hl 0 rfl) ?_
        refine t_get (C := RX0) (T := TX0) (N := 2) X hT m0 g0 rfl rfl 1 (by decide) qw_89 inlX0 rfl dX0_goIn_56 (fun v17609 hv17609 ov17609 => ?_)
        obtain ⟨b17610, rfl, mb17610, gb17610⟩ := okV_r ov17609
        have gb17610 : tag b17610 = 12 := tg_of gb17610
        refine t_alen X hT mb17610 gb17610 rfl (by decide) dX0_goIn_59 ?_
        refine lv_topi (fun z17611 ez17611 => ?_)
        obtain rfl : z17611 = 48 := ez17611.trans (by rfl)
        refine lv_icmp_ge (tgt := 127) hx hb dX0_goIn_60 (by decide) (fun c17612 => ?_) (fun c17612 => ?_)
        · have w17613 := cv_le (by decide : (48 : Int32).toInt = 48) (rfl : z17593.toInt = z17593.toInt) c17612
          exact K127 z17590 z17591 z17592 z17593 _ _ _ _ (by omega) hT hfr  (lv_sub hl [0, 1, 2, 3, 4, 5, 6, 7, 8] rfl)
        · have w17614 := cv_nle (by decide : (48 : Int32).toInt = 48) (rfl : z17593.toInt = z17593.toInt) c17612
          refine lv_iload hx hb dX0_goIn_63 (lv_at hl 4 rfl) ?_
          refine lv_iload hx hb dX0_goIn_65 (lv_at hl 8 rfl) ?_
          refine t_cSi (n := 2) (As := [.int p4, .int z17593]) (rest := []) X hT (kt57_X4_inFront l G tag L F hT.2.2.2 p4 z17593 (by omega) (by omega)) qw_1044 qw_923 qw_409 qw_924 ⟨by decide +kernel, by decide +kernel, by decide +kernel⟩ ⟨Nat.le_of_ble_eq_true rfl, Nat.le_of_ble_eq_true rfl⟩ hl rfl rfl (Nat.le_of_ble_eq_true rfl) dX0_goIn_67 ⟨Nat.le_of_ble_eq_true rfl, Nat.le_of_ble_eq_true rfl⟩ (fun z17615 F9 H locs hT hz17615 => ?_)
          obtain ⟨fz17615, hz17615⟩ := hz17615
          rw [fz17615] at hT
          refine lv_istore (lv' := [(9, .int z17615), (0, .ref p0), (1, .ref p1), (2, .ref p2), (3, .int p3), (4, .int p4), (5, .int z17590), (6, .int z17591), (7, .int z17592), (8, .int z17593)]) hx hb dX0_goIn_70 hl (by decide) rfl (fun ls hl => ?_)
          refine lv_iload hx hb dX0_goIn_72 (lv_at hl 5 rfl) ?_
          refine lv_iload hx hb dX0_goIn_74 (lv_at hl 9 rfl) ?_
          refine t_cSi (n := 2) (As := [.int p4, .int z17593]) (rest := []) X hT (kt58_X4_isCorner l G tag L F hT.2.2.2 p4 z17593 ) qw_1045 qw_1046 qw_409 qw_1047 ⟨by decide +kernel, by decide +kernel, by decide +kernel⟩ ⟨Nat.le_of_ble_eq_true rfl, Nat.le_of_ble_eq_true rfl⟩ hl rfl rfl (Nat.le_of_ble_eq_true rfl) dX0_goIn_76 ⟨Nat.le_of_ble_eq_true rfl, Nat.le_of_ble_eq_true rfl⟩ (fun z17616 F9 H locs hT hz17616 => ?_)
          obtain ⟨fz17616, hz17616⟩ := hz17616
          rw [fz17616] at hT
          refine lv_if_ne (tgt := 121) hx hb dX0_goIn_79 (by decide) (fun c17617 => ?_) (fun c17617 => ?_)
          · have w17618 := cv_ne (rfl : z17616.toInt = z17616.toInt) (by decide : (0 : Int32).toInt = 0) c17617
            exact K121 z17615 _ _ _ _ (by omega) (by omega) hT hfr  (lv_sub hl [1, 2, 3, 4, 5, 6, 7, 8, 9, 0] rfl)
          · have w17619 := cv_eq (rfl : z17616.toInt = z17616.toInt) (by decide : (0 : Int32).toInt = 0) c17617
            refine lv_iload hx hb dX0_goIn_82 (lv_at hl 0 rfl) ?_
            refine lv_aload_n hx hb dX0_goIn_84 rfl (lv_at hl 1 rfl) ?_
            refine t_get (C := RX0) (T := TX0) (N := 2) X hT m0 g0 rfl rfl 0 (by decide) qw_88 inlX0 rfl dX0_goIn_85 (fun v17620 hv17620 ov17620 => ?_)
            obtain ⟨b17621, rfl, mb17621, gb17621⟩ := okV_r ov17620
            have gb17621 : tag b17621 = 12 := tg_of gb17621
            refine t_alen X hT mb17621 gb17621 rfl (by decide) dX0_goIn_88 ?_
            refine lv_topi (fun z17622 ez17622 => ?_)
            obtain rfl : z17622 = 48 := ez17622.trans (by rfl)
            refine lv_icmp_ge (tgt := 121) hx hb dX0_goIn_89 (by decide) (fun c17623 => ?_) (fun c17623 => ?_)
            · have w17624 := cv_le (by decide : (48 : Int32).toInt = 48) (rfl : z17615.toInt = z17615.toInt) c17623
              exact K121 z17615 _ _ _ _ (by omega) (by omega) hT hfr  (lv_sub hl [1, 2, 3, 4, 5, 6, 7, 8, 9, 0] rfl)
            · have w17625 := cv_nle (by decide : (48 : Int32).toInt = 48) (rfl : z17615.toInt = z17615.toInt) c17623
              refine lv_aload_n hx hb dX0_goIn_92 rfl (lv_at hl 1 rfl) ?_
              refine t_get (C := RX0) (T := TX0) (N := 2) X hT m0 g0 rfl rfl 1 (by decide) qw_89 inlX0 rfl dX0_goIn_93 (fun v17626 hv17626 ov17626 => ?_)
              obtain rfl : v17626 = .ref b17610 := hv17626.symm.trans hv17609
              refine lv_iload hx hb dX0_goIn_96 (lv_at hl 9 rfl) ?_
              refine lv_aload_n hx hb dX0_goIn_98 rfl (lv_at hl 1 rfl) ?_
              refine t_get (C := RX0) (T := TX0) (N := 2) X hT m0 g0 rfl rfl 0 (by decide) qw_88 inlX0 rfl dX0_goIn_99 (fun v17627 hv17627 ov17627 => ?_)
              obtain rfl : v17627 = .ref b17621 := hv17627.symm.trans hv17620
              refine lv_iload hx hb dX0_goIn_102 (lv_at hl 0 rfl) ?_
              refine t_ild X hT mb17621 gb17621 rfl (by omega) dX0_goIn_104 (fun z17628 vz17628 rz17628 => ?_)
              have rz17628 : (-2147483648) ≤ z17628.toInt ∧ z17628.toInt ≤ 2147483647 := rz17628
              refine lv_iload hx hb dX0_goIn_105 (lv_at hl 9 rfl) ?_
              refine lv_iload hx hb dX0_goIn_107 (lv_at hl 6 rfl) ?_
              refine lv_icmp_ne (tgt := 117) hx hb dX0_goIn_109 (by decide) (fun c17629 => ?_) (fun c17629 => ?_)
              · have w17630 := cv_ne (rfl : z17593.toInt = z17593.toInt) (rfl : z17590.toInt = z17590.toInt) c17629
                refine lv_iload hx hb dX0_goIn_117 (lv_at hl 7 rfl) ?_
                exact K119 z17615 z17591 z17628 z17593 b17610 _ _ _ _ (by omega) (by omega) mb17610 gb17610 (by omega) hT hfr  (lv_sub hl [1, 2, 3, 4, 5, 6, 7, 8, 9, 0] rfl)
              · have w17631 := cv_eq (rfl : z17593.toInt = z17593.toInt) (rfl : z17590.toInt = z17590.toInt) c17629
                refine lv_iload hx hb dX0_goIn_112 (lv_at hl 8 rfl) ?_
                refine lv_goto (tgt := 119) hx hb dX0_goIn_114 (by decide) ?_
                exact K119 z17615 z17592 z17628 z17593 b17610 _ _ _ _ (by omega) (by omega) mb17610 gb17610 (by omega) hT hfr  (lv_sub hl [1, 2, 3, 4, 5, 6, 7, 8, 9, 0] rfl)
  refine lv_aload_n hx hb dX0_goIn_0 rfl (lv_at hl 2 rfl) ?_
  refine lv_iload_n hx hb dX0_goIn_1 rfl (lv_at hl 3 rfl) ?_
  refine lv_iload hx hb dX0_goIn_2 (lv_at hl 4 rfl) ?_
  refine t_cVi (n := 2) (C := RX7) (T := TX7) (N := 7) (As := [.int p3, .int p4]) (rest := []) X hT (kt29_X7_doorOf l G tag L F hT.2.2.2 p2 p3 p4 m2 g2) m2 g2 rfl rfl qw_1024 qw_918 qw_919 qw_22 qw_920 ⟨rfl, by decide +kernel, by decide +kernel, by decide +kernel⟩ ⟨Nat.le_of_ble_eq_true rfl, Nat.le_of_ble_eq_true rfl⟩ hl rfl rfl (Nat.le_of_ble_eq_true rfl) dX0_goIn_4 ⟨Nat.le_of_ble_eq_true rfl, Nat.le_of_ble_eq_true rfl⟩ (fun z17632 F9 H locs hT hz17632 => ?_)
  obtain ⟨fz17632, hz17632⟩ := hz17632
  rw [fz17632] at hT
  refine lv_istore (lv' := [(5, .int z17632), (0, .ref p0), (1, .ref p1), (2, .ref p2), (3, .int p3), (4, .int p4)]) hx hb dX0_goIn_7 hl (by decide) rfl (fun ls hl => ?_)
  refine lv_aload_n hx hb dX0_goIn_9 rfl (lv_at hl 2 rfl) ?_
  refine lv_aload_n hx hb dX0_goIn_10 rfl (lv_at hl 3 rfl) ?_
  refine lv_iload_n hx hb dX0_goIn_11 rfl (lv_at hl 4 rfl) ?_
  refine lv_iload hx hb dX0_goIn_12 (lv_at hl 5 rfl) ?_
  refine t_cSi (n := 4) (As := [.ref p1, .ref p2, .int p3, .int p4]) (rest := []) X hT (kt54_X0_byWall l G tag L F hT.2.2.2 p1 p2 p3 p4 m1 g1 m2 g2) qw_1031 qw_1032 qw_36 qw_1033 ⟨by decide +kernel, by decide +kernel, by decide +kernel⟩ ⟨Nat.le_of_ble_eq_true rfl, Nat.le_of_ble_eq_true rfl⟩ hl rfl rfl (Nat.le_of_ble_eq_true rfl) dX0_goIn_14 ⟨Nat.le_of_ble_eq_true rfl, Nat.le_of_ble_eq_true rfl⟩ (fun z17633 F9 H locs hT hz17633 => ?_)
  obtain ⟨fz17633, hz17633⟩ := hz17633
  rw [fz17633] at hT
  refine lv_istore (lv' := [(6, .int z17633), (5, .int z17632), (0, .ref p0), (1, .ref p1), (2, .ref p2), (3, .int p3), (4, .int p4)]) hx hb dX0_goIn_17 hl (by decide) rfl (fun ls hl => ?_)
  refine lv_iload hx hb dX0_goIn_19 (lv_at hl 0 rfl) ?_
  refine lv_aload_n hx hb dX0_goIn_21 rfl (lv_at hl 4 rfl) ?_
  refine lv_iload_n hx hb dX0_goIn_22 rfl (lv_at hl 5 rfl) ?_
  refine lv_iload hx hb dX0_goIn_23 (lv_at hl 6 rfl) ?_
  refine t_cSi (n := 3) (As := [.ref p2, .int p3, .int p4]) (rest := [.int z17633]) X hT (kt53_X0_byDoor l G tag L F hT.2.2.2 p2 p3 p4 m2 g2) qw_1025 qw_1026 qw_36 qw_1027 ⟨by decide +kernel, by decide +kernel, by decide +kernel⟩ ⟨Nat.le_of_ble_eq_true rfl, Nat.le_of_ble_eq_true rfl⟩ hl rfl rfl (Nat.le_of_ble_eq_true rfl) dX0_goIn_25 ⟨Nat.le_of_ble_eq_true rfl, Nat.le_of_ble_eq_true rfl⟩ (fun z17634 F9 H locs hT hz17634 => ?_)
  obtain ⟨fz17634, hz17634⟩ := hz17634
  rw [fz17634] at hT
  refine t_mmin X hl qw_1017 qw_1018 qw_850 qw_1019 (Nat.le_of_ble_eq_true rfl) (Nat.le_of_ble_eq_true rfl) (Nat.le_of_ble_eq_true rfl) (Nat.le_of_ble_eq_true rfl) dX0_goIn_28 (fun z17635 ez17635 => ?_)
  have hz17635 := mmin_e ez17635 (rfl : z17633.toInt = z17633.toInt) (rfl : z17634.toInt = z17634.toInt)
  refine lv_istore (lv' := [(7, .int z17635), (6, .int z17633), (5, .int z17632), (0, .ref p0), (1, .ref p1), (2, .ref p2), (3, .int p3), (4, .int p4)]) hx hb dX0_goIn_31 hl (by decide) rfl (fun ls hl => ?_)
  refine lv_aload_n hx hb dX0_goIn_33 rfl (lv_at hl 3 rfl) ?_
  refine t_get (C := RX0) (T := TX0) (N := 2) X hT m0 g0 rfl rfl 1 (by decide) qw_89 inlX0 rfl dX0_goIn_34 (fun v17636 hv17636 ov17636 => ?_)
  obtain ⟨b17637, rfl, mb17637, gb17637⟩ := okV_r ov17636
  have gb17637 : tag b17637 = 12 := tg_of gb17637
  refine t_cSv (n := 1) (As := [.ref b17637]) (rest := []) X hT (kt52_X0_empty l G tag L F hT.2.2.2 b17637 mb17637 gb17637) qw_1020 qw_1021 qw_36 qw_1022 ⟨by decide +kernel, by decide +kernel, by decide +kernel⟩ ⟨Nat.le_of_ble_eq_true rfl, Nat.le_of_ble_eq_true rfl⟩ hl rfl rfl (Nat.le_of_ble_eq_true rfl) dX0_goIn_37 ⟨Nat.le_of_ble_eq_true rfl, Nat.le_of_ble_eq_true rfl⟩ (fun F H locs hT hz17638 => ?_)
  have yz17638 := hz17638
  have hv17636 := (yz17638 _ 1 ).trans hv17636
  have hfr : ∀ b j : Nat, (tag b ≠ 21 ∨ j ≠ 0) → (tag b ≠ 21 ∨ j ≠ 1) → fld F b j = fld Fo b j := fun b j n21_0 n21_1 => (yz17638 b j ).trans (hfr b j n21_0 n21_1)
  refine lv_iconst (v := 0) hx hb dX0_goIn_40 (by decide) ?_
  refine lv_istore (lv' := [(8, .int 0), (7, .int z17635), (6, .int z17633), (5, .int z17632), (0, .ref p0), (1, .ref p1), (2, .ref p2), (3, .int p3), (4, .int p4)]) hx hb dX0_goIn_41 hl (by decide) rfl (fun ls hl => ?_)
  have kk17639 : (0 : Int32).toInt = 0 := by decide
  exact K43 49 z17632 z17633 z17635 0 _ _ _ _ (by omega) (by decide) hT hfr  (lv_sub hl [4, 5, 6, 7, 8, 3, 2, 1, 0] rfl)
