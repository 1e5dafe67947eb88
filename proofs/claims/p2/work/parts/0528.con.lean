set_option maxHeartbeats 4000000 in
set_option maxRecDepth 100000 in
theorem kt224_X8_byteAt (l : Launch) (G : KG) (tag : Nat → Nat) (L : List Nat) (F : Nat → va_E) (ho : okT G ttC tag L F) (p0 : Nat) (p1 : Int32) (x0 : Nat) (m0 : p0 ∈ L) (g0 : tag p0 = 24) (mx0 : x0 ∈ L) (gx0 : tag x0 = 1) (pf0 : fld F p0 0 = .ref x0) : TMi l yX8_byteAt cX8_byteAt 2 (some .int) { frames := 0, cells := 0, slots := 0, locals := 0 } G ttC tag L F [.ref p0, .int p1] (fun r F1 => F1 = F ∧ (((-1) ≤ r.toInt ∧ r.toInt ≤ 255) ∧ (r.toInt ≠ (-1) → (0 ≤ p1.toInt ∧ p1.toInt ≤ 999)))) := by
  refine t_bodyi (y := yX8_byteAt) (cd := cX8_byteAt) (mL := 2) (rt := (some .int)) (rm := { frames := 0, cells := 0, slots := 0, locals := 0 }) (av := [.ref p0, .int p1]) (by decide) (Nat.le_of_ble_eq_true rfl) ho ?_
  intro p e s m args below meth c ls A Q hQ X hT hl
  have hx := X.1.1
  have hb := X.1.2.1
  have hl : lv_has ls 2 [(0, .ref p0), (1, .int p1)] := hl
  have rp1 := rg_all p1
  refine lv_iload_n hx hb dX8_byteAt_0 rfl (lv_at hl 1 rfl) ?_
  refine lv_if_lt (tgt := 30) hx hb dX8_byteAt_1 (by decide) (fun c80693 => ?_) (fun c80693 => ?_)
  · have w80694 := cv_lt (rfl : p1.toInt = p1.toInt) (by decide : (0 : Int32).toInt = 0) c80693
    refine lv_iconst (v := (-1)) hx hb dX8_byteAt_30 (by decide) ?_
    exact t_iret hQ X hT (⟨rfl, ⟨(by decide), fun h => absurd (by decide) h⟩⟩) (Nat.le_of_ble_eq_true rfl) (Nat.le_of_ble_eq_true rfl) dX8_byteAt_31
  · have w80695 := cv_nlt (rfl : p1.toInt = p1.toInt) (by decide : (0 : Int32).toInt = 0) c80693
    refine lv_iload_n hx hb dX8_byteAt_4 rfl (lv_at hl 1 rfl) ?_
    refine lv_aload_n hx hb dX8_byteAt_5 rfl (lv_at hl 0 rfl) ?_
    refine t_get (C := RX8) (T := TX8) (N := 8) X hT m0 g0 rfl rfl 1 (by decide) qw_194 inlX8 rfl dX8_byteAt_6 (fun v80696 hv80696 ov80696 => ?_)
    obtain ⟨z80697, rfl, rz80697⟩ := okV_i ov80696
    refine lv_icmp_ge (tgt := 30) hx hb dX8_byteAt_9 (by decide) (fun c80698 => ?_) (fun c80698 => ?_)
    · have w80699 := cv_le (rfl : z80697.toInt = z80697.toInt) (rfl : p1.toInt = p1.toInt) c80698
      refine lv_iconst (v := (-1)) hx hb dX8_byteAt_30 (by decide) ?_
      exact t_iret hQ X hT (⟨rfl, ⟨(by decide), fun h => absurd (by decide) h⟩⟩) (Nat.le_of_ble_eq_true rfl) (Nat.le_of_ble_eq_true rfl) dX8_byteAt_31
    · have w80700 := cv_nle (rfl : z80697.toInt = z80697.toInt) (rfl : p1.toInt = p1.toInt) c80698
      refine lv_iload_n hx hb dX8_byteAt_12 rfl (lv_at hl 1 rfl) ?_
      refine lv_aload_n hx hb dX8_byteAt_13 rfl (lv_at hl 0 rfl) ?_
      refine t_get (C := RX8) (T := TX8) (N := 8) X hT m0 g0 rfl rfl 0 (by decide) qw_193 inlX8 rfl dX8_byteAt_14 (fun v80701 hv80701 ov80701 => ?_)
      obtain rfl : v80701 = .ref x0 := hv80701.symm.trans pf0
      refine t_alen X hT mx0 gx0 rfl (by decide) dX8_byteAt_17 ?_
      refine lv_topi (fun z80702 ez80702 => ?_)
      obtain rfl : z80702 = 1000 := ez80702.trans (by rfl)
      refine lv_icmp_ge (tgt := 30) hx hb dX8_byteAt_18 (by decide) (fun c80703 => ?_) (fun c80703 => ?_)
      · have w80704 := cv_le (by decide : (1000 : Int32).toInt = 1000) (rfl : p1.toInt = p1.toInt) c80703
        exfalso
        omega
      · have w80705 := cv_nle (by decide : (1000 : Int32).toInt = 1000) (rfl : p1.toInt = p1.toInt) c80703
        refine lv_aload_n hx hb dX8_byteAt_21 rfl (lv_at hl 0 rfl) ?_
        refine t_get (C := RX8) (T := TX8) (N := 8) X hT m0 g0 rfl rfl 0 (by decide) qw_193 inlX8 rfl dX8_byteAt_22 (fun v80706 hv80706 ov80706 => ?_)
        obtain rfl : v80706 = .ref x0 := hv80706.symm.trans pf0
        refine lv_iload_n hx hb dX8_byteAt_25 rfl (lv_at hl 1 rfl) ?_
        refine t_ild X hT mx0 gx0 rfl (by omega) dX8_byteAt_26 (fun z80707 vz80707 rz80707 => ?_)
        have rz80707 : 0 ≤ z80707.toInt ∧ z80707.toInt ≤ 255 := rz80707
        refine lv_goto (tgt := 31) hx hb dX8_byteAt_27 (by decide) ?_
        exact t_iret hQ X hT (⟨rfl, ⟨(by omega), fun _ => by omega⟩⟩) (Nat.le_of_ble_eq_true rfl) (Nat.le_of_ble_eq_true rfl) dX8_byteAt_31
set_option maxHeartbeats 4000000 in
set_option maxRecDepth 100000 in
theorem kt225_X8_isDigit (l : Launch) (G : KG) (tag : Nat → Nat) (L : List Nat) (F : Nat → va_E) (ho : okT G ttC tag L F) (p0 : Int32)  : TMi l yX8_isDigit cX8_isDigit 1 (some .boolean) { frames := 0, cells := 0, slots := 0, locals := 0 } G ttC tag L F [.int p0] (fun r F1 => F1 = F ∧ (0 ≤ r.toInt ∧ r.toInt ≤ 1)) := by
  refine t_bodyi (y := yX8_isDigit) (cd := cX8_isDigit) (mL := 1) (rt := (some .boolean)) (rm := { frames := 0, cells := 0, slots := 0, locals := 0 }) (av := [.int p0]) (by decide) (Nat.le_of_ble_eq_true rfl) ho ?_
  intro p e s m args below meth c ls A Q hQ X hT hl
  have hx := X.1.1
  have hb := X.1.2.1
  have hl : lv_has ls 1 [(0, .int p0)] := hl
  have rp0 := rg_all p0
  refine lv_iload_n hx hb dX8_isDigit_0 rfl (lv_at hl 0 rfl) ?_
  refine lv_bipush (v := 48) hx hb dX8_isDigit_1 (by decide) ?_
  refine lv_icmp_lt (tgt := 16) hx hb dX8_isDigit_3 (by decide) (fun c80774 => ?_) (fun c80774 => ?_)
  · have w80775 := cv_lt (rfl : p0.toInt = p0.toInt) (by decide : (48 : Int32).toInt = 48) c80774
    refine lv_iconst (v := 0) hx hb dX8_isDigit_16 (by decide) ?_
    exact t_zret hQ X hT (by decide) (⟨rfl, (by decide)⟩) (Nat.le_of_ble_eq_true rfl) (Nat.le_of_ble_eq_true rfl) dX8_isDigit_17
  · have w80776 := cv_nlt (rfl : p0.toInt = p0.toInt) (by decide : (48 : Int32).toInt = 48) c80774
    refine lv_iload_n hx hb dX8_isDigit_6 rfl (lv_at hl 0 rfl) ?_
    refine lv_bipush (v := 57) hx hb dX8_isDigit_7 (by decide) ?_
    refine lv_icmp_gt (tgt := 16) hx hb dX8_isDigit_9 (by decide) (fun c80777 => ?_) (fun c80777 => ?_)
    · have w80778 := cv_lt (by decide : (57 : Int32).toInt = 57) (rfl : p0.toInt = p0.toInt) c80777
      refine lv_iconst (v := 0) hx hb dX8_isDigit_16 (by decide) ?_
      exact t_zret hQ X hT (by decide) (⟨rfl, (by decide)⟩) (Nat.le_of_ble_eq_true rfl) (Nat.le_of_ble_eq_true rfl) dX8_isDigit_17
    · have w80779 := cv_nlt (by decide : (57 : Int32).toInt = 57) (rfl : p0.toInt = p0.toInt) c80777
      refine lv_iconst (v := 1) hx hb dX8_isDigit_12 (by decide) ?_
      refine lv_goto (tgt := 17) hx hb dX8_isDigit_13 (by decide) ?_
      exact t_zret hQ X hT (by decide) (⟨rfl, (by decide)⟩) (Nat.le_of_ble_eq_true rfl) (Nat.le_of_ble_eq_true rfl) dX8_isDigit_17
set_option maxHeartbeats 4000000 in
set_option maxRecDepth 100000 in
theorem kt226_X8_isLetter (l : Launch) (G : KG) (tag : Nat → Nat) (L : List Nat) (F : Nat → va_E) (ho : okT G ttC tag L F) (p0 : Int32)  : TMi l yX8_isLetter cX8_isLetter 1 (some .boolean) { frames := 0, cells := 0, slots := 0, locals := 0 } G ttC tag L F [.int p0] (fun r F1 => F1 = F ∧ (0 ≤ r.toInt ∧ r.toInt ≤ 1)) := by
  refine t_bodyi (y := yX8_isLetter) (cd := cX8_isLetter) (mL := 1) (rt := (some .boolean)) (rm := { frames := 0, cells := 0, slots := 0, locals := 0 }) (av := [.int p0]) (by decide) (Nat.le_of_ble_eq_true rfl) ho ?_
  intro p e s m args below meth c ls A Q hQ X hT hl
  have hx := X.1.1
  have hb := X.1.2.1
  have hl : lv_has ls 1 [(0, .int p0)] := hl
  have rp0 := rg_all p0
  refine lv_iload_n hx hb dX8_isLetter_0 rfl (lv_at hl 0 rfl) ?_
  refine lv_bipush (v := 97) hx hb dX8_isLetter_1 (by decide) ?_
  refine lv_icmp_lt (tgt := 16) hx hb dX8_isLetter_3 (by decide) (fun c80846 => ?_) (fun c80846 => ?_)
  · have w80847 := cv_lt (rfl : p0.toInt = p0.toInt) (by decide : (97 : Int32).toInt = 97) c80846
    refine lv_iconst (v := 0) hx hb dX8_isLetter_16 (by decide) ?_
    exact t_zret hQ X hT (by decide) (⟨rfl, (by decide)⟩) (Nat.le_of_ble_eq_true rfl) (Nat.le_of_ble_eq_true rfl) dX8_isLetter_17
  · have w80848 := cv_nlt (rfl : p0.toInt = p0.toInt) (by decide : (97 : Int32).toInt = 97) c80846
    refine lv_iload_n hx hb dX8_isLetter_6 rfl (lv_at hl 0 rfl) ?_
    refine lv_bipush (v := 122) hx hb dX8_isLetter_7 (by decide) ?_
    refine lv_icmp_gt (tgt := 16) hx hb dX8_isLetter_9 (by decide) (fun c80849 => ?_) (fun c80849 => ?_)
    · have w80850 := cv_lt (by decide : (122 : Int32).toInt = 122) (rfl : p0.toInt = p0.toInt) c80849
      refine lv_iconst (v := 0) hx hb dX8_isLetter_16 (by decide) ?_
      exact t_zret hQ X hT (by decide) (⟨rfl, (by decide)⟩) (Nat.le_of_ble_eq_true rfl) (Nat.le_of_ble_eq_true rfl) dX8_isLetter_17
    · have w80851 := cv_nlt (by decide : (122 : Int32).toInt = 122) (rfl : p0.toInt = p0.toInt) c80849
      refine lv_iconst (v := 1) hx hb dX8_isLetter_12 (by decide) ?_
      refine lv_goto (tgt := 17) hx hb dX8_isLetter_13 (by decide) ?_
      exact t_zret hQ X hT (by decide) (⟨rfl, (by decide)⟩) (Nat.le_of_ble_eq_true rfl) (Nat.le_of_ble_eq_true rfl) dX8_isLetter_17
set_option maxHeartbeats 4000000 in
set_option maxRecDepth 100000 in
theorem kt227_X8_takeWhole (l : Launch) (G : KG) (tag : Nat → Nat) (L : List Nat) (Fo : Nat → va_E) (ho : okT G ttC tag L Fo) (p0 : Nat) (x0 : Nat) (m0 : p0 ∈ L) (g0 : tag p0 = 24) (mx0 : x0 ∈ L) (gx0 : tag x0 = 1) (pf0 : fld Fo p0 0 = .ref x0) : TMv l yX8_takeWhole cX8_takeWhole 1 { frames := 1, cells := 0, slots := 0, locals := 21 } G ttC tag L Fo [.ref p0] (fun F1 => ∀ b j : Nat, (tag b ≠ 24 ∨ j ≠ 2) → (tag b ≠ 24 ∨ j ≠ 3) → (tag b ≠ 24 ∨ j ≠ 6) → fld F1 b j = fld Fo b j) := by
  refine t_bodyv (y := yX8_takeWhole) (cd := cX8_takeWhole) (mL := 1) (rm := { frames := 1, cells := 0, slots := 0, locals := 21 }) (av := [.ref p0]) (by decide) (Nat.le_of_ble_eq_true rfl) ho ?_
  intro p e s m args below meth c ls A Q hQ X hT hl
  have hx := X.1.1
  have hb := X.1.2.1
  have hl : lv_has ls 1 [(0, .ref p0)] := hl
  obtain ⟨F, hFo⟩ : ∃ F : Nat → va_E, F = Fo := ⟨_, rfl⟩
  rw [← hFo] at hT
  have hfr : ∀ b j : Nat, (tag b ≠ 24 ∨ j ≠ 2) → (tag b ≠ 24 ∨ j ≠ 3) → (tag b ≠ 24 ∨ j ≠ 6) → fld F b j = fld Fo b j := by
    rw [hFo]
    intros
    rfl
  have K85 : ∀ (z81485 : Int32) (b81486 : Nat) (z81487 : Int32) (z81488 : Int32) (z81489 : Int32) (z81490 : Int32) (F : Nat → va_E) (H : Heap) (locs : List Loc) (ls : Array Slot), (2 ≤ z81485.toInt ∧ z81485.toInt ≤ 4) → (b81486 ∈ L) → (tag b81486 = 24) → (0 ≤ z81488.toInt ∧ z81488.toInt ≤ 1000) → (0 ≤ z81489.toInt ∧ z81489.toInt ≤ 1000) → (0 ≤ z81490.toInt ∧ z81490.toInt ≤ 1000) → TH G ttC A s tag L F H locs → (∀ b j : Nat, (tag b ≠ 24 ∨ j ≠ 2) → (tag b ≠ 24 ∨ j ≠ 3) → (tag b ≠ 24 ∨ j ≠ 6) → fld F b j = fld Fo b j) → fld F p0 0 = .ref x0 → fld F p0 6 = .int z81487 → fld F p0 2 = .int z81488 → fld F p0 1 = .int z81489 → fld F p0 4 = .int z81490 → lv_has ls 1 [(0, .ref p0)] → W p l e { frames := 1, cells := 0, slots := 0, locals := 21 } s m args below meth c H locs 0 0 Q (F0 m 85 ls [.int z81485, .ref b81486]) := by
    intro z81485 b81486 z81487 z81488 z81489 z81490 F H locs ls rz81485 mb81486 gb81486 rz81488 rz81489 rz81490 hT hfr pf0 qz81487 qz81488 qz81489 qz81490 hl
    have rz81487 := rg_all z81487
    refine t_put (C := RX8) (T := TX8) (N := 8) (v := .int z81485) X hT mb81486 gb81486 rfl tyX8 tyX8_ok nmX8 rfl 3 (by decide) qw_202 inlX8 rfl (by first | rfl | decide) (by first | rfl | decide) rfl (⟨_, rfl, (by omega), (by omega)⟩) dX8_takeWhole_85 (fun F H locs hT v81491 h1v81491 h2v81491 => ?_)
    have qz81487 := (h1v81491 _ _ (Or.inr (by decide))).trans qz81487
    have qz81488 := (h1v81491 _ _ (Or.inr (by decide))).trans qz81488
    have qz81489 := (h1v81491 _ _ (Or.inr (by decide))).trans qz81489
    have qz81490 := (h1v81491 _ _ (Or.inr (by decide))).trans qz81490
    have pf0 := (h1v81491 _ _ (Or.inr (by decide))).trans pf0
    have hfr : ∀ b j : Nat, (tag b ≠ 24 ∨ j ≠ 2) → (tag b ≠ 24 ∨ j ≠ 3) → (tag b ≠ 24 ∨ j ≠ 6) → fld F b j = fld Fo b j := fun b j n24_2 n24_3 n24_6 => (h1v81491 b j (fr_ne gb81486 n24_3)).trans (hfr b j n24_2 n24_3 n24_6)
    exact t_vret hQ X hT hfr (Nat.le_of_ble_eq_true rfl) (Nat.le_of_ble_eq_true rfl) dX8_takeWhole_88
  have K66 : ∀ (z81492 : Int32) (z81493 : Int32) (z81494 : Int32) (F : Nat → va_E) (H : Heap) (locs : List Loc) (ls : Array Slot), (0 ≤ z81493.toInt ∧ z81493.toInt ≤ 1000) → (0 ≤ z81494.toInt ∧ z81494.toInt ≤ 1000) → TH G ttC A s tag L F H locs → (∀ b j : Nat, (tag b ≠ 24 ∨ j ≠ 2) → (tag b ≠ 24 ∨ j ≠ 3) → (tag b ≠ 24 ∨ j ≠ 6) → fld F b j = fld Fo b j) → fld F p0 0 = .ref x0 → fld F p0 6 = .int z81492 → fld F p0 2 = .int z81493 → fld F p0 1 = .int z81494 → lv_has ls 1 [(0, .ref p0)] → W p l e { frames := 1, cells := 0, slots := 0, locals := 21 } s m args below meth c H locs 0 0 Q (F0 m 66 ls []) := by
    intro z81492 z81493 z81494 F H locs ls rz81493 rz81494 hT hfr pf0 qz81492 qz81493 qz81494 hl
    have rz81492 := rg_all z81492
    refine lv_aload_n hx hb dX8_takeWhole_66 rfl (lv_at hl 0 rfl) ?_
    refine lv_aload_n hx hb dX8_takeWhole_67 rfl (lv_at hl 0 rfl) ?_
    refine t_get (C := RX8) (T := TX8) (N := 8) X hT m0 g0 rfl rfl 2 (by decide) qw_195 inlX8 rfl dX8_takeWhole_68 (fun v81495 hv81495 ov81495 => ?_)
    obtain rfl : v81495 = .int z81493 := hv81495.symm.trans qz81493
    refine lv_aload_n hx hb dX8_takeWhole_71 rfl (lv_at hl 0 rfl) ?_
    refine t_get (C := RX8) (T := TX8) (N := 8) X hT m0 g0 rfl rfl 4 (by decide) qw_200 inlX8 rfl dX8_takeWhole_72 (fun v81496 hv81496 ov81496 => ?_)
    obtain ⟨z81497, rfl, rz81497⟩ := okV_i ov81496
    refine lv_isub hx hb dX8_takeWhole_75 ?_
    refine lv_topi (fun z81498 ez81498 => ?_)
    have hz81498 : z81498.toInt = z81493.toInt - z81497.toInt := ar_sub ez81498 (rfl : z81493.toInt = z81493.toInt) (rfl : z81497.toInt = z81497.toInt) (by omega) (by omega)
    have rz81498 : (-1000) ≤ z81498.toInt ∧ z81498.toInt ≤ 1000 := by omega
    refine lv_iconst (v := 3) hx hb dX8_takeWhole_76 (by decide) ?_
    refine lv_icmp_le (tgt := 84) hx hb dX8_takeWhole_77 (by decide) (fun c81499 => ?_) (fun c81499 => ?_)
    · have w81500 := cv_le (rfl : z81498.toInt = z81498.toInt) (by decide : (3 : Int32).toInt = 3) c81499
      refine lv_iconst (v := 2) hx hb dX8_takeWhole_84 (by decide) ?_
      exact K85 2 p0 z81492 z81493 z81494 z81497 _ _ _ _ (by decide) m0 g0 (by omega) (by omega) (by omega) hT hfr pf0 qz81492 qz81493 qz81494 hv81496 (lv_sub hl [0] rfl)
    · have w81501 := cv_nle (rfl : z81498.toInt = z81498.toInt) (by decide : (3 : Int32).toInt = 3) c81499
      refine lv_iconst (v := 4) hx hb dX8_takeWhole_80 (by decide) ?_
      refine lv_goto (tgt := 85) hx hb dX8_takeWhole_81 (by decide) ?_
      exact K85 4 p0 z81492 z81493 z81494 z81497 _ _ _ _ (by decide) m0 g0 (by omega) (by omega) (by omega) hT hfr pf0 qz81492 qz81493 qz81494 hv81496 (lv_sub hl [0] rfl)
  have K5 : ∀ (n : Nat) (z81502 : Int32) (z81503 : Int32) (F : Nat → va_E) (H : Heap) (locs : List Loc) (ls : Array Slot), (1000 - z81503.toInt < (n : Int)) → (0 ≤ z81503.toInt ∧ z81503.toInt ≤ 1000) → TH G ttC A s tag L F H locs → (∀ b j : Nat, (tag b ≠ 24 ∨ j ≠ 2) → (tag b ≠ 24 ∨ j ≠ 3) → (tag b ≠ 24 ∨ j ≠ 6) → fld F b j = fld Fo b j) → fld F p0 0 = .ref x0 → fld F p0 6 = .int z81502 → fld F p0 2 = .int z81503 → lv_has ls 1 [(0, .ref p0)] → W p l e { frames := 1, cells := 0, slots := 0, locals := 21 } s m args below meth c H locs 0 0 Q (F0 m 5 ls []) := by
    intro n
    induction n with
    | zero =>
      intro z81502 z81503 F H locs ls hn rz81503 hT hfr pf0 qz81502 qz81503 hl
      have rz81502 := rg_all z81502
      exfalso
      omega
    | succ n ih5 =>
      intro z81502 z81503 F H locs ls hn rz81503 hT hfr pf0 qz81502 qz81503 hl
      have rz81502 := rg_all z81502
      refine lv_aload_n hx hb dX8_takeWhole_5 rfl (lv_at hl 0 rfl) ?_
      refine t_get (C := RX8) (T := TX8) (N := 8) X hT m0 g0 rfl rfl 2 (by decide) qw_195 inlX8 rfl dX8_takeWhole_6 (fun v81504 hv81504 ov81504 => ?_)
      obtain rfl : v81504 = .int z81503 := hv81504.symm.trans qz81503
      refine lv_aload_n hx hb dX8_takeWhole_9 rfl (lv_at hl 0 rfl) ?_
      refine t_get (C := RX8) (T := TX8) (N := 8) X hT m0 g0 rfl rfl 1 (by decide) qw_194 inlX8 rfl dX8_takeWhole_10 (fun v81505 hv81505 ov81505 => ?_)
      obtain ⟨z81506, rfl, rz81506⟩ := okV_i ov81505
      refine lv_icmp_ge (tgt := 66) hx hb dX8_takeWhole_13 (by decide) (fun c81507 => ?_) (fun c81507 => ?_)
      · have w81508 := cv_le (rfl : z81506.toInt = z81506.toInt) (rfl : z81503.toInt = z81503.toInt) c81507
        exact K66 z81502 z81503 z81506 _ _ _ _ (by omega) (by omega) hT hfr pf0 qz81502 qz81503 hv81505 (lv_sub hl [0] rfl)
      · have w81509 := cv_nle (rfl : z81506.toInt = z81506.toInt) (rfl : z81503.toInt = z81503.toInt) c81507
        refine lv_aload_n hx hb dX8_takeWhole_16 rfl (lv_at hl 0 rfl) ?_
        refine lv_aload_n hx hb dX8_takeWhole_17 rfl (lv_at hl 0 rfl) ?_
        refine t_get (C := RX8) (T := TX8) (N := 8) X hT m0 g0 rfl rfl 2 (by decide) qw_195 inlX8 rfl dX8_takeWhole_18 (fun v81510 hv81510 ov81510 => ?_)
        obtain rfl : v81510 = .int z81503 := hv81510.symm.trans qz81503
        refine t_cVi (n := 1) (C := RX8) (T := TX8) (N := 8) (As := [.int z81503]) (rest := []) X hT (kt139_X8_byteAt l G tag L F hT.2.2.2 p0 z81503 x0 m0 g0 mx0 gx0 pf0) m0 g0 rfl rfl qw_204 qw_205 qw_206 qw_72 qw_207 ⟨rfl, by decide +kernel, by decide +kernel, by decide +kernel⟩ ⟨Nat.le_of_ble_eq_true rfl, Nat.le_of_ble_eq_true rfl⟩ hl rfl rfl (Nat.le_of_ble_eq_true rfl) dX8_takeWhole_21 ⟨Nat.le_of_ble_eq_true rfl, Nat.le_of_ble_eq_true rfl⟩ (fun z81511 F9 H locs hT hz81511 => ?_)
        obtain ⟨fz81511, hz81511⟩ := hz81511
        rw [fz81511] at hT
        obtain ⟨hz81511, iz81511⟩ := hz81511
        refine t_cSi (n := 1) (As := [.int z81511]) (rest := []) X hT (kt141_X8_isDigit l G tag L F hT.2.2.2 z81511 ) qw_216 qw_217 qw_72 qw_218 ⟨by decide +kernel, by decide +kernel, by decide +kernel⟩ ⟨Nat.le_of_ble_eq_true rfl, Nat.le_of_ble_eq_true rfl⟩ hl rfl rfl (Nat.le_of_ble_eq_true rfl) dX8_takeWhole_24 ⟨Nat.le_of_ble_eq_true rfl, Nat.le_of_ble_eq_true rfl⟩ (fun z81512 F9 H locs hT hz81512 => ?_)
        obtain ⟨fz81512, hz81512⟩ := hz81512
        rw [fz81512] at hT
        refine lv_if_eq (tgt := 66) hx hb dX8_takeWhole_27 (by decide) (fun c81513 => ?_) (fun c81513 => ?_)
        · have w81514 := cv_eq (rfl : z81512.toInt = z81512.toInt) (by decide : (0 : Int32).toInt = 0) c81513
          exact K66 z81502 z81503 z81506 _ _ _ _ (by omega) (by omega) hT hfr pf0 qz81502 qz81503 hv81505 (lv_sub hl [0] rfl)
        · have w81515 := cv_ne (rfl : z81512.toInt = z81512.toInt) (by decide : (0 : Int32).toInt = 0) c81513
          refine lv_aload_n hx hb dX8_takeWhole_30 rfl (lv_at hl 0 rfl) ?_
          refine lv_aload_n hx hb dX8_takeWhole_31 rfl (lv_at hl 0 rfl) ?_
          refine t_get (C := RX8) (T := TX8) (N := 8) X hT m0 g0 rfl rfl 6 (by decide) qw_203 inlX8 rfl dX8_takeWhole_32 (fun v81516 hv81516 ov81516 => ?_)
          obtain rfl : v81516 = .int z81502 := hv81516.symm.trans qz81502
          refine lv_bipush (v := 10) hx hb dX8_takeWhole_35 (by decide) ?_
          refine lv_imul hx hb dX8_takeWhole_37 ?_
          refine lv_topi (fun z81517 ez81517 => ?_)
          have rz81517 := rg_all z81517
          refine lv_aload_n hx hb dX8_takeWhole_38 rfl (lv_at hl 0 rfl) ?_
          refine lv_aload_n hx hb dX8_takeWhole_39 rfl (lv_at hl 0 rfl) ?_
          refine t_get (C := RX8) (T := TX8) (N := 8) X hT m0 g0 rfl rfl 2 (by decide) qw_195 inlX8 rfl dX8_takeWhole_40 (fun v81518 hv81518 ov81518 => ?_)
          obtain rfl : v81518 = .int z81503 := hv81518.symm.trans qz81503
          refine t_cVi (n := 1) (C := RX8) (T := TX8) (N := 8) (As := [.int z81503]) (rest := [.int z81517, .ref p0]) X hT (kt139_X8_byteAt l G tag L F hT.2.2.2 p0 z81503 x0 m0 g0 mx0 gx0 pf0) m0 g0 rfl rfl qw_204 qw_205 qw_206 qw_72 qw_207 ⟨rfl, by decide +kernel, by decide +kernel, by decide +kernel⟩ ⟨Nat.le_of_ble_eq_true rfl, Nat.le_of_ble_eq_true rfl⟩ hl rfl rfl (Nat.le_of_ble_eq_true rfl) dX8_takeWhole_43 ⟨Nat.le_of_ble_eq_true rfl, Nat.le_of_ble_eq_true rfl⟩ (fun z81519 F9 H locs hT hz81519 => ?_)
          obtain ⟨fz81519, hz81519⟩ := hz81519
          rw [fz81519] at hT
          obtain ⟨hz81519, iz81519⟩ := hz81519
          refine lv_iadd hx hb dX8_takeWhole_46 ?_
          refine lv_topi (fun z81520 ez81520 => ?_)
          have rz81520 := rg_all z81520
          refine lv_bipush (v := 48) hx hb dX8_takeWhole_47 (by decide) ?_
          refine lv_isub hx hb dX8_takeWhole_49 ?_
          refine lv_topi (fun z81521 ez81521 => ?_)
          have rz81521 := rg_all z81521
          refine t_put (C := RX8) (T := TX8) (N := 8) (v := .int z81521) X hT m0 g0 rfl tyX8 tyX8_ok nmX8 rfl 6 (by decide) qw_203 inlX8 rfl (by first | rfl | decide) (by first | rfl | decide) rfl (⟨_, rfl, (by omega), (by omega)⟩) dX8_takeWhole_50 (fun F H locs hT v81522 h1v81522 h2v81522 => ?_)
          have qz81503 := (h1v81522 _ _ (Or.inr (by decide))).trans qz81503
          have pf0 := (h1v81522 _ _ (Or.inr (by decide))).trans pf0
          have hv81505 := (h1v81522 _ _ (Or.inr (by decide))).trans hv81505
          have hfr : ∀ b j : Nat, (tag b ≠ 24 ∨ j ≠ 2) → (tag b ≠ 24 ∨ j ≠ 3) → (tag b ≠ 24 ∨ j ≠ 6) → fld F b j = fld Fo b j := fun b j n24_2 n24_3 n24_6 => (h1v81522 b j (fr_ne g0 n24_6)).trans (hfr b j n24_2 n24_3 n24_6)
          refine lv_aload_n hx hb dX8_takeWhole_53 rfl (lv_at hl 0 rfl) ?_
          refine lv_dup hx hb dX8_takeWhole_54 rfl ?_
          refine t_get (C := RX8) (T := TX8) (N := 8) X hT m0 g0 rfl rfl 2 (by decide) qw_195 inlX8 rfl dX8_takeWhole_55 (fun v81523 hv81523 ov81523 => ?_)
          obtain rfl : v81523 = .int z81503 := hv81523.symm.trans qz81503
          refine lv_iconst (v := 1) hx hb dX8_takeWhole_58 (by decide) ?_
          refine lv_iadd hx hb dX8_takeWhole_59 ?_
          refine lv_topi (fun z81524 ez81524 => ?_)
          have hz81524 : z81524.toInt = z81503.toInt + 1 := ar_add ez81524 (rfl : z81503.toInt = z81503.toInt) (by decide : (1 : Int32).toInt = 1) (by omega) (by omega)
          have rz81524 : 1 ≤ z81524.toInt ∧ z81524.toInt ≤ 1000 := by omega
          refine t_put (C := RX8) (T := TX8) (N := 8) (v := .int z81524) X hT m0 g0 rfl tyX8 tyX8_ok nmX8 rfl 2 (by decide) qw_195 inlX8 rfl (by first | rfl | decide) (by first | rfl | decide) rfl (⟨_, rfl, (by omega), (by omega)⟩) dX8_takeWhole_60 (fun F H locs hT v81525 h1v81525 h2v81525 => ?_)
          have pf0 := (h1v81525 _ _ (Or.inr (by decide))).trans pf0
          have hv81505 := (h1v81525 _ _ (Or.inr (by decide))).trans hv81505
          have v81522 := (h1v81525 _ _ (Or.inr (by decide))).trans v81522
          have hfr : ∀ b j : Nat, (tag b ≠ 24 ∨ j ≠ 2) → (tag b ≠ 24 ∨ j ≠ 3) → (tag b ≠ 24 ∨ j ≠ 6) → fld F b j = fld Fo b j := fun b j n24_2 n24_3 n24_6 => (h1v81525 b j (fr_ne g0 n24_2)).trans (hfr b j n24_2 n24_3 n24_6)
          refine lv_goto (tgt := 5) hx hb dX8_takeWhole_63 (by decide) ?_
          exact ih5 z81521 z81524 _ _ _ _ (by omega) (by omega) hT hfr pf0 v81522 v81525 (lv_sub hl [0] rfl)
  refine lv_aload_n hx hb dX8_takeWhole_0 rfl (lv_at hl 0 rfl) ?_
  refine lv_iconst (v := 0) hx hb dX8_takeWhole_1 (by decide) ?_
  refine t_put (C := RX8) (T := TX8) (N := 8) (v := .int 0) X hT m0 g0 rfl tyX8 tyX8_ok nmX8 rfl 6 (by decide) qw_203 inlX8 rfl (by first | rfl | decide) (by first | rfl | decide) rfl (⟨_, rfl, (by decide), (by decide)⟩) dX8_takeWhole_2 (fun F H locs hT v81526 h1v81526 h2v81526 => ?_)
  have pf0 := (h1v81526 _ _ (Or.inr (by decide))).trans pf0
  have hfr : ∀ b j : Nat, (tag b ≠ 24 ∨ j ≠ 2) → (tag b ≠ 24 ∨ j ≠ 3) → (tag b ≠ 24 ∨ j ≠ 6) → fld F b j = fld Fo b j := fun b j n24_2 n24_3 n24_6 => (h1v81526 b j (fr_ne g0 n24_6)).trans (hfr b j n24_2 n24_3 n24_6)
  obtain ⟨z81527, qz81527, rz81527⟩ := t_fld hT m0 g0 rfl 2 rfl
  have rz81527 : 0 ≤ z81527.toInt ∧ z81527.toInt ≤ 1000 := rz81527
  exact K5 1001 0 z81527 _ _ _ _ (by omega) (by omega) hT hfr pf0 v81526 qz81527 (lv_sub hl [0] rfl)
set_option maxHeartbeats 4000000 in
set_option maxRecDepth 100000 in
theorem kt228_X8_takeWord (l : Launch) (G : KG) (tag : Nat → Nat) (L : List Nat) (Fo : Nat → va_E) (ho : okT G ttC tag L Fo) (p0 : Nat) (x0 : Nat) (m0 : p0 ∈ L) (g0 : tag p0 = 24) (mx0 : x0 ∈ L) (gx0 : tag x0 = 1) (pf0 : fld Fo p0 0 = .ref x0) : TMv l yX8_takeWord cX8_takeWord 1 { frames := 1, cells := 0, slots := 0, locals := 21 } G ttC tag L Fo [.ref p0] (fun F1 => ∀ b j : Nat, (tag b ≠ 24 ∨ j ≠ 2) → (tag b ≠ 24 ∨ j ≠ 3) → (tag b ≠ 24 ∨ j ≠ 7) → fld F1 b j = fld Fo b j) := by
  refine t_bodyv (y := yX8_takeWord) (cd := cX8_takeWord) (mL := 1) (rm := { frames := 1, cells := 0, slots := 0, locals := 21 }) (av := [.ref p0]) (by decide) (Nat.le_of_ble_eq_true rfl) ho ?_
  intro p e s m args below meth c ls A Q hQ X hT hl
  have hx := X.1.1
  have hb := X.1.2.1
  have hl : lv_has ls 1 [(0, .ref p0)] := hl
  obtain ⟨F, hFo⟩ : ∃ F : Nat → va_E, F = Fo := ⟨_, rfl⟩
  rw [← hFo] at hT
  have hfr : ∀ b j : Nat, (tag b ≠ 24 ∨ j ≠ 2) → (tag b ≠ 24 ∨ j ≠ 3) → (tag b ≠ 24 ∨ j ≠ 7) → fld F b j = fld Fo b j := by
    rw [hFo]
    intros
    rfl
  have K88 : ∀ (z82042 : Int32) (b82043 : Nat) (z82044 : Int32) (z82045 : Int32) (z82046 : Int32) (F : Nat → va_E) (H : Heap) (locs : List Loc) (ls : Array Slot), (1 ≤ z82042.toInt ∧ z82042.toInt ≤ 4) → (b82043 ∈ L) → (tag b82043 = 24) → (0 ≤ z82044.toInt ∧ z82044.toInt ≤ 1000) → (0 ≤ z82045.toInt ∧ z82045.toInt ≤ 1000) → (0 ≤ z82046.toInt ∧ z82046.toInt ≤ 1000) → TH G ttC A s tag L F H locs → (∀ b j : Nat, (tag b ≠ 24 ∨ j ≠ 2) → (tag b ≠ 24 ∨ j ≠ 3) → (tag b ≠ 24 ∨ j ≠ 7) → fld F b j = fld Fo b j) → fld F p0 0 = .ref x0 → fld F p0 2 = .int z82044 → fld F p0 1 = .int z82045 → fld F p0 4 = .int z82046 → lv_has ls 1 [(0, .ref p0)] → W p l e { frames := 1, cells := 0, slots := 0, locals := 21 } s m args below meth c H locs 0 0 Q (F0 m 88 ls [.int z82042, .ref b82043]) := by
    intro z82042 b82043 z82044 z82045 z82046 F H locs ls rz82042 mb82043 gb82043 rz82044 rz82045 rz82046 hT hfr pf0 qz82044 qz82045 qz82046 hl
    refine t_put (C := RX8) (T := TX8) (N := 8) (v := .int z82042) X hT mb82043 gb82043 rfl tyX8 tyX8_ok nmX8 rfl 3 (by decide) qw_202 inlX8 rfl (by first | rfl | decide) (by first | rfl | decide) rfl (⟨_, rfl, (by omega), (by omega)⟩) dX8_takeWord_88 (fun F H locs hT v82047 h1v82047 h2v82047 => ?_)
    have qz82044 := (h1v82047 _ _ (Or.inr (by decide))).trans qz82044
    have qz82045 := (h1v82047 _ _ (Or.inr (by decide))).trans qz82045
    have qz82046 := (h1v82047 _ _ (Or.inr (by decide))).trans qz82046
    have pf0 := (h1v82047 _ _ (Or.inr (by decide))).trans pf0
    have hfr : ∀ b j : Nat, (tag b ≠ 24 ∨ j ≠ 2) → (tag b ≠ 24 ∨ j ≠ 3) → (tag b ≠ 24 ∨ j ≠ 7) → fld F b j = fld Fo b j := fun b j n24_2 n24_3 n24_7 => (h1v82047 b j (fr_ne gb82043 n24_3)).trans (hfr b j n24_2 n24_3 n24_7)
    exact t_vret hQ X hT hfr (Nat.le_of_ble_eq_true rfl) (Nat.le_of_ble_eq_true rfl) dX8_takeWord_91
  have K68 : ∀ (z82048 : Int32) (z82049 : Int32) (F : Nat → va_E) (H : Heap) (locs : List Loc) (ls : Array Slot), (0 ≤ z82048.toInt ∧ z82048.toInt ≤ 1000) → (0 ≤ z82049.toInt ∧ z82049.toInt ≤ 1000) → TH G ttC A s tag L F H locs → (∀ b j : Nat, (tag b ≠ 24 ∨ j ≠ 2) → (tag b ≠ 24 ∨ j ≠ 3) → (tag b ≠ 24 ∨ j ≠ 7) → fld F b j = fld Fo b j) → fld F p0 0 = .ref x0 → fld F p0 2 = .int z82048 → fld F p0 1 = .int z82049 → lv_has ls 1 [(0, .ref p0)] → W p l e { frames := 1, cells := 0, slots := 0, locals := 21 } s m args below meth c H locs 0 0 Q (F0 m 68 ls []) := by
    intro z82048 z82049 F H locs ls rz82048 rz82049 hT hfr pf0 qz82048 qz82049 hl
    refine lv_aload_n hx hb dX8_takeWord_68 rfl (lv_at hl 0 rfl) ?_
    refine lv_aload_n hx hb dX8_takeWord_69 rfl (lv_at hl 0 rfl) ?_
    refine t_get (C := RX8) (T := TX8) (N := 8) X hT m0 g0 rfl rfl 2 (by decide) qw_195 inlX8 rfl dX8_takeWord_70 (fun v82050 hv82050 ov82050 => ?_)
    obtain rfl : v82050 = .int z82048 := hv82050.symm.trans qz82048
    refine lv_aload_n hx hb dX8_takeWord_73 rfl (lv_at hl 0 rfl) ?_
    refine t_get (C := RX8) (T := TX8) (N := 8) X hT m0 g0 rfl rfl 4 (by decide) qw_200 inlX8 rfl dX8_takeWord_74 (fun v82051 hv82051 ov82051 => ?_)
    obtain ⟨z82052, rfl, rz82052⟩ := okV_i ov82051
    refine lv_isub hx hb dX8_takeWord_77 ?_
    refine lv_topi (fun z82053 ez82053 => ?_)
    have hz82053 : z82053.toInt = z82048.toInt - z82052.toInt := ar_sub ez82053 (rfl : z82048.toInt = z82048.toInt) (rfl : z82052.toInt = z82052.toInt) (by omega) (by omega)
    have rz82053 : (-1000) ≤ z82053.toInt ∧ z82053.toInt ≤ 1000 := by omega
    refine lv_bipush (v := 8) hx hb dX8_takeWord_78 (by decide) ?_
    refine lv_icmp_le (tgt := 87) hx hb dX8_takeWord_80 (by decide) (fun c82054 => ?_) (fun c82054 => ?_)
    · have w82055 := cv_le (rfl : z82053.toInt = z82053.toInt) (by decide : (8 : Int32).toInt = 8) c82054
      refine lv_iconst (v := 1) hx hb dX8_takeWord_87 (by decide) ?_
      exact K88 1 p0 z82048 z82049 z82052 _ _ _ _ (by decide) m0 g0 (by omega) (by omega) (by omega) hT hfr pf0 qz82048 qz82049 hv82051 (lv_sub hl [0] rfl)
    · have w82056 := cv_nle (rfl : z82053.toInt = z82053.toInt) (by decide : (8 : Int32).toInt = 8) c82054
      refine lv_iconst (v := 4) hx hb dX8_takeWord_83 (by decide) ?_
      refine lv_goto (tgt := 88) hx hb dX8_takeWord_84 (by decide) ?_
      exact K88 4 p0 z82048 z82049 z82052 _ _ _ _ (by decide) m0 g0 (by omega) (by omega) (by omega) hT hfr pf0 qz82048 qz82049 hv82051 (lv_sub hl [0] rfl)
  have K5 : ∀ (n : Nat) (z82057 : Int32) (F : Nat → va_E) (H : Heap) (locs : List Loc) (ls : Array Slot), (1000 - z82057.toInt < (n : Int)) → (0 ≤ z82057.toInt ∧ z82057.toInt ≤ 1000) → TH G ttC A s tag L F H locs → (∀ b j : Nat, (tag b ≠ 24 ∨ j ≠ 2) → (tag b ≠ 24 ∨ j ≠ 3) → (tag b ≠ 24 ∨ j ≠ 7) → fld F b j = fld Fo b j) → fld F p0 0 = .ref x0 → fld F p0 2 = .int z82057 → lv_has ls 1 [(0, .ref p0)] → W p l e { frames := 1, cells := 0, slots := 0, locals := 21 } s m args below meth c H locs 0 0 Q (F0 m 5 ls []) := by
    intro n
    induction n with
    | zero =>
      intro z82057 F H locs ls hn rz82057 hT hfr pf0 qz82057 hl
      exfalso
      omega
    | succ n ih5 =>
      intro z82057 F H locs ls hn rz82057 hT hfr pf0 qz82057 hl
      refine lv_aload_n hx hb dX8_takeWord_5 rfl (lv_at hl 0 rfl) ?_
      refine t_get (C := RX8) (T := TX8) (N := 8) X hT m0 g0 rfl rfl 2 (by decide) qw_195 inlX8 rfl dX8_takeWord_6 (fun v82058 hv82058 ov82058 => ?_)
      obtain rfl : v82058 = .int z82057 := hv82058.symm.trans qz82057
      refine lv_aload_n hx hb dX8_takeWord_9 rfl (lv_at hl 0 rfl) ?_
      refine t_get (C := RX8) (T := TX8) (N := 8) X hT m0 g0 rfl rfl 1 (by decide) qw_194 inlX8 rfl dX8_takeWord_10 (fun v82059 hv82059 ov82059 => ?_)
      obtain ⟨z82060, rfl, rz82060⟩ := okV_i ov82059
      refine lv_icmp_ge (tgt := 68) hx hb dX8_takeWord_13 (by decide) (fun c82061 => ?_) (fun c82061 => ?_)
      · have w82062 := cv_le (rfl : z82060.toInt = z82060.toInt) (rfl : z82057.toInt = z82057.toInt) c82061
        exact K68 z82057 z82060 _ _ _ _ (by omega) (by omega) hT hfr pf0 qz82057 hv82059 (lv_sub hl [0] rfl)
      · have w82063 := cv_nle (rfl : z82060.toInt = z82060.toInt) (rfl : z82057.toInt = z82057.toInt) c82061
        refine lv_aload_n hx hb dX8_takeWord_16 rfl (lv_at hl 0 rfl) ?_
        refine lv_aload_n hx hb dX8_takeWord_17 rfl (lv_at hl 0 rfl) ?_
        refine t_get (C := RX8) (T := TX8) (N := 8) X hT m0 g0 rfl rfl 2 (by decide) qw_195 inlX8 rfl dX8_takeWord_18 (fun v82064 hv82064 ov82064 => ?_)
        obtain rfl : v82064 = .int z82057 := hv82064.symm.trans qz82057
        refine t_cVi (n := 1) (C := RX8) (T := TX8) (N := 8) (As := [.int z82057]) (rest := []) X hT (kt139_X8_byteAt l G tag L F hT.2.2.2 p0 z82057 x0 m0 g0 mx0 gx0 pf0) m0 g0 rfl rfl qw_204 qw_205 qw_206 qw_72 qw_207 ⟨rfl, by decide +kernel, by decide +kernel, by decide +kernel⟩ ⟨Nat.le_of_ble_eq_true rfl, Nat.le_of_ble_eq_true rfl⟩ hl rfl rfl (Nat.le_of_ble_eq_true rfl) dX8_takeWord_21 ⟨Nat.le_of_ble_eq_true rfl, Nat.le_of_ble_eq_true rfl⟩ (fun z82065 F9 H locs hT hz82065 => ?_)
        obtain ⟨fz82065, hz82065⟩ := hz82065
        rw [fz82065] at hT
        obtain ⟨hz82065, iz82065⟩ := hz82065
        refine t_cSi (n := 1) (As := [.int z82065]) (rest := []) X hT (kt140_X8_isLetter l G tag L F hT.2.2.2 z82065 ) qw_208 qw_209 qw_72 qw_210 ⟨by decide +kernel, by decide +kernel, by decide +kernel⟩ ⟨Nat.le_of_ble_eq_true rfl, Nat.le_of_ble_eq_true rfl⟩ hl rfl rfl (Nat.le_of_ble_eq_true rfl) dX8_takeWord_24 ⟨Nat.le_of_ble_eq_true rfl, Nat.le_of_ble_eq_true rfl⟩ (fun z82066 F9 H locs hT hz82066 => ?_)
        obtain ⟨fz82066, hz82066⟩ := hz82066
        rw [fz82066] at hT
        refine lv_if_eq (tgt := 68) hx hb dX8_takeWord_27 (by decide) (fun c82067 => ?_) (fun c82067 => ?_)
        · have w82068 := cv_eq (rfl : z82066.toInt = z82066.toInt) (by decide : (0 : Int32).toInt = 0) c82067
          exact K68 z82057 z82060 _ _ _ _ (by omega) (by omega) hT hfr pf0 qz82057 hv82059 (lv_sub hl [0] rfl)
        · have w82069 := cv_ne (rfl : z82066.toInt = z82066.toInt) (by decide : (0 : Int32).toInt = 0) c82067
          refine lv_aload_n hx hb dX8_takeWord_30 rfl (lv_at hl 0 rfl) ?_
          refine lv_aload_n hx hb dX8_takeWord_31 rfl (lv_at hl 0 rfl) ?_
          refine t_get (C := RX8) (T := TX8) (N := 8) X hT m0 g0 rfl rfl 7 (by decide) qw_215 inlX8 rfl dX8_takeWord_32 (fun v82070 hv82070 ov82070 => ?_)
          obtain ⟨z82071, rfl⟩ := ov82070
          refine lv_iconst (v := 5) hx hb dX8_takeWord_35 (by decide) ?_
          refine lv_lshl hx hb dX8_takeWord_36 rfl ?_
          refine lv_topl (fun z82072 ez82072 => ?_)
          refine lv_aload_n hx hb dX8_takeWord_37 rfl (lv_at hl 0 rfl) ?_
          refine lv_aload_n hx hb dX8_takeWord_38 rfl (lv_at hl 0 rfl) ?_
          refine t_get (C := RX8) (T := TX8) (N := 8) X hT m0 g0 rfl rfl 2 (by decide) qw_195 inlX8 rfl dX8_takeWord_39 (fun v82073 hv82073 ov82073 => ?_)
          obtain rfl : v82073 = .int z82057 := hv82073.symm.trans qz82057
          refine t_cVi (n := 1) (C := RX8) (T := TX8) (N := 8) (As := [.int z82057]) (rest := [.long z82072, .ref p0]) X hT (kt139_X8_byteAt l G tag L F hT.2.2.2 p0 z82057 x0 m0 g0 mx0 gx0 pf0) m0 g0 rfl rfl qw_204 qw_205 qw_206 qw_72 qw_207 ⟨rfl, by decide +kernel, by decide +kernel, by decide +kernel⟩ ⟨Nat.le_of_ble_eq_true rfl, Nat.le_of_ble_eq_true rfl⟩ hl rfl rfl (Nat.le_of_ble_eq_true rfl) dX8_takeWord_42 ⟨Nat.le_of_ble_eq_true rfl, Nat.le_of_ble_eq_true rfl⟩ (fun z82074 F9 H locs hT hz82074 => ?_)
          obtain ⟨fz82074, hz82074⟩ := hz82074
          rw [fz82074] at hT
          obtain ⟨hz82074, iz82074⟩ := hz82074
          refine lv_bipush (v := 97) hx hb dX8_takeWord_45 (by decide) ?_
          refine lv_isub hx hb dX8_takeWord_47 ?_
          refine lv_topi (fun z82075 ez82075 => ?_)
          have hz82075 : z82075.toInt = z82074.toInt - 97 := ar_sub ez82075 (rfl : z82074.toInt = z82074.toInt) (by decide : (97 : Int32).toInt = 97) (by omega) (by omega)
          have rz82075 : (-98) ≤ z82075.toInt ∧ z82075.toInt ≤ 158 := by omega
          refine lv_iconst (v := 1) hx hb dX8_takeWord_48 (by decide) ?_
          refine lv_iadd hx hb dX8_takeWord_49 ?_
          refine lv_topi (fun z82076 ez82076 => ?_)
          have hz82076 : z82076.toInt = z82075.toInt + 1 := ar_add ez82076 (rfl : z82075.toInt = z82075.toInt) (by decide : (1 : Int32).toInt = 1) (by omega) (by omega)
          have rz82076 : (-97) ≤ z82076.toInt ∧ z82076.toInt ≤ 159 := by omega
          refine lv_i2l hx hb dX8_takeWord_50 rfl ?_
          refine lv_topl (fun z82077 ez82077 => ?_)
          refine lv_lor hx hb dX8_takeWord_51 ?_
          refine lv_topl (fun z82078 ez82078 => ?_)
          refine t_put (C := RX8) (T := TX8) (N := 8) (v := .long z82078) X hT m0 g0 rfl tyX8 tyX8_ok nmX8 rfl 7 (by decide) qw_215 inlX8 rfl (by first | rfl | decide) (by first | rfl | decide) rfl (⟨_, rfl⟩) dX8_takeWord_52 (fun F H locs hT v82079 h1v82079 h2v82079 => ?_)
          have qz82057 := (h1v82079 _ _ (Or.inr (by decide))).trans qz82057
          have pf0 := (h1v82079 _ _ (Or.inr (by decide))).trans pf0
          have hv82059 := (h1v82079 _ _ (Or.inr (by decide))).trans hv82059
          have hfr : ∀ b j : Nat, (tag b ≠ 24 ∨ j ≠ 2) → (tag b ≠ 24 ∨ j ≠ 3) → (tag b ≠ 24 ∨ j ≠ 7) → fld F b j = fld Fo b j := fun b j n24_2 n24_3 n24_7 => (h1v82079 b j (fr_ne g0 n24_7)).trans (hfr b j n24_2 n24_3 n24_7)
          refine lv_aload_n hx hb dX8_takeWord_55 rfl (lv_at hl 0 rfl) ?_
          refine lv_dup hx hb dX8_takeWord_56 rfl ?_
          refine t_get (C := RX8) (T := TX8) (N := 8) X hT m0 g0 rfl rfl 2 (by decide) qw_195 inlX8 rfl dX8_takeWord_57 (fun v82080 hv82080 ov82080 => ?_)
          obtain rfl : v82080 = .int z82057 := hv82080.symm.trans qz82057
          refine lv_iconst (v := 1) hx hb dX8_takeWord_60 (by decide) ?_
          refine lv_iadd hx hb dX8_takeWord_61 ?_
          refine lv_topi (fun z82081 ez82081 => ?_)
          have hz82081 : z82081.toInt = z82057.toInt + 1 := ar_add ez82081 (rfl : z82057.toInt = z82057.toInt) (by decide : (1 : Int32).toInt = 1) (by omega) (by omega)
          have rz82081 : 1 ≤ z82081.toInt ∧ z82081.toInt ≤ 1000 := by omega
          refine t_put (C := RX8) (T := TX8) (N := 8) (v := .int z82081) X hT m0 g0 rfl tyX8 tyX8_ok nmX8 rfl 2 (by decide) qw_195 inlX8 rfl (by first | rfl | decide) (by first | rfl | decide) rfl (⟨_, rfl, (by omega), (by omega)⟩) dX8_takeWord_62 (fun F H locs hT v82082 h1v82082 h2v82082 => ?_)
          have pf0 := (h1v82082 _ _ (Or.inr (by decide))).trans pf0
          have hv82059 := (h1v82082 _ _ (Or.inr (by decide))).trans hv82059
          have hfr : ∀ b j : Nat, (tag b ≠ 24 ∨ j ≠ 2) → (tag b ≠ 24 ∨ j ≠ 3) → (tag b ≠ 24 ∨ j ≠ 7) → fld F b j = fld Fo b j := fun b j n24_2 n24_3 n24_7 => (h1v82082 b j (fr_ne g0 n24_2)).trans (hfr b j n24_2 n24_3 n24_7)
          refine lv_goto (tgt := 5) hx hb dX8_takeWord_65 (by decide) ?_
          exact ih5 z82081 _ _ _ _ (by omega) (by omega) hT hfr pf0 v82082 (lv_sub hl [0] rfl)
  refine lv_aload_n hx hb dX8_takeWord_0 rfl (lv_at hl 0 rfl) ?_
  refine lv_lconst (v := 0) hx hb dX8_takeWord_1 (by decide) ?_
  refine t_put (C := RX8) (T := TX8) (N := 8) (v := .long (0 : Int64)) X hT m0 g0 rfl tyX8 tyX8_ok nmX8 rfl 7 (by decide) qw_215 inlX8 rfl (by first | rfl | decide) (by first | rfl | decide) rfl (⟨_, rfl⟩) dX8_takeWord_2 (fun F H locs hT v82083 h1v82083 h2v82083 => ?_)
  have pf0 := (h1v82083 _ _ (Or.inr (by decide))).trans pf0
  have hfr : ∀ b j : Nat, (tag b ≠ 24 ∨ j ≠ 2) → (tag b ≠ 24 ∨ j ≠ 3) → (tag b ≠ 24 ∨ j ≠ 7) → fld F b j = fld Fo b j := fun b j n24_2 n24_3 n24_7 => (h1v82083 b j (fr_ne g0 n24_7)).trans (hfr b j n24_2 n24_3 n24_7)
  obtain ⟨z82084, qz82084, rz82084⟩ := t_fld hT m0 g0 rfl 2 rfl
  have rz82084 : 0 ≤ z82084.toInt ∧ z82084.toInt ≤ 1000 := rz82084
  exact K5 1001 z82084 _ _ _ _ (by omega) (by omega) hT hfr pf0 qz82084 (lv_sub hl [0] rfl)
set_option maxHeartbeats 4000000 in
set_option maxRecDepth 100000 in
theorem kt229_X9_canBe (l : Launch) (G : KG) (tag : Nat → Nat) (L : List Nat) (Fo : Nat → va_E) (ho : okT G ttC tag L Fo) (p0 : Nat) (p1 : Nat) (p2 : Int32) (m0 : p0 ∈ L) (g0 : tag p0 = 22) (m1 : p1 ∈ L) (g1 : tag p1 = 18) : TMi l yX9_canBe cX9_canBe 8 (some .boolean) { frames := 2, cells := 0, slots := 0, locals := 36 } G ttC tag L Fo [.ref p0, .ref p1, .int p2] (fun r F1 => (0 ≤ r.toInt ∧ r.toInt ≤ 1) ∧ (∀ b j : Nat, fld F1 b j = fld Fo b j)) := by
  refine t_bodyi (y := yX9_canBe) (cd := cX9_canBe) (mL := 8) (rt := (some .boolean)) (rm := { frames := 2, cells := 0, slots := 0, locals := 36 }) (av := [.ref p0, .ref p1, .int p2]) (by decide) (Nat.le_of_ble_eq_true rfl) ho ?_
  intro p e s m args below meth c ls A Q hQ X hT hl
  have hx := X.1.1
  have hb := X.1.2.1
  have hl : lv_has ls 8 [(0, .ref p0), (1, .ref p1), (2, .int p2)] := hl
  have rp2 := rg_all p2
  obtain ⟨F, hFo⟩ : ∃ F : Nat → va_E, F = Fo := ⟨_, rfl⟩
  rw [← hFo] at hT
  have hfr : ∀ b j : Nat, fld F b j = fld Fo b j := by
    rw [hFo]
    intros
    rfl
  have K8 : ∀ (n : Nat) (z82646 : Int32) (z82647 : Int32) (z82648 : Int32) (F : Nat → va_E) (H : Heap) (locs : List Loc) (ls : Array Slot), (6 - z82648.toInt < (n : Int)) → (0 ≤ z82648.toInt ∧ z82648.toInt ≤ 6) → TH G ttC A s tag L F H locs → (∀ b j : Nat, fld F b j = fld Fo b j) → lv_has ls 8 [(0, .ref p0), (1, .ref p1), (2, .int p2), (3, .int z82646), (4, .int z82647), (5, .int z82648)] → W p l e { frames := 2, cells := 0, slots := 0, locals := 36 } s m args below meth c H locs 0 0 Q (F0 m 8 ls []) := by
    intro n
    induction n with
    | zero =>
      intro z82646 z82647 z82648 F H locs ls hn rz82648 hT hfr hl
      have rz82646 := rg_all z82646
      have rz82647 := rg_all z82647
      exfalso
      omega
    | succ n ih8 =>
      intro z82646 z82647 z82648 F H locs ls hn rz82648 hT hfr hl
      have rz82646 := rg_all z82646
      have rz82647 := rg_all z82647
      refine lv_iload hx hb dX9_canBe_8 (lv_at hl 5 rfl) ?_
      refine lv_aload_n hx hb dX9_canBe_10 rfl (lv_at hl 1 rfl) ?_
      refine t_get (C := RX1) (T := TX1) (N := 20) X hT m1 g1 rfl rfl 16 (by decide) qw_1338 inlX1 rfl dX9_canBe_11 (fun v82649 hv82649 ov82649 => ?_)
      obtain ⟨z82650, rfl, rz82650⟩ := okV_i ov82649
      refine lv_icmp_ge (tgt := 98) hx hb dX9_canBe_14 (by decide) (fun c82651 => ?_) (fun c82651 => ?_)
      · have w82652 := cv_le (rfl : z82650.toInt = z82650.toInt) (rfl : z82648.toInt = z82648.toInt) c82651
        refine lv_iconst (v := 1) hx hb dX9_canBe_98 (by decide) ?_
        exact t_zret hQ X hT (by decide) (⟨(by decide), hfr⟩) (Nat.le_of_ble_eq_true rfl) (Nat.le_of_ble_eq_true rfl) dX9_canBe_99
      · have w82653 := cv_nle (rfl : z82650.toInt = z82650.toInt) (rfl : z82648.toInt = z82648.toInt) c82651
        refine lv_aload_n hx hb dX9_canBe_17 rfl (lv_at hl 0 rfl) ?_
        refine t_get (C := RX9) (T := TX9) (N := 6) X hT m0 g0 rfl rfl 0 (by decide) qw_93 inlX9 rfl dX9_canBe_18 (fun v82654 hv82654 ov82654 => ?_)
        obtain ⟨b82655, rfl, mb82655, gb82655⟩ := okV_r ov82654
        have gb82655 : tag b82655 = 11 := tg_of gb82655
        refine lv_iload hx hb dX9_canBe_21 (lv_at hl 5 rfl) ?_
        refine t_ild X hT mb82655 gb82655 rfl (by omega) dX9_canBe_23 (fun z82656 vz82656 rz82656 => ?_)
        have rz82656 : 0 ≤ z82656.toInt ∧ z82656.toInt ≤ 5 := rz82656
        refine lv_istore (lv' := [(6, .int z82656), (0, .ref p0), (1, .ref p1), (2, .int p2), (3, .int z82646), (4, .int z82647), (5, .int z82648)]) hx hb dX9_canBe_24 hl (by decide) rfl (fun ls hl => ?_)
        refine lv_aload_n hx hb dX9_canBe_26 rfl (lv_at hl 2 rfl) ?_
        refine t_get (C := RX1) (T := TX1) (N := 20) X hT m1 g1 rfl rfl 17 (by decide) qw_1344 inlX1 rfl dX9_canBe_27 (fun v82657 hv82657 ov82657 => ?_)
        obtain ⟨b82658, rfl, mb82658, gb82658⟩ := okV_r ov82657
        have gb82658 : tag b82658 = 7 := tg_of gb82658
        refine lv_iload hx hb dX9_canBe_30 (lv_at hl 0 rfl) ?_
        refine t_ild X hT mb82658 gb82658 rfl (by omega) dX9_canBe_32 (fun z82659 vz82659 rz82659 => ?_)
        have rz82659 : (-2147483648) ≤ z82659.toInt ∧ z82659.toInt ≤ 2147483647 := rz82659
        refine lv_iload_n hx hb dX9_canBe_33 rfl (lv_at hl 4 rfl) ?_
        refine lv_iconst (v := (-1)) hx hb dX9_canBe_34 (by decide) ?_
        refine lv_ixor hx hb dX9_canBe_35 ?_
        refine lv_topi (fun z82660 ez82660 => ?_)
        have rz82660 := rg_all z82660
        refine lv_iand hx hb dX9_canBe_36 ?_
        refine lv_topi (fun z82661 ez82661 => ?_)
        have rz82661 := rg_all z82661
        refine lv_if_eq (tgt := 42) hx hb dX9_canBe_37 (by decide) (fun c82662 => ?_) (fun c82662 => ?_)
        · have w82663 := cv_eq (rfl : z82661.toInt = z82661.toInt) (by decide : (0 : Int32).toInt = 0) c82662
          refine lv_iload hx hb dX9_canBe_42 (lv_at hl 5 rfl) ?_
          refine lv_aload_n hx hb dX9_canBe_44 rfl (lv_at hl 2 rfl) ?_
          refine t_get (C := RX1) (T := TX1) (N := 20) X hT m1 g1 rfl rfl 18 (by decide) qw_1345 inlX1 rfl dX9_canBe_45 (fun v82664 hv82664 ov82664 => ?_)
          obtain ⟨b82665, rfl, mb82665, gb82665⟩ := okV_r ov82664
          have gb82665 : tag b82665 = 7 := tg_of gb82665
          refine lv_iload hx hb dX9_canBe_48 (lv_at hl 0 rfl) ?_
          refine t_ild X hT mb82665 gb82665 rfl (by omega) dX9_canBe_50 (fun z82666 vz82666 rz82666 => ?_)
          have rz82666 : (-2147483648) ≤ z82666.toInt ∧ z82666.toInt ≤ 2147483647 := rz82666
          refine t_mmax X hl qw_1346 qw_849 qw_850 qw_851 (Nat.le_of_ble_eq_true rfl) (Nat.le_of_ble_eq_true rfl) (Nat.le_of_ble_eq_true rfl) (Nat.le_of_ble_eq_true rfl) dX9_canBe_51 (fun z82667 ez82667 => ?_)
          have hz82667 := mmax_e ez82667 (rfl : z82647.toInt = z82647.toInt) (rfl : z82666.toInt = z82666.toInt)
          refine lv_istore (lv' := [(7, .int z82667), (6, .int z82656), (0, .ref p0), (1, .ref p1), (2, .int p2), (3, .int z82646), (4, .int z82647), (5, .int z82648)]) hx hb dX9_canBe_54 hl (by decide) rfl (fun ls hl => ?_)
          refine lv_iload hx hb dX9_canBe_56 (lv_at hl 0 rfl) ?_
          refine lv_aload_n hx hb dX9_canBe_58 rfl (lv_at hl 3 rfl) ?_
          refine lv_iload_n hx hb dX9_canBe_59 rfl (lv_at hl 4 rfl) ?_
          refine lv_iload hx hb dX9_canBe_60 (lv_at hl 1 rfl) ?_
          refine t_cSi (n := 3) (As := [.ref p1, .int p2, .int z82656]) (rest := [.int z82667]) X hT (kt147_X9_lastFor l G tag L F hT.2.2.2 p1 p2 z82656 m1 g1 (by omega)) qw_1347 qw_1348 qw_40 qw_1349 ⟨by decide +kernel, by decide +kernel, by decide +kernel⟩ ⟨Nat.le_of_ble_eq_true rfl, Nat.le_of_ble_eq_true rfl⟩ hl rfl rfl (Nat.le_of_ble_eq_true rfl) dX9_canBe_62 ⟨Nat.le_of_ble_eq_true rfl, Nat.le_of_ble_eq_true rfl⟩ (fun z82668 F9 H locs hT hz82668 => ?_)
          obtain ⟨fz82668, hz82668⟩ := hz82668
          rw [fz82668] at hT
          refine lv_icmp_le (tgt := 70) hx hb dX9_canBe_65 (by decide) (fun c82669 => ?_) (fun c82669 => ?_)
          · have w82670 := cv_le (rfl : z82667.toInt = z82667.toInt) (rfl : z82668.toInt = z82668.toInt) c82669
            refine lv_aload_n hx hb dX9_canBe_70 rfl (lv_at hl 2 rfl) ?_
            refine t_get (C := RX9) (T := TX9) (N := 6) X hT m0 g0 rfl rfl 1 (by decide) qw_94 inlX9 rfl dX9_canBe_71 (fun v82671 hv82671 ov82671 => ?_)
            obtain ⟨b82672, rfl, mb82672, gb82672⟩ := okV_r ov82671
            have gb82672 : tag b82672 = 7 := tg_of gb82672
            refine lv_iload hx hb dX9_canBe_74 (lv_at hl 7 rfl) ?_
            refine lv_iload hx hb dX9_canBe_76 (lv_at hl 0 rfl) ?_
            refine t_ist X hT mb82672 gb82672 rfl (by omega) (show (-2147483648) ≤ (z82667 : Int32).toInt ∧ (z82667 : Int32).toInt ≤ 2147483647 from (by omega)) dX9_canBe_78 (fun F H locs hT v82673 h1v82673 h2v82673 => ?_)
            have hv82649 := (h2v82673 _ _).trans hv82649
            have hv82654 := (h2v82673 _ _).trans hv82654
            have hv82657 := (h2v82673 _ _).trans hv82657
            have hv82664 := (h2v82673 _ _).trans hv82664
            have hv82671 := (h2v82673 _ _).trans hv82671
            have hfr : ∀ b j : Nat, fld F b j = fld Fo b j := fun b j  => (h2v82673 b j).trans (hfr b j )
            refine lv_iload hx hb dX9_canBe_79 (lv_at hl 0 rfl) ?_
            refine lv_iconst (v := 1) hx hb dX9_canBe_81 (by decide) ?_
            refine lv_iadd hx hb dX9_canBe_82 ?_
            refine lv_topi (fun z82674 ez82674 => ?_)
            have rz82674 := rg_all z82674
            refine lv_istore (lv' := [(4, .int z82674), (7, .int z82667), (6, .int z82656), (0, .ref p0), (1, .ref p1), (2, .int p2), (3, .int z82646), (5, .int z82648)]) hx hb dX9_canBe_83 hl (by decide) rfl (fun ls hl => ?_)
            refine lv_iload_n hx hb dX9_canBe_85 rfl (lv_at hl 6 rfl) ?_
            refine lv_iconst (v := 1) hx hb dX9_canBe_86 (by decide) ?_
            refine lv_iload hx hb dX9_canBe_87 (lv_at hl 2 rfl) ?_
            refine lv_ishl hx hb dX9_canBe_89 ?_
            refine lv_topi (fun z82675 ez82675 => ?_)
            have rz82675 := rg_all z82675
            refine lv_ior hx hb dX9_canBe_90 ?_
            refine lv_topi (fun z82676 ez82676 => ?_)
            have rz82676 := rg_all z82676
            refine lv_istore_n (lv' := [(3, .int z82676), (4, .int z82674), (7, .int z82667), (6, .int z82656), (0, .ref p0), (1, .ref p1), (2, .int p2), (5, .int z82648)]) hx hb dX9_canBe_91 rfl hl (by decide) rfl (fun ls hl => ?_)
            obtain ⟨z82677, ez82677⟩ : ∃ y : Int32, y = z82648 + 1 := ⟨_, rfl⟩
            have hz82677 : z82677.toInt = z82648.toInt + 1 := ar_add ez82677 rfl (by decide : (1 : Int32).toInt = 1) (by omega) (by omega)
            refine lv_iinc (v := z82677) (lv' := [(5, .int z82677), (3, .int z82676), (4, .int z82674), (7, .int z82667), (6, .int z82656), (0, .ref p0), (1, .ref p1), (2, .int p2)]) hx hb dX9_canBe_92 hl (k := 7) rfl (by rw [ez82677]; rfl) (by decide) rfl (fun ls hl => ?_)
            refine lv_goto (tgt := 8) hx hb dX9_canBe_95 (by decide) ?_
            exact ih8 z82676 z82674 z82677 _ _ _ _ (by omega) (by omega) hT hfr  (lv_sub hl [5, 6, 7, 1, 2, 0] rfl)
          · have w82678 := cv_nle (rfl : z82667.toInt = z82667.toInt) (rfl : z82668.toInt = z82668.toInt) c82669
            refine lv_iconst (v := 0) hx hb dX9_canBe_68 (by decide) ?_
            exact t_zret hQ X hT (by decide) (⟨(by decide), hfr⟩) (Nat.le_of_ble_eq_true rfl) (Nat.le_of_ble_eq_true rfl) dX9_canBe_69
        · have w82679 := cv_ne (rfl : z82661.toInt = z82661.toInt) (by decide : (0 : Int32).toInt = 0) c82662
          refine lv_iconst (v := 0) hx hb dX9_canBe_40 (by decide) ?_
          exact t_zret hQ X hT (by decide) (⟨(by decide), hfr⟩) (Nat.le_of_ble_eq_true rfl) (Nat.le_of_ble_eq_true rfl) dX9_canBe_41
  refine lv_iconst (v := 0) hx hb dX9_canBe_0 (by decide) ?_
  refine lv_istore_n (lv' := [(3, .int 0), (0, .ref p0), (1, .ref p1), (2, .int p2)]) hx hb dX9_canBe_1 rfl hl (by decide) rfl (fun ls hl => ?_)
  refine lv_iconst (v := 0) hx hb dX9_canBe_2 (by decide) ?_
  refine lv_istore (lv' := [(4, .int 0), (3, .int 0), (0, .ref p0), (1, .ref p1), (2, .int p2)]) hx hb dX9_canBe_3 hl (by decide) rfl (fun ls hl => ?_)
  refine lv_iconst (v := 0) hx hb dX9_canBe_5 (by decide) ?_
  refine lv_istore (lv' := [(5, .int 0), (4, .int 0), (3, .int 0), (0, .ref p0), (1, .ref p1), (2, .int p2)]) hx hb dX9_canBe_6 hl (by decide) rfl (fun ls hl => ?_)
  have kk82680 : (0 : Int32).toInt = 0 := by decide
  have kk82681 : (0 : Int32).toInt = 0 := by decide
  have kk82682 : (0 : Int32).toInt = 0 := by decide
  exact K8 7 0 0 0 _ _ _ _ (by omega) (by decide) hT hfr  (lv_sub hl [3, 4, 5, 2, 1, 0] rfl)
set_option maxHeartbeats 4000000 in
set_option maxRecDepth 100000 in
theorem kt230_X9_lastFor (l : Launch) (G : KG) (tag : Nat → Nat) (L : List Nat) (F : Nat → va_E) (ho : okT G ttC tag L F) (p0 : Nat) (p1 : Int32) (p2 : Int32) (m0 : p0 ∈ L) (g0 : tag p0 = 18) (h2 : 0 ≤ p2.toInt ∧ p2.toInt ≤ 5) : TMi l yX9_lastFor cX9_lastFor 4 (some .int) { frames := 1, cells := 0, slots := 0, locals := 13 } G ttC tag L F [.ref p0, .int p1, .int p2] (fun r F1 => F1 = F ∧ ((-2147483648) ≤ r.toInt ∧ r.toInt ≤ 2147483647)) := by
  refine t_bodyi (y := yX9_lastFor) (cd := cX9_lastFor) (mL := 4) (rt := (some .int)) (rm := { frames := 1, cells := 0, slots := 0, locals := 13 }) (av := [.ref p0, .int p1, .int p2]) (by decide) (Nat.le_of_ble_eq_true rfl) ho ?_
  intro p e s m args below meth c ls A Q hQ X hT hl
  have hx := X.1.1
  have hb := X.1.2.1
  have hl : lv_has ls 4 [(0, .ref p0), (1, .int p1), (2, .int p2)] := hl
  have rp1 := rg_all p1
  refine lv_iload_n hx hb dX9_lastFor_0 rfl (lv_at hl 1 rfl) ?_
  refine lv_iconst (v := 1) hx hb dX9_lastFor_1 (by decide) ?_
  refine lv_isub hx hb dX9_lastFor_2 ?_
  refine lv_topi (fun z82804 ez82804 => ?_)
  have rz82804 := rg_all z82804
  refine lv_istore_n (lv' := [(3, .int z82804), (0, .ref p0), (1, .int p1), (2, .int p2)]) hx hb dX9_lastFor_3 rfl hl (by decide) rfl (fun ls hl => ?_)
  refine lv_aload_n hx hb dX9_lastFor_4 rfl (lv_at hl 1 rfl) ?_
  refine t_get (C := RX1) (T := TX1) (N := 20) X hT m0 g0 rfl rfl 19 (by decide) qw_1350 inlX1 rfl dX9_lastFor_5 (fun v82805 hv82805 ov82805 => ?_)
  obtain ⟨b82806, rfl, mb82806, gb82806⟩ := okV_r ov82805
  have gb82806 : tag b82806 = 7 := tg_of gb82806
  refine lv_iload_n hx hb dX9_lastFor_8 rfl (lv_at hl 3 rfl) ?_
  refine t_ild X hT mb82806 gb82806 rfl (by omega) dX9_lastFor_9 (fun z82807 vz82807 rz82807 => ?_)
  have rz82807 : (-2147483648) ≤ z82807.toInt ∧ z82807.toInt ≤ 2147483647 := rz82807
  refine lv_iconst (v := (-1)) hx hb dX9_lastFor_10 (by decide) ?_
  refine lv_icmp_ne (tgt := 18) hx hb dX9_lastFor_11 (by decide) (fun c82808 => ?_) (fun c82808 => ?_)
  · have w82809 := cv_ne (rfl : z82807.toInt = z82807.toInt) (by decide : ((-1) : Int32).toInt = (-1)) c82808
    refine lv_iload_n hx hb dX9_lastFor_18 rfl (lv_at hl 0 rfl) ?_
    refine lv_aload_n hx hb dX9_lastFor_19 rfl (lv_at hl 1 rfl) ?_
    refine t_get (C := RX1) (T := TX1) (N := 20) X hT m0 g0 rfl rfl 19 (by decide) qw_1350 inlX1 rfl dX9_lastFor_20 (fun v82810 hv82810 ov82810 => ?_)
    obtain rfl : v82810 = .ref b82806 := hv82810.symm.trans hv82805
    refine lv_iload_n hx hb dX9_lastFor_23 rfl (lv_at hl 3 rfl) ?_
    refine t_ild X hT mb82806 gb82806 rfl (by omega) dX9_lastFor_24 (fun z82811 vz82811 rz82811 => ?_)
    obtain rfl : z82807 = z82811 := vz82807.symm.trans vz82811
    refine lv_iconst (v := 1) hx hb dX9_lastFor_25 (by decide) ?_
    refine lv_isub hx hb dX9_lastFor_26 ?_
    refine lv_topi (fun z82812 ez82812 => ?_)
    have rz82812 := rg_all z82812
    refine t_mmin X hl qw_1351 qw_1018 qw_850 qw_1019 (Nat.le_of_ble_eq_true rfl) (Nat.le_of_ble_eq_true rfl) (Nat.le_of_ble_eq_true rfl) (Nat.le_of_ble_eq_true rfl) dX9_lastFor_27 (fun z82813 ez82813 => ?_)
    have hz82813 := mmin_e ez82813 (rfl : z82804.toInt = z82804.toInt) (rfl : z82812.toInt = z82812.toInt)
    exact t_iret hQ X hT (⟨rfl, rg_all _⟩) (Nat.le_of_ble_eq_true rfl) (Nat.le_of_ble_eq_true rfl) dX9_lastFor_30
  · have w82814 := cv_eq (rfl : z82807.toInt = z82807.toInt) (by decide : ((-1) : Int32).toInt = (-1)) c82808
    refine lv_iload_n hx hb dX9_lastFor_14 rfl (lv_at hl 0 rfl) ?_
    refine lv_goto (tgt := 30) hx hb dX9_lastFor_15 (by decide) ?_
    exact t_iret hQ X hT (⟨rfl, rg_all _⟩) (Nat.le_of_ble_eq_true rfl) (Nat.le_of_ble_eq_true rfl) dX9_lastFor_30
set_option maxHeartbeats 4000000 in
set_option maxRecDepth 100000 in
theorem kt231_X9_lookAtAll (l : Launch) (G : KG) (tag : Nat → Nat) (L : List Nat) (Fo : Nat → va_E) (ho : okT G ttC tag L Fo) (p0 : Nat) (p1 : Nat) (p2 : Int32) (m0 : p0 ∈ L) (g0 : tag p0 = 22) (m1 : p1 ∈ L) (g1 : tag p1 = 18) : TMv l yX9_lookAtAll cX9_lookAtAll 4 { frames := 3, cells := 0, slots := 0, locals := 63 } G ttC tag L Fo [.ref p0, .ref p1, .int p2] (fun F1 => ∀ b j : Nat, (tag b ≠ 22 ∨ j ≠ 2) → fld F1 b j = fld Fo b j) := by
  refine t_bodyv (y := yX9_lookAtAll) (cd := cX9_lookAtAll) (mL := 4) (rm := { frames := 3, cells := 0, slots := 0, locals := 63 }) (av := [.ref p0, .ref p1, .int p2]) (by decide) (Nat.le_of_ble_eq_true rfl) ho ?_
  intro p e s m args below meth c ls A Q hQ X hT hl
  have hx := X.1.1
  have hb := X.1.2.1
  have hl : lv_has ls 4 [(0, .ref p0), (1, .ref p1), (2, .int p2)] := hl
  have rp2 := rg_all p2
  obtain ⟨F, hFo⟩ : ∃ F : Nat → va_E, F = Fo := ⟨_, rfl⟩
  rw [← hFo] at hT
  have hfr : ∀ b j : Nat, (tag b ≠ 22 ∨ j ≠ 2) → fld F b j = fld Fo b j := by
    rw [hFo]
    intros
    rfl
  have K55 : ∀ (n : Nat) (z84609 : Int32) (z84610 : Int32) (z84611 : Int32) (F : Nat → va_E) (H : Heap) (locs : List Loc) (ls : Array Slot), (720 - z84609.toInt < (n : Int)) → (0 ≤ z84609.toInt ∧ z84609.toInt ≤ 720) → (0 ≤ z84611.toInt ∧ z84611.toInt ≤ 6) → TH G ttC A s tag L F H locs → (∀ b j : Nat, (tag b ≠ 22 ∨ j ≠ 2) → fld F b j = fld Fo b j) → fld F p0 2 = .int z84610 → fld F p1 16 = .int z84611 → lv_has ls 4 [(0, .ref p0), (1, .ref p1), (2, .int p2), (3, .int z84609)] → W p l e { frames := 3, cells := 0, slots := 0, locals := 63 } s m args below meth c H locs 0 0 Q (F0 m 55 ls []) := by
    intro n
    induction n with
    | zero =>
      intro z84609 z84610 z84611 F H locs ls hn rz84609 rz84611 hT hfr qz84610 qz84611 hl
      have rz84610 := rg_all z84610
      exfalso
      omega
    | succ n ih55 =>
      intro z84609 z84610 z84611 F H locs ls hn rz84609 rz84611 hT hfr qz84610 qz84611 hl
      have rz84610 := rg_all z84610
      have K92 : ∀ (z84613 : Int32) (z84614 : Int32) (F : Nat → va_E) (H : Heap) (locs : List Loc) (ls : Array Slot), (0 ≤ z84614.toInt ∧ z84614.toInt ≤ 6) → (0 ≤ z84609.toInt ∧ z84609.toInt ≤ 719) → TH G ttC A s tag L F H locs → (∀ b j : Nat, (tag b ≠ 22 ∨ j ≠ 2) → fld F b j = fld Fo b j) → fld F p0 2 = .int z84613 → fld F p1 16 = .int z84614 → lv_has ls 4 [(0, .ref p0), (1, .ref p1), (2, .int p2), (3, .int z84609)] → W p l e { frames := 3, cells := 0, slots := 0, locals := 63 } s m args below meth c H locs 0 0 Q (F0 m 92 ls []) := by
        intro z84613 z84614 F H locs ls rz84614 r9s84612 hT hfr qz84613 qz84614 hl
        have rz84613 := rg_all z84613
        refine lv_aload_n hx hb dX9_lookAtAll_92 rfl (lv_at hl 0 rfl) ?_
        refine t_get (C := RX9) (T := TX9) (N := 6) X hT m0 g0 rfl rfl 0 (by decide) qw_93 inlX9 rfl dX9_lookAtAll_93 (fun v84615 hv84615 ov84615 => ?_)
        obtain ⟨b84616, rfl, mb84616, gb84616⟩ := okV_r ov84615
        have gb84616 : tag b84616 = 11 := tg_of gb84616
        refine lv_aload_n hx hb dX9_lookAtAll_96 rfl (lv_at hl 1 rfl) ?_
        refine t_get (C := RX1) (T := TX1) (N := 20) X hT m1 g1 rfl rfl 16 (by decide) qw_1338 inlX1 rfl dX9_lookAtAll_97 (fun v84617 hv84617 ov84617 => ?_)
        obtain rfl : v84617 = .int z84614 := hv84617.symm.trans qz84614
        refine t_cSv (n := 2) (As := [.ref b84616, .int z84614]) (rest := []) X hT (kt153_X5_advance l G tag L F hT.2.2.2 b84616 z84614 mb84616 gb84616 (by omega)) qw_1356 qw_1248 qw_1242 qw_1249 ⟨by decide +kernel, by decide +kernel, by decide +kernel⟩ ⟨Nat.le_of_ble_eq_true rfl, Nat.le_of_ble_eq_true rfl⟩ hl rfl rfl (Nat.le_of_ble_eq_true rfl) dX9_lookAtAll_100 ⟨Nat.le_of_ble_eq_true rfl, Nat.le_of_ble_eq_true rfl⟩ (fun F H locs hT hz84618 => ?_)
        have yz84618 := hz84618
        have qz84613 := (yz84618 _ 2 ).trans qz84613
        have qz84614 := (yz84618 _ 16 ).trans qz84614
        have hv84615 := (yz84618 _ 0 ).trans hv84615
        have hfr : ∀ b j : Nat, (tag b ≠ 22 ∨ j ≠ 2) → fld F b j = fld Fo b j := fun b j n22_2 => (yz84618 b j ).trans (hfr b j n22_2)
        obtain ⟨z84619, ez84619⟩ : ∃ y : Int32, y = z84609 + 1 := ⟨_, rfl⟩
        have hz84619 : z84619.toInt = z84609.toInt + 1 := ar_add ez84619 rfl (by decide : (1 : Int32).toInt = 1) (by omega) (by omega)
        refine lv_iinc (v := z84619) (lv' := [(3, .int z84619), (0, .ref p0), (1, .ref p1), (2, .int p2)]) hx hb dX9_lookAtAll_103 hl (k := 3) rfl (by rw [ez84619]; rfl) (by decide) rfl (fun ls hl => ?_)
        refine lv_goto (tgt := 55) hx hb dX9_lookAtAll_106 (by decide) ?_
        exact ih55 z84619 z84613 z84614 _ _ _ _ (by omega) (by omega) (by omega) hT hfr qz84613 qz84614 (lv_sub hl [1, 2, 3, 0] rfl)
      refine lv_iload_n hx hb dX9_lookAtAll_55 rfl (lv_at hl 3 rfl) ?_
      refine t_getsN X hT X.2.2.2.1.2.2.2.1 (List.mem_of_getElem? (i := 3) rfl) dX9_lookAtAll_56 ?_
      refine lv_aload_n hx hb dX9_lookAtAll_59 rfl (lv_at hl 1 rfl) ?_
      refine t_get (C := RX1) (T := TX1) (N := 20) X hT m1 g1 rfl rfl 16 (by decide) qw_1338 inlX1 rfl dX9_lookAtAll_60 (fun v84620 hv84620 ov84620 => ?_)
      obtain rfl : v84620 = .int z84611 := hv84620.symm.trans qz84611
      refine t_tild X hT X.2.2.2.1.2.2.2.1 (by omega) dX9_lookAtAll_63 (fun z84621 ez84621 => ?_)
      have rz84621 : 1 ≤ z84621.toInt ∧ z84621.toInt ≤ 720 := by rw [ez84621]; exact gRows_r _
      refine lv_icmp_ge (tgt := 109) hx hb dX9_lookAtAll_64 (by decide) (fun c84622 => ?_) (fun c84622 => ?_)
      · have w84623 := cv_le (rfl : z84621.toInt = z84621.toInt) (rfl : z84609.toInt = z84609.toInt) c84622
        exact t_vret hQ X hT hfr (Nat.le_of_ble_eq_true rfl) (Nat.le_of_ble_eq_true rfl) dX9_lookAtAll_109
      · have w84624 := cv_nle (rfl : z84621.toInt = z84621.toInt) (rfl : z84609.toInt = z84609.toInt) c84622
        refine lv_aload_n hx hb dX9_lookAtAll_67 rfl (lv_at hl 0 rfl) ?_
        refine lv_aload_n hx hb dX9_lookAtAll_68 rfl (lv_at hl 1 rfl) ?_
        refine lv_iload_n hx hb dX9_lookAtAll_69 rfl (lv_at hl 2 rfl) ?_
        refine t_cVi (n := 2) (C := RX9) (T := TX9) (N := 6) (As := [.ref p1, .int p2]) (rest := []) X hT (kt148_X9_canBe l G tag L F hT.2.2.2 p0 p1 p2 m0 g0 m1 g1) m0 g0 rfl rfl qw_1340 qw_1341 qw_1342 qw_40 qw_1343 ⟨rfl, by decide +kernel, by decide +kernel, by decide +kernel⟩ ⟨Nat.le_of_ble_eq_true rfl, Nat.le_of_ble_eq_true rfl⟩ hl rfl rfl (Nat.le_of_ble_eq_true rfl) dX9_lookAtAll_70 ⟨Nat.le_of_ble_eq_true rfl, Nat.le_of_ble_eq_true rfl⟩ (fun z84625 F H locs hT hz84625 => ?_)
        obtain ⟨hz84625, yz84625⟩ := hz84625
        have qz84610 := (yz84625 _ 2 ).trans qz84610
        have qz84611 := (yz84625 _ 16 ).trans qz84611
        have hfr : ∀ b j : Nat, (tag b ≠ 22 ∨ j ≠ 2) → fld F b j = fld Fo b j := fun b j n22_2 => (yz84625 b j ).trans (hfr b j n22_2)
        refine lv_if_eq (tgt := 92) hx hb dX9_lookAtAll_73 (by decide) (fun c84626 => ?_) (fun c84626 => ?_)
        · have w84627 := cv_eq (rfl : z84625.toInt = z84625.toInt) (by decide : (0 : Int32).toInt = 0) c84626
          exact K92 z84610 z84611 _ _ _ _ (by omega) (by omega) hT hfr qz84610 qz84611 (lv_sub hl [0, 1, 2, 3] rfl)
        · have w84628 := cv_ne (rfl : z84625.toInt = z84625.toInt) (by decide : (0 : Int32).toInt = 0) c84626
          refine lv_aload_n hx hb dX9_lookAtAll_76 rfl (lv_at hl 0 rfl) ?_
          refine lv_dup hx hb dX9_lookAtAll_77 rfl ?_
          refine t_get (C := RX9) (T := TX9) (N := 6) X hT m0 g0 rfl rfl 2 (by decide) qw_1337 inlX9 rfl dX9_lookAtAll_78 (fun v84629 hv84629 ov84629 => ?_)
          obtain rfl : v84629 = .int z84610 := hv84629.symm.trans qz84610
          refine lv_iconst (v := 1) hx hb dX9_lookAtAll_81 (by decide) ?_
          refine lv_iadd hx hb dX9_lookAtAll_82 ?_
          refine lv_topi (fun z84630 ez84630 => ?_)
          have rz84630 := rg_all z84630
          refine t_put (C := RX9) (T := TX9) (N := 6) (v := .int z84630) X hT m0 g0 rfl tyX9 tyX9_ok nmX9 rfl 2 (by decide) qw_1337 inlX9 rfl (by first | rfl | decide) (by first | rfl | decide) rfl (⟨_, rfl, (by omega), (by omega)⟩) dX9_lookAtAll_83 (fun F H locs hT v84631 h1v84631 h2v84631 => ?_)
          have qz84611 := (h1v84631 _ _ (Or.inr (by decide))).trans qz84611
          have hfr : ∀ b j : Nat, (tag b ≠ 22 ∨ j ≠ 2) → fld F b j = fld Fo b j := fun b j n22_2 => (h1v84631 b j (fr_ne g0 n22_2)).trans (hfr b j n22_2)
          refine lv_aload_n hx hb dX9_lookAtAll_86 rfl (lv_at hl 0 rfl) ?_
          refine lv_aload_n hx hb dX9_lookAtAll_87 rfl (lv_at hl 1 rfl) ?_
          refine lv_iload_n hx hb dX9_lookAtAll_88 rfl (lv_at hl 2 rfl) ?_
          refine t_cVv (n := 2) (C := RX9) (T := TX9) (N := 6) (As := [.ref p1, .int p2]) (rest := []) X hT (kt149_X9_noteRow l G tag L F hT.2.2.2 p0 p1 p2 m0 g0 m1 g1) m0 g0 rfl rfl qw_1352 qw_1353 qw_1354 qw_40 qw_1355 ⟨rfl, by decide +kernel, by decide +kernel, by decide +kernel⟩ ⟨Nat.le_of_ble_eq_true rfl, Nat.le_of_ble_eq_true rfl⟩ hl rfl rfl (Nat.le_of_ble_eq_true rfl) dX9_lookAtAll_89 ⟨Nat.le_of_ble_eq_true rfl, Nat.le_of_ble_eq_true rfl⟩ (fun F H locs hT hz84632 => ?_)
          have yz84632 := hz84632
          have qz84611 := (yz84632 _ 16 ).trans qz84611
          have v84631 := (yz84632 _ 2 ).trans v84631
          have hfr : ∀ b j : Nat, (tag b ≠ 22 ∨ j ≠ 2) → fld F b j = fld Fo b j := fun b j n22_2 => (yz84632 b j ).trans (hfr b j n22_2)
          exact K92 z84630 z84611 _ _ _ _ (by omega) (by omega) hT hfr v84631 qz84611 (lv_sub hl [0, 1, 2, 3] rfl)
  have K7 : ∀ (n : Nat) (z84633 : Int32) (z84634 : Int32) (F : Nat → va_E) (H : Heap) (locs : List Loc) (ls : Array Slot), (6 - z84633.toInt < (n : Int)) → (0 ≤ z84633.toInt ∧ z84633.toInt ≤ 6) → (0 ≤ z84634.toInt ∧ z84634.toInt ≤ 0) → TH G ttC A s tag L F H locs → (∀ b j : Nat, (tag b ≠ 22 ∨ j ≠ 2) → fld F b j = fld Fo b j) → fld F p0 2 = .int z84634 → lv_has ls 4 [(0, .ref p0), (1, .ref p1), (2, .int p2), (3, .int z84633)] → W p l e { frames := 3, cells := 0, slots := 0, locals := 63 } s m args below meth c H locs 0 0 Q (F0 m 7 ls []) := by
    intro n
    induction n with
    | zero =>
      intro z84633 z84634 F H locs ls hn rz84633 rz84634 hT hfr qz84634 hl
      exfalso
      omega
    | succ n ih7 =>
      intro z84633 z84634 F H locs ls hn rz84633 rz84634 hT hfr qz84634 hl
      refine lv_iload_n hx hb dX9_lookAtAll_7 rfl (lv_at hl 3 rfl) ?_
      refine lv_bipush (v := 6) hx hb dX9_lookAtAll_8 (by decide) ?_
      refine lv_icmp_ge (tgt := 42) hx hb dX9_lookAtAll_10 (by decide) (fun c84635 => ?_) (fun c84635 => ?_)
      · have w84636 := cv_le (by decide : (6 : Int32).toInt = 6) (rfl : z84633.toInt = z84633.toInt) c84635
        refine lv_aload_n hx hb dX9_lookAtAll_42 rfl (lv_at hl 0 rfl) ?_
        refine t_get (C := RX9) (T := TX9) (N := 6) X hT m0 g0 rfl rfl 0 (by decide) qw_93 inlX9 rfl dX9_lookAtAll_43 (fun v84637 hv84637 ov84637 => ?_)
        obtain ⟨b84638, rfl, mb84638, gb84638⟩ := okV_r ov84637
        have gb84638 : tag b84638 = 11 := tg_of gb84638
        refine lv_aload_n hx hb dX9_lookAtAll_46 rfl (lv_at hl 1 rfl) ?_
        refine t_get (C := RX1) (T := TX1) (N := 20) X hT m1 g1 rfl rfl 16 (by decide) qw_1338 inlX1 rfl dX9_lookAtAll_47 (fun v84639 hv84639 ov84639 => ?_)
        obtain ⟨z84640, rfl, rz84640⟩ := okV_i ov84639
        refine t_cSv (n := 2) (As := [.ref b84638, .int z84640]) (rest := []) X hT (kt146_X5_begin l G tag L F hT.2.2.2 b84638 z84640 mb84638 gb84638 (by omega)) qw_1339 qw_1241 qw_1242 qw_1243 ⟨by decide +kernel, by decide +kernel, by decide +kernel⟩ ⟨Nat.le_of_ble_eq_true rfl, Nat.le_of_ble_eq_true rfl⟩ hl rfl rfl (Nat.le_of_ble_eq_true rfl) dX9_lookAtAll_50 ⟨Nat.le_of_ble_eq_true rfl, Nat.le_of_ble_eq_true rfl⟩ (fun F H locs hT hz84641 => ?_)
        have yz84641 := hz84641
        have qz84634 := (yz84641 _ 2 ).trans qz84634
        have hv84637 := (yz84641 _ 0 ).trans hv84637
        have hv84639 := (yz84641 _ 16 ).trans hv84639
        have hfr : ∀ b j : Nat, (tag b ≠ 22 ∨ j ≠ 2) → fld F b j = fld Fo b j := fun b j n22_2 => (yz84641 b j ).trans (hfr b j n22_2)
        refine lv_iconst (v := 0) hx hb dX9_lookAtAll_53 (by decide) ?_
        refine lv_istore_n (lv' := [(3, .int 0), (0, .ref p0), (1, .ref p1), (2, .int p2)]) hx hb dX9_lookAtAll_54 rfl hl (by decide) rfl (fun ls hl => ?_)
        have kk84642 : (0 : Int32).toInt = 0 := by decide
        exact K55 721 0 z84634 z84640 _ _ _ _ (by omega) (by decide) (by omega) hT hfr qz84634 hv84639 (lv_sub hl [1, 2, 3, 0] rfl)
      · have w84643 := cv_nle (by decide : (6 : Int32).toInt = 6) (rfl : z84633.toInt = z84633.toInt) c84635
        refine lv_aload_n hx hb dX9_lookAtAll_13 rfl (lv_at hl 0 rfl) ?_
        refine t_get (C := RX9) (T := TX9) (N := 6) X hT m0 g0 rfl rfl 3 (by decide) qw_95 inlX9 rfl dX9_lookAtAll_14 (fun v84644 hv84644 ov84644 => ?_)
        obtain ⟨b84645, rfl, mb84645, gb84645⟩ := okV_r ov84644
        have gb84645 : tag b84645 = 7 := tg_of gb84645
        refine lv_iload_n hx hb dX9_lookAtAll_17 rfl (lv_at hl 3 rfl) ?_
        refine lv_sipush (v := 999) hx hb dX9_lookAtAll_18 (by decide) ?_
        refine t_ist X hT mb84645 gb84645 rfl (by omega) (show (-2147483648) ≤ (999 : Int32).toInt ∧ (999 : Int32).toInt ≤ 2147483647 from (by decide)) dX9_lookAtAll_21 (fun F H locs hT v84646 h1v84646 h2v84646 => ?_)
        have qz84634 := (h2v84646 _ _).trans qz84634
        have hv84644 := (h2v84646 _ _).trans hv84644
        have hfr : ∀ b j : Nat, (tag b ≠ 22 ∨ j ≠ 2) → fld F b j = fld Fo b j := fun b j n22_2 => (h2v84646 b j).trans (hfr b j n22_2)
        refine lv_aload_n hx hb dX9_lookAtAll_22 rfl (lv_at hl 0 rfl) ?_
        refine t_get (C := RX9) (T := TX9) (N := 6) X hT m0 g0 rfl rfl 4 (by decide) qw_96 inlX9 rfl dX9_lookAtAll_23 (fun v84647 hv84647 ov84647 => ?_)
        obtain ⟨b84648, rfl, mb84648, gb84648⟩ := okV_r ov84647
        have gb84648 : tag b84648 = 7 := tg_of gb84648
        refine lv_iload_n hx hb dX9_lookAtAll_26 rfl (lv_at hl 3 rfl) ?_
        refine lv_iconst (v := 0) hx hb dX9_lookAtAll_27 (by decide) ?_
        refine t_ist X hT mb84648 gb84648 rfl (by omega) (show (-2147483648) ≤ (0 : Int32).toInt ∧ (0 : Int32).toInt ≤ 2147483647 from (by decide)) dX9_lookAtAll_28 (fun F H locs hT v84649 h1v84649 h2v84649 => ?_)
        have qz84634 := (h2v84649 _ _).trans qz84634
        have hv84644 := (h2v84649 _ _).trans hv84644
        have hv84647 := (h2v84649 _ _).trans hv84647
        have hfr : ∀ b j : Nat, (tag b ≠ 22 ∨ j ≠ 2) → fld F b j = fld Fo b j := fun b j n22_2 => (h2v84649 b j).trans (hfr b j n22_2)
        refine lv_aload_n hx hb dX9_lookAtAll_29 rfl (lv_at hl 0 rfl) ?_
        refine t_get (C := RX9) (T := TX9) (N := 6) X hT m0 g0 rfl rfl 5 (by decide) qw_97 inlX9 rfl dX9_lookAtAll_30 (fun v84650 hv84650 ov84650 => ?_)
        obtain ⟨b84651, rfl, mb84651, gb84651⟩ := okV_r ov84650
        have gb84651 : tag b84651 = 7 := tg_of gb84651
        refine lv_iload_n hx hb dX9_lookAtAll_33 rfl (lv_at hl 3 rfl) ?_
        refine lv_iconst (v := (-1)) hx hb dX9_lookAtAll_34 (by decide) ?_
        refine t_ist X hT mb84651 gb84651 rfl (by omega) (show (-2147483648) ≤ ((-1) : Int32).toInt ∧ ((-1) : Int32).toInt ≤ 2147483647 from (by decide)) dX9_lookAtAll_35 (fun F H locs hT v84652 h1v84652 h2v84652 => ?_)
        have qz84634 := (h2v84652 _ _).trans qz84634
        have hv84644 := (h2v84652 _ _).trans hv84644
        have hv84647 := (h2v84652 _ _).trans hv84647
        have hv84650 := (h2v84652 _ _).trans hv84650
        have hfr : ∀ b j : Nat, (tag b ≠ 22 ∨ j ≠ 2) → fld F b j = fld Fo b j := fun b j n22_2 => (h2v84652 b j).trans (hfr b j n22_2)
        obtain ⟨z84653, ez84653⟩ : ∃ y : Int32, y = z84633 + 1 := ⟨_, rfl⟩
        have hz84653 : z84653.toInt = z84633.toInt + 1 := ar_add ez84653 rfl (by decide : (1 : Int32).toInt = 1) (by omega) (by omega)
        refine lv_iinc (v := z84653) (lv' := [(3, .int z84653), (0, .ref p0), (1, .ref p1), (2, .int p2)]) hx hb dX9_lookAtAll_36 hl (k := 3) rfl (by rw [ez84653]; rfl) (by decide) rfl (fun ls hl => ?_)
        refine lv_goto (tgt := 7) hx hb dX9_lookAtAll_39 (by decide) ?_
        exact ih7 z84653 z84634 _ _ _ _ (by omega) (by omega) (by omega) hT hfr qz84634 (lv_sub hl [1, 2, 3, 0] rfl)
  refine lv_aload_n hx hb dX9_lookAtAll_0 rfl (lv_at hl 0 rfl) ?_
  refine lv_iconst (v := 0) hx hb dX9_lookAtAll_1 (by decide) ?_
  refine t_put (C := RX9) (T := TX9) (N := 6) (v := .int 0) X hT m0 g0 rfl tyX9 tyX9_ok nmX9 rfl 2 (by decide) qw_1337 inlX9 rfl (by first | rfl | decide) (by first | rfl | decide) rfl (⟨_, rfl, (by decide), (by decide)⟩) dX9_lookAtAll_2 (fun F H locs hT v84654 h1v84654 h2v84654 => ?_)
  have hfr : ∀ b j : Nat, (tag b ≠ 22 ∨ j ≠ 2) → fld F b j = fld Fo b j := fun b j n22_2 => (h1v84654 b j (fr_ne g0 n22_2)).trans (hfr b j n22_2)
  refine lv_iconst (v := 0) hx hb dX9_lookAtAll_5 (by decide) ?_
  refine lv_istore_n (lv' := [(3, .int 0), (0, .ref p0), (1, .ref p1), (2, .int p2)]) hx hb dX9_lookAtAll_6 rfl hl (by decide) rfl (fun ls hl => ?_)
  have kk84655 : (0 : Int32).toInt = 0 := by decide
  exact K7 7 0 0 _ _ _ _ (by omega) (by decide) (by decide) hT hfr v84654 (lv_sub hl [1, 2, 3, 0] rfl)
