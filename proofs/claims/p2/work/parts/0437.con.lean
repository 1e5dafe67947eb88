set_option maxHeartbeats 4000000 in
set_option maxRecDepth 100000 in
theorem km263_X13_led (l : Launch) (G : KG) (tag : Nat → Nat) (L : List Nat) (Fo : Nat → va_E) (ho : okT G ttC tag L Fo) (p0 : Nat) (p1 : Int32) (m0 : p0 ∈ L) (g0 : tag p0 = 46) (pf0 : fld Fo p0 3 = .null) : TMi l yX13_led cX13_led 4 (some .int) { frames := 5, cells := 0, slots := 0, locals := 121 } G ttC tag L Fo [.ref p0, .int p1] (fun r F1 => ((-2147483648) ≤ r.toInt ∧ r.toInt ≤ 2147483647) ∧ ((∀ b j : Nat, (tag b ≠ 46 ∨ j ≠ 0) → fld F1 b j = fld Fo b j) ∧ (∀ b j : Nat, elm F1 b j = elm Fo b j))) := by
  refine t_bodyi (y := yX13_led) (cd := cX13_led) (mL := 4) (rt := (some .int)) (rm := { frames := 5, cells := 0, slots := 0, locals := 121 }) (av := [.ref p0, .int p1]) (by decide) (Nat.le_of_ble_eq_true rfl) ho ?_
  intro p e s m args below meth c ls A Q hQ X hT hl
  have hx := X.1.1
  have hb := X.1.2.1
  have hl : lv_has ls 4 [(0, .ref p0), (1, .int p1)] := hl
  have rp1 := rg_all p1
  obtain ⟨F, hFo⟩ : ∃ F : Nat → va_E, F = Fo := ⟨_, rfl⟩
  rw [← hFo] at hT pf0
  have hfr : (∀ b j : Nat, (tag b ≠ 46 ∨ j ≠ 0) → fld F b j = fld Fo b j) ∧ (∀ b j : Nat, elm F b j = elm Fo b j) := by
    rw [hFo]
    exact ⟨by intros; rfl, by intros; rfl⟩
  have K58 : ∀ (z80664 : Int32) (z80665 : Int32) (z80666 : Int32) (F : Nat → va_E) (H : Heap) (locs : List Loc) (ls : Array Slot), (0 ≤ z80664.toInt ∧ z80664.toInt ≤ 0) → (0 ≤ z80665.toInt ∧ z80665.toInt ≤ 0) → (0 ≤ z80666.toInt ∧ z80666.toInt ≤ 0) → TH G ttC A s tag L F H locs → ((∀ b j : Nat, (tag b ≠ 46 ∨ j ≠ 0) → fld F b j = fld Fo b j) ∧ (∀ b j : Nat, elm F b j = elm Fo b j)) → (fld F p0 3 = .null) → (fld F p0 0 = .int z80666) → lv_has ls 4 [(0, .ref p0), (1, .int p1), (2, .int z80664), (3, .int z80665)] → W p l e { frames := 5, cells := 0, slots := 0, locals := 121 } s m args below meth c H locs 0 0 Q (F0 m 58 ls []) := by
    intro z80664 z80665 z80666 F H locs ls rz80664 rz80665 rz80666 hT hfr pf0 qz80666 hl
    refine lv_aload_n hx hb dX13_led_58 rfl (lv_at hl 0 rfl) ?_
    refine lv_iconst (v := 1) hx hb dX13_led_59 (by decide) ?_
    refine t_put (C := RX13) (T := TX13) (N := 37) (v := .int 1) X hT m0 g0 rfl tyX13 tyX13_ok nmX13 rfl 0 (by decide) qw_140 inlX13 rfl (by first | rfl | decide) (by first | rfl | decide) rfl (⟨_, rfl, (show (-2147483648) ≤ (1 : Int32).toInt from (by decide)), (show (1 : Int32).toInt ≤ 2147483647 from (by decide))⟩) dX13_led_60 (fun F H locs hT v80667 h1v80667 h2v80667 => ?_)
    have pf0 := (h1v80667 _ _ (Or.inr (by decide))).trans pf0
    have hfr : (∀ b j : Nat, (tag b ≠ 46 ∨ j ≠ 0) → fld F b j = fld Fo b j) ∧ (∀ b j : Nat, elm F b j = elm Fo b j) := ⟨fun b j n46_0 => (h1v80667 b j (fr_ne g0 n46_0)).trans (hfr.1 b j n46_0), fun b j  => (h2v80667 b j).trans (hfr.2 b j )⟩
    refine lv_iconst (v := 0) hx hb dX13_led_63 (by decide) ?_
    have k80668 : (0 : Int32).toInt = 0 := by decide
    exact t_iret hQ X hT (⟨rg_all _, hfr⟩) (Nat.le_of_ble_eq_true rfl) (Nat.le_of_ble_eq_true rfl) dX13_led_64
  have K9 : ∀ (z80669 : Int32) (z80670 : Int32) (z80671 : Int32) (F : Nat → va_E) (H : Heap) (locs : List Loc) (ls : Array Slot), (0 ≤ z80669.toInt ∧ z80669.toInt ≤ 0) → (0 ≤ z80670.toInt ∧ z80670.toInt ≤ 0) → (0 ≤ z80671.toInt ∧ z80671.toInt ≤ 0) → TH G ttC A s tag L F H locs → ((∀ b j : Nat, (tag b ≠ 46 ∨ j ≠ 0) → fld F b j = fld Fo b j) ∧ (∀ b j : Nat, elm F b j = elm Fo b j)) → (fld F p0 3 = .null) → (fld F p0 0 = .int z80671) → lv_has ls 4 [(0, .ref p0), (1, .int p1), (2, .int z80669), (3, .int z80670)] → W p l e { frames := 5, cells := 0, slots := 0, locals := 121 } s m args below meth c H locs 0 0 Q (F0 m 9 ls []) := by
    intro z80669 z80670 z80671 F H locs ls rz80669 rz80670 rz80671 hT hfr pf0 qz80671 hl
    refine lv_aload_n hx hb dX13_led_9 rfl (lv_at hl 0 rfl) ?_
    refine t_get (C := RX13) (T := TX13) (N := 37) X hT m0 g0 rfl rfl 3 (by decide) qw_481 inlX13 rfl dX13_led_10 (fun v80672 hv80672 ov80672 => ?_)
    obtain rfl : v80672 = .null := hv80672.symm.trans pf0
    refine lv_ifnullN (tgt := 58) hx hb dX13_led_13 (by decide) ?_
    exact K58 z80669 z80670 z80671 _ _ _ _ (by omega) (by omega) (by omega) hT hfr pf0 qz80671 (lv_sub hl [0, 1, 2, 3] rfl)
  refine lv_aload_n hx hb dX13_led_0 rfl (lv_at hl 0 rfl) ?_
  refine lv_iconst (v := 0) hx hb dX13_led_1 (by decide) ?_
  refine t_put (C := RX13) (T := TX13) (N := 37) (v := .int 0) X hT m0 g0 rfl tyX13 tyX13_ok nmX13 rfl 0 (by decide) qw_140 inlX13 rfl (by first | rfl | decide) (by first | rfl | decide) rfl (⟨_, rfl, (show (-2147483648) ≤ (0 : Int32).toInt from (by decide)), (show (0 : Int32).toInt ≤ 2147483647 from (by decide))⟩) dX13_led_2 (fun F H locs hT v80673 h1v80673 h2v80673 => ?_)
  have pf0 := (h1v80673 _ _ (Or.inr (by decide))).trans pf0
  have hfr : (∀ b j : Nat, (tag b ≠ 46 ∨ j ≠ 0) → fld F b j = fld Fo b j) ∧ (∀ b j : Nat, elm F b j = elm Fo b j) := ⟨fun b j n46_0 => (h1v80673 b j (fr_ne g0 n46_0)).trans (hfr.1 b j n46_0), fun b j  => (h2v80673 b j).trans (hfr.2 b j )⟩
  refine lv_iconst (v := 0) hx hb dX13_led_5 (by decide) ?_
  refine lv_istore_n (lv' := [(2, .int 0), (0, .ref p0), (1, .int p1)]) hx hb dX13_led_6 rfl hl (by decide) rfl (fun ls hl => ?_)
  refine lv_iconst (v := 0) hx hb dX13_led_7 (by decide) ?_
  refine lv_istore_n (lv' := [(3, .int 0), (2, .int 0), (0, .ref p0), (1, .int p1)]) hx hb dX13_led_8 rfl hl (by decide) rfl (fun ls hl => ?_)
  have k80674 : (0 : Int32).toInt = 0 := by decide
  have k80675 : (0 : Int32).toInt = 0 := by decide
  have k80676 : (0 : Int32).toInt = 0 := by decide
  exact K9 0 0 0 _ _ _ _ (by decide) (by decide) (by decide) hT hfr pf0 v80673 (lv_sub hl [2, 3, 1, 0] rfl)
theorem kp_X13_led (l : Launch) (G : KG) (tag : Nat → Nat) (L : List Nat) (Fo : Nat → va_E) (ho : okT G ttC tag L Fo) (p0 : Nat) (p1 : Int32) (m0 : p0 ∈ L) (g0 : tag p0 = 46) : TMi l yX13_led cX13_led 4 (some .int) { frames := 5, cells := 0, slots := 0, locals := 121 } G ttC tag L Fo [.ref p0, .int p1] (fun r F1 => ((-2147483648) ≤ r.toInt ∧ r.toInt ≤ 2147483647) ∧ ((∀ b j : Nat, (tag b ≠ 46 ∨ j ≠ 0) → fld F1 b j = fld Fo b j) ∧ (∀ b j : Nat, elm F1 b j = elm Fo b j))) := by
  rcases t_fldn ho m0 g0 rfl 3 rfl with h9 | ⟨b9, h9, m9, t9⟩
  · exact km263_X13_led l G tag L Fo ho p0 p1  m0 g0 h9 
  · exact km262_X13_led l G tag L Fo ho p0 p1 b9  m0 g0 m9 (tg_of t9) h9 
set_option maxHeartbeats 4000000 in
set_option maxRecDepth 100000 in
theorem km265_X13_size (l : Launch) (G : KG) (tag : Nat → Nat) (L : List Nat) (Fo : Nat → va_E) (ho : okT G ttC tag L Fo) (p0 : Nat) (p1 : Int32) (x0 : Nat) (m0 : p0 ∈ L) (g0 : tag p0 = 46) (mx0 : x0 ∈ L) (gx0 : tag x0 = 45) (pf0 : fld Fo p0 3 = .ref x0) : TMi l yX13_size cX13_size 2 (some .int) { frames := 1, cells := 0, slots := 0, locals := 22 } G ttC tag L Fo [.ref p0, .int p1] (fun r F1 => ((-2147483648) ≤ r.toInt ∧ r.toInt ≤ 2147483647) ∧ ((∀ b j : Nat, (tag b ≠ 46 ∨ j ≠ 0) → fld F1 b j = fld Fo b j) ∧ (∀ b j : Nat, elm F1 b j = elm Fo b j))) := by
  refine t_bodyi (y := yX13_size) (cd := cX13_size) (mL := 2) (rt := (some .int)) (rm := { frames := 1, cells := 0, slots := 0, locals := 22 }) (av := [.ref p0, .int p1]) (by decide) (Nat.le_of_ble_eq_true rfl) ho ?_
  intro p e s m args below meth c ls A Q hQ X hT hl
  have hx := X.1.1
  have hb := X.1.2.1
  have hl : lv_has ls 2 [(0, .ref p0), (1, .int p1)] := hl
  have rp1 := rg_all p1
  obtain ⟨F, hFo⟩ : ∃ F : Nat → va_E, F = Fo := ⟨_, rfl⟩
  rw [← hFo] at hT pf0
  have hfr : (∀ b j : Nat, (tag b ≠ 46 ∨ j ≠ 0) → fld F b j = fld Fo b j) ∧ (∀ b j : Nat, elm F b j = elm Fo b j) := by
    rw [hFo]
    exact ⟨by intros; rfl, by intros; rfl⟩
  refine lv_aload_n hx hb dX13_size_0 rfl (lv_at hl 0 rfl) ?_
  refine lv_iconst (v := 0) hx hb dX13_size_1 (by decide) ?_
  refine t_put (C := RX13) (T := TX13) (N := 37) (v := .int 0) X hT m0 g0 rfl tyX13 tyX13_ok nmX13 rfl 0 (by decide) qw_140 inlX13 rfl (by first | rfl | decide) (by first | rfl | decide) rfl (⟨_, rfl, (show (-2147483648) ≤ (0 : Int32).toInt from (by decide)), (show (0 : Int32).toInt ≤ 2147483647 from (by decide))⟩) dX13_size_2 (fun F H locs hT v81634 h1v81634 h2v81634 => ?_)
  have pf0 := (h1v81634 _ _ (Or.inr (by decide))).trans pf0
  have hfr : (∀ b j : Nat, (tag b ≠ 46 ∨ j ≠ 0) → fld F b j = fld Fo b j) ∧ (∀ b j : Nat, elm F b j = elm Fo b j) := ⟨fun b j n46_0 => (h1v81634 b j (fr_ne g0 n46_0)).trans (hfr.1 b j n46_0), fun b j  => (h2v81634 b j).trans (hfr.2 b j )⟩
  refine lv_iload_n hx hb dX13_size_5 rfl (lv_at hl 1 rfl) ?_
  refine lv_bipush (v := 12) hx hb dX13_size_6 (by decide) ?_
  refine lv_icmp_ne (tgt := 16) hx hb dX13_size_8 (by decide) (fun c81635 => ?_) (fun c81635 => ?_)
  · have w81636 := cv_ne (rfl : p1.toInt = p1.toInt) (by decide : (12 : Int32).toInt = 12) c81635
    refine lv_iload_n hx hb dX13_size_16 rfl (lv_at hl 1 rfl) ?_
    refine lv_iconst (v := 0) hx hb dX13_size_17 (by decide) ?_
    refine lv_bipush (v := 11) hx hb dX13_size_18 (by decide) ?_
    refine t_cSi (n := 3) (As := [.int p1, .int 0, .int 11]) (rest := []) X hT (km19_X13_within l G tag L F hT.2.2.2 p1 0 11 ) qw_568 qw_569 qw_5 qw_570 ⟨by decide +kernel, by decide +kernel, by decide +kernel⟩ ⟨Nat.le_of_ble_eq_true rfl, Nat.le_of_ble_eq_true rfl⟩ hl rfl rfl (Nat.le_of_ble_eq_true rfl) dX13_size_20 ⟨Nat.le_of_ble_eq_true rfl, Nat.le_of_ble_eq_true rfl⟩ (fun z81637 F9 H locs hT hz81637 => ?_)
    obtain ⟨fz81637, hz81637, xz81637_0⟩ := hz81637
    rw [fz81637] at hT
    have k81638 : (0 : Int32).toInt = 0 := by decide
    have k81639 : (11 : Int32).toInt = 11 := by decide
    refine lv_if_ne (tgt := 28) hx hb dX13_size_23 (by decide) (fun c81640 => ?_) (fun c81640 => ?_)
    · have w81641 := cv_ne (rfl : z81637.toInt = z81637.toInt) (by decide : (0 : Int32).toInt = 0) c81640
      have w81642 := xz81637_0 (by omega)
      refine lv_aload_n hx hb dX13_size_28 rfl (lv_at hl 0 rfl) ?_
      refine t_get (C := RX13) (T := TX13) (N := 37) X hT m0 g0 rfl rfl 3 (by decide) qw_481 inlX13 rfl dX13_size_29 (fun v81643 hv81643 ov81643 => ?_)
      obtain rfl : v81643 = .ref x0 := hv81643.symm.trans pf0
      refine lv_ifnonnull (tgt := 37) hx hb dX13_size_32 (by decide) ?_
      refine lv_iload_n hx hb dX13_size_37 rfl (lv_at hl 1 rfl) ?_
      by_cases c81644 : p1 = 0
      · have w81645 := cv_eq (rfl : p1.toInt = p1.toInt) (by decide : (0 : Int32).toInt = 0) c81644
        refine lv_tableIn (off := 58) (tgt := 96) hx hb dX13_size_38 (by rw [c81644]; decide) (by rw [c81644]; decide) (by rw [c81644]; decide) (by decide) ?_
        refine lv_aload_n hx hb dX13_size_96 rfl (lv_at hl 0 rfl) ?_
        refine t_get (C := RX13) (T := TX13) (N := 37) X hT m0 g0 rfl rfl 3 (by decide) qw_481 inlX13 rfl dX13_size_97 (fun v81646 hv81646 ov81646 => ?_)
        obtain rfl : v81646 = .ref x0 := hv81646.symm.trans pf0
        refine t_getN (C := RX12) (T := TX12) (N := 31) X hT mx0 gx0 rfl rfl 0 (by decide) (List.mem_of_getElem? (i := 4) rfl) inlX12 rfl dX13_size_100 (fun v81647 hv81647 ov81647 => ?_)
        obtain ⟨z81648, rfl, rz81648⟩ := okV_i ov81647
        exact t_iret hQ X hT (⟨rg_all _, hfr⟩) (Nat.le_of_ble_eq_true rfl) (Nat.le_of_ble_eq_true rfl) dX13_size_103
      have w81649 := cv_ne (rfl : p1.toInt = p1.toInt) (by decide : (0 : Int32).toInt = 0) c81644
      by_cases c81650 : p1 = 1
      · have w81651 := cv_eq (rfl : p1.toInt = p1.toInt) (by decide : (1 : Int32).toInt = 1) c81650
        refine lv_tableIn (off := 66) (tgt := 104) hx hb dX13_size_38 (by rw [c81650]; decide) (by rw [c81650]; decide) (by rw [c81650]; decide) (by decide) ?_
        refine lv_aload_n hx hb dX13_size_104 rfl (lv_at hl 0 rfl) ?_
        refine t_get (C := RX13) (T := TX13) (N := 37) X hT m0 g0 rfl rfl 3 (by decide) qw_481 inlX13 rfl dX13_size_105 (fun v81652 hv81652 ov81652 => ?_)
        obtain rfl : v81652 = .ref x0 := hv81652.symm.trans pf0
        refine t_getN (C := RX12) (T := TX12) (N := 31) X hT mx0 gx0 rfl rfl 1 (by decide) (List.mem_of_getElem? (i := 5) rfl) inlX12 rfl dX13_size_108 (fun v81653 hv81653 ov81653 => ?_)
        obtain ⟨z81654, rfl, rz81654⟩ := okV_i ov81653
        exact t_iret hQ X hT (⟨rg_all _, hfr⟩) (Nat.le_of_ble_eq_true rfl) (Nat.le_of_ble_eq_true rfl) dX13_size_111
      have w81655 := cv_ne (rfl : p1.toInt = p1.toInt) (by decide : (1 : Int32).toInt = 1) c81650
      by_cases c81656 : p1 = 2
      · have w81657 := cv_eq (rfl : p1.toInt = p1.toInt) (by decide : (2 : Int32).toInt = 2) c81656
        refine lv_tableIn (off := 74) (tgt := 112) hx hb dX13_size_38 (by rw [c81656]; decide) (by rw [c81656]; decide) (by rw [c81656]; decide) (by decide) ?_
        refine lv_aload_n hx hb dX13_size_112 rfl (lv_at hl 0 rfl) ?_
        refine t_get (C := RX13) (T := TX13) (N := 37) X hT m0 g0 rfl rfl 3 (by decide) qw_481 inlX13 rfl dX13_size_113 (fun v81658 hv81658 ov81658 => ?_)
        obtain rfl : v81658 = .ref x0 := hv81658.symm.trans pf0
        refine t_getN (C := RX12) (T := TX12) (N := 31) X hT mx0 gx0 rfl rfl 13 (by decide) (List.mem_of_getElem? (i := 17) rfl) inlX12 rfl dX13_size_116 (fun v81659 hv81659 ov81659 => ?_)
        obtain ⟨z81660, rfl, rz81660⟩ := okV_i ov81659
        refine lv_if_eq (tgt := 126) hx hb dX13_size_119 (by decide) (fun c81661 => ?_) (fun c81661 => ?_)
        · have w81662 := cv_eq (rfl : z81660.toInt = z81660.toInt) (by decide : (0 : Int32).toInt = 0) c81661
          refine lv_iconst (v := 0) hx hb dX13_size_126 (by decide) ?_
          have k81663 : (0 : Int32).toInt = 0 := by decide
          exact t_iret hQ X hT (⟨rg_all _, hfr⟩) (Nat.le_of_ble_eq_true rfl) (Nat.le_of_ble_eq_true rfl) dX13_size_127
        · have w81664 := cv_ne (rfl : z81660.toInt = z81660.toInt) (by decide : (0 : Int32).toInt = 0) c81661
          refine lv_iconst (v := 1) hx hb dX13_size_122 (by decide) ?_
          refine lv_goto (tgt := 127) hx hb dX13_size_123 (by decide) ?_
          have k81665 : (1 : Int32).toInt = 1 := by decide
          exact t_iret hQ X hT (⟨rg_all _, hfr⟩) (Nat.le_of_ble_eq_true rfl) (Nat.le_of_ble_eq_true rfl) dX13_size_127
      have w81666 := cv_ne (rfl : p1.toInt = p1.toInt) (by decide : (2 : Int32).toInt = 2) c81656
      by_cases c81667 : p1 = 3
      · have w81668 := cv_eq (rfl : p1.toInt = p1.toInt) (by decide : (3 : Int32).toInt = 3) c81667
        refine lv_tableIn (off := 90) (tgt := 128) hx hb dX13_size_38 (by rw [c81667]; decide) (by rw [c81667]; decide) (by rw [c81667]; decide) (by decide) ?_
        refine lv_aload_n hx hb dX13_size_128 rfl (lv_at hl 0 rfl) ?_
        refine t_get (C := RX13) (T := TX13) (N := 37) X hT m0 g0 rfl rfl 3 (by decide) qw_481 inlX13 rfl dX13_size_129 (fun v81669 hv81669 ov81669 => ?_)
        obtain rfl : v81669 = .ref x0 := hv81669.symm.trans pf0
        refine t_getN (C := RX12) (T := TX12) (N := 31) X hT mx0 gx0 rfl rfl 14 (by decide) (List.mem_of_getElem? (i := 18) rfl) inlX12 rfl dX13_size_132 (fun v81670 hv81670 ov81670 => ?_)
        obtain ⟨z81671, rfl, rz81671⟩ := okV_i ov81670
        refine lv_if_eq (tgt := 142) hx hb dX13_size_135 (by decide) (fun c81672 => ?_) (fun c81672 => ?_)
        · have w81673 := cv_eq (rfl : z81671.toInt = z81671.toInt) (by decide : (0 : Int32).toInt = 0) c81672
          refine lv_iconst (v := 0) hx hb dX13_size_142 (by decide) ?_
          have k81674 : (0 : Int32).toInt = 0 := by decide
          exact t_iret hQ X hT (⟨rg_all _, hfr⟩) (Nat.le_of_ble_eq_true rfl) (Nat.le_of_ble_eq_true rfl) dX13_size_143
        · have w81675 := cv_ne (rfl : z81671.toInt = z81671.toInt) (by decide : (0 : Int32).toInt = 0) c81672
          refine lv_iconst (v := 1) hx hb dX13_size_138 (by decide) ?_
          refine lv_goto (tgt := 143) hx hb dX13_size_139 (by decide) ?_
          have k81676 : (1 : Int32).toInt = 1 := by decide
          exact t_iret hQ X hT (⟨rg_all _, hfr⟩) (Nat.le_of_ble_eq_true rfl) (Nat.le_of_ble_eq_true rfl) dX13_size_143
      have w81677 := cv_ne (rfl : p1.toInt = p1.toInt) (by decide : (3 : Int32).toInt = 3) c81667
      by_cases c81678 : p1 = 4
      · have w81679 := cv_eq (rfl : p1.toInt = p1.toInt) (by decide : (4 : Int32).toInt = 4) c81678
        refine lv_tableIn (off := 106) (tgt := 144) hx hb dX13_size_38 (by rw [c81678]; decide) (by rw [c81678]; decide) (by rw [c81678]; decide) (by decide) ?_
        refine lv_aload_n hx hb dX13_size_144 rfl (lv_at hl 0 rfl) ?_
        refine t_get (C := RX13) (T := TX13) (N := 37) X hT m0 g0 rfl rfl 3 (by decide) qw_481 inlX13 rfl dX13_size_145 (fun v81680 hv81680 ov81680 => ?_)
        obtain rfl : v81680 = .ref x0 := hv81680.symm.trans pf0
        refine t_getN (C := RX12) (T := TX12) (N := 31) X hT mx0 gx0 rfl rfl 7 (by decide) (List.mem_of_getElem? (i := 11) rfl) inlX12 rfl dX13_size_148 (fun v81681 hv81681 ov81681 => ?_)
        obtain ⟨z81682, rfl, rz81682⟩ := okV_i ov81681
        exact t_iret hQ X hT (⟨rg_all _, hfr⟩) (Nat.le_of_ble_eq_true rfl) (Nat.le_of_ble_eq_true rfl) dX13_size_151
      have w81683 := cv_ne (rfl : p1.toInt = p1.toInt) (by decide : (4 : Int32).toInt = 4) c81678
      by_cases c81684 : p1 = 5
      · have w81685 := cv_eq (rfl : p1.toInt = p1.toInt) (by decide : (5 : Int32).toInt = 5) c81684
        refine lv_tableIn (off := 114) (tgt := 152) hx hb dX13_size_38 (by rw [c81684]; decide) (by rw [c81684]; decide) (by rw [c81684]; decide) (by decide) ?_
        refine lv_aload_n hx hb dX13_size_152 rfl (lv_at hl 0 rfl) ?_
        refine t_get (C := RX13) (T := TX13) (N := 37) X hT m0 g0 rfl rfl 3 (by decide) qw_481 inlX13 rfl dX13_size_153 (fun v81686 hv81686 ov81686 => ?_)
        obtain rfl : v81686 = .ref x0 := hv81686.symm.trans pf0
        refine t_getN (C := RX12) (T := TX12) (N := 31) X hT mx0 gx0 rfl rfl 8 (by decide) (List.mem_of_getElem? (i := 12) rfl) inlX12 rfl dX13_size_156 (fun v81687 hv81687 ov81687 => ?_)
        obtain ⟨z81688, rfl, rz81688⟩ := okV_i ov81687
        exact t_iret hQ X hT (⟨rg_all _, hfr⟩) (Nat.le_of_ble_eq_true rfl) (Nat.le_of_ble_eq_true rfl) dX13_size_159
      have w81689 := cv_ne (rfl : p1.toInt = p1.toInt) (by decide : (5 : Int32).toInt = 5) c81684
      by_cases c81690 : p1 = 6
      · have w81691 := cv_eq (rfl : p1.toInt = p1.toInt) (by decide : (6 : Int32).toInt = 6) c81690
        refine lv_tableIn (off := 122) (tgt := 160) hx hb dX13_size_38 (by rw [c81690]; decide) (by rw [c81690]; decide) (by rw [c81690]; decide) (by decide) ?_
        refine lv_aload_n hx hb dX13_size_160 rfl (lv_at hl 0 rfl) ?_
        refine t_get (C := RX13) (T := TX13) (N := 37) X hT m0 g0 rfl rfl 3 (by decide) qw_481 inlX13 rfl dX13_size_161 (fun v81692 hv81692 ov81692 => ?_)
        obtain rfl : v81692 = .ref x0 := hv81692.symm.trans pf0
        refine t_getN (C := RX12) (T := TX12) (N := 31) X hT mx0 gx0 rfl rfl 9 (by decide) (List.mem_of_getElem? (i := 13) rfl) inlX12 rfl dX13_size_164 (fun v81693 hv81693 ov81693 => ?_)
        obtain ⟨z81694, rfl, rz81694⟩ := okV_i ov81693
        exact t_iret hQ X hT (⟨rg_all _, hfr⟩) (Nat.le_of_ble_eq_true rfl) (Nat.le_of_ble_eq_true rfl) dX13_size_167
      have w81695 := cv_ne (rfl : p1.toInt = p1.toInt) (by decide : (6 : Int32).toInt = 6) c81690
      by_cases c81696 : p1 = 7
      · have w81697 := cv_eq (rfl : p1.toInt = p1.toInt) (by decide : (7 : Int32).toInt = 7) c81696
        refine lv_tableIn (off := 130) (tgt := 168) hx hb dX13_size_38 (by rw [c81696]; decide) (by rw [c81696]; decide) (by rw [c81696]; decide) (by decide) ?_
        refine lv_aload_n hx hb dX13_size_168 rfl (lv_at hl 0 rfl) ?_
        refine t_get (C := RX13) (T := TX13) (N := 37) X hT m0 g0 rfl rfl 3 (by decide) qw_481 inlX13 rfl dX13_size_169 (fun v81698 hv81698 ov81698 => ?_)
        obtain rfl : v81698 = .ref x0 := hv81698.symm.trans pf0
        refine t_getN (C := RX12) (T := TX12) (N := 31) X hT mx0 gx0 rfl rfl 10 (by decide) (List.mem_of_getElem? (i := 14) rfl) inlX12 rfl dX13_size_172 (fun v81699 hv81699 ov81699 => ?_)
        obtain ⟨z81700, rfl, rz81700⟩ := okV_i ov81699
        exact t_iret hQ X hT (⟨rg_all _, hfr⟩) (Nat.le_of_ble_eq_true rfl) (Nat.le_of_ble_eq_true rfl) dX13_size_175
      have w81701 := cv_ne (rfl : p1.toInt = p1.toInt) (by decide : (7 : Int32).toInt = 7) c81696
      by_cases c81702 : p1 = 8
      · have w81703 := cv_eq (rfl : p1.toInt = p1.toInt) (by decide : (8 : Int32).toInt = 8) c81702
        refine lv_tableIn (off := 138) (tgt := 176) hx hb dX13_size_38 (by rw [c81702]; decide) (by rw [c81702]; decide) (by rw [c81702]; decide) (by decide) ?_
        refine lv_aload_n hx hb dX13_size_176 rfl (lv_at hl 0 rfl) ?_
        refine t_get (C := RX13) (T := TX13) (N := 37) X hT m0 g0 rfl rfl 16 (by decide) qw_112 inlX13 rfl dX13_size_177 (fun v81704 hv81704 ov81704 => ?_)
        obtain ⟨b81705, rfl, mb81705, gb81705⟩ := okV_r ov81704
        have gb81705 : tag b81705 = 37 := tg_of gb81705
        refine lv_sipush (v := 210) hx hb dX13_size_180 (by decide) ?_
        refine t_ild X hT mb81705 gb81705 rfl (by decide) dX13_size_183 (fun z81706 vz81706 rz81706 => ?_)
        have oz81706 := rz81706
        have rz81706 := rg_all z81706
        exact t_iret hQ X hT (⟨rg_all _, hfr⟩) (Nat.le_of_ble_eq_true rfl) (Nat.le_of_ble_eq_true rfl) dX13_size_184
      have w81707 := cv_ne (rfl : p1.toInt = p1.toInt) (by decide : (8 : Int32).toInt = 8) c81702
      by_cases c81708 : p1 = 9
      · have w81709 := cv_eq (rfl : p1.toInt = p1.toInt) (by decide : (9 : Int32).toInt = 9) c81708
        refine lv_tableIn (off := 147) (tgt := 185) hx hb dX13_size_38 (by rw [c81708]; decide) (by rw [c81708]; decide) (by rw [c81708]; decide) (by decide) ?_
        refine lv_aload_n hx hb dX13_size_185 rfl (lv_at hl 0 rfl) ?_
        refine t_get (C := RX13) (T := TX13) (N := 37) X hT m0 g0 rfl rfl 16 (by decide) qw_112 inlX13 rfl dX13_size_186 (fun v81710 hv81710 ov81710 => ?_)
        obtain ⟨b81711, rfl, mb81711, gb81711⟩ := okV_r ov81710
        have gb81711 : tag b81711 = 37 := tg_of gb81711
        refine lv_sipush (v := 211) hx hb dX13_size_189 (by decide) ?_
        refine t_ild X hT mb81711 gb81711 rfl (by decide) dX13_size_192 (fun z81712 vz81712 rz81712 => ?_)
        have oz81712 := rz81712
        have rz81712 := rg_all z81712
        exact t_iret hQ X hT (⟨rg_all _, hfr⟩) (Nat.le_of_ble_eq_true rfl) (Nat.le_of_ble_eq_true rfl) dX13_size_193
      have w81713 := cv_ne (rfl : p1.toInt = p1.toInt) (by decide : (9 : Int32).toInt = 9) c81708
      by_cases c81714 : p1 = 10
      · have w81715 := cv_eq (rfl : p1.toInt = p1.toInt) (by decide : (10 : Int32).toInt = 10) c81714
        refine lv_tableIn (off := 156) (tgt := 194) hx hb dX13_size_38 (by rw [c81714]; decide) (by rw [c81714]; decide) (by rw [c81714]; decide) (by decide) ?_
        refine lv_aload_n hx hb dX13_size_194 rfl (lv_at hl 0 rfl) ?_
        refine t_get (C := RX13) (T := TX13) (N := 37) X hT m0 g0 rfl rfl 20 (by decide) qw_482 inlX13 rfl dX13_size_195 (fun v81716 hv81716 ov81716 => ?_)
        obtain ⟨z81717, rfl, rz81717⟩ := okV_i ov81716
        exact t_iret hQ X hT (⟨rg_all _, hfr⟩) (Nat.le_of_ble_eq_true rfl) (Nat.le_of_ble_eq_true rfl) dX13_size_198
      have w81718 := cv_ne (rfl : p1.toInt = p1.toInt) (by decide : (10 : Int32).toInt = 10) c81714
      refine lv_tableOut (tgt := 199) hx hb dX13_size_38 (by omega) (by decide) ?_
      refine lv_aload_n hx hb dX13_size_199 rfl (lv_at hl 0 rfl) ?_
      refine t_get (C := RX13) (T := TX13) (N := 37) X hT m0 g0 rfl rfl 21 (by decide) qw_483 inlX13 rfl dX13_size_200 (fun v81719 hv81719 ov81719 => ?_)
      obtain ⟨z81720, rfl, rz81720⟩ := okV_i ov81719
      exact t_iret hQ X hT (⟨rg_all _, hfr⟩) (Nat.le_of_ble_eq_true rfl) (Nat.le_of_ble_eq_true rfl) dX13_size_203
    · have w81721 := cv_eq (rfl : z81637.toInt = z81637.toInt) (by decide : (0 : Int32).toInt = 0) c81640
      refine lv_iconst (v := (-1)) hx hb dX13_size_26 (by decide) ?_
      have k81722 : ((-1) : Int32).toInt = (-1) := by decide
      exact t_iret hQ X hT (⟨rg_all _, hfr⟩) (Nat.le_of_ble_eq_true rfl) (Nat.le_of_ble_eq_true rfl) dX13_size_27
  · have w81723 := cv_eq (rfl : p1.toInt = p1.toInt) (by decide : (12 : Int32).toInt = 12) c81635
    refine lv_aload_n hx hb dX13_size_11 rfl (lv_at hl 0 rfl) ?_
    refine t_get (C := RX13) (T := TX13) (N := 37) X hT m0 g0 rfl rfl 6 (by decide) qw_141 inlX13 rfl dX13_size_12 (fun v81724 hv81724 ov81724 => ?_)
    obtain ⟨z81725, rfl, rz81725⟩ := okV_i ov81724
    exact t_iret hQ X hT (⟨rg_all _, hfr⟩) (Nat.le_of_ble_eq_true rfl) (Nat.le_of_ble_eq_true rfl) dX13_size_15
set_option maxHeartbeats 4000000 in
set_option maxRecDepth 100000 in
theorem km266_X13_size (l : Launch) (G : KG) (tag : Nat → Nat) (L : List Nat) (Fo : Nat → va_E) (ho : okT G ttC tag L Fo) (p0 : Nat) (p1 : Int32) (m0 : p0 ∈ L) (g0 : tag p0 = 46) (pf0 : fld Fo p0 3 = .null) : TMi l yX13_size cX13_size 2 (some .int) { frames := 1, cells := 0, slots := 0, locals := 22 } G ttC tag L Fo [.ref p0, .int p1] (fun r F1 => ((-2147483648) ≤ r.toInt ∧ r.toInt ≤ 2147483647) ∧ ((∀ b j : Nat, (tag b ≠ 46 ∨ j ≠ 0) → fld F1 b j = fld Fo b j) ∧ (∀ b j : Nat, elm F1 b j = elm Fo b j))) := by
  refine t_bodyi (y := yX13_size) (cd := cX13_size) (mL := 2) (rt := (some .int)) (rm := { frames := 1, cells := 0, slots := 0, locals := 22 }) (av := [.ref p0, .int p1]) (by decide) (Nat.le_of_ble_eq_true rfl) ho ?_
  intro p e s m args below meth c ls A Q hQ X hT hl
  have hx := X.1.1
  have hb := X.1.2.1
  have hl : lv_has ls 2 [(0, .ref p0), (1, .int p1)] := hl
  have rp1 := rg_all p1
  obtain ⟨F, hFo⟩ : ∃ F : Nat → va_E, F = Fo := ⟨_, rfl⟩
  rw [← hFo] at hT pf0
  have hfr : (∀ b j : Nat, (tag b ≠ 46 ∨ j ≠ 0) → fld F b j = fld Fo b j) ∧ (∀ b j : Nat, elm F b j = elm Fo b j) := by
    rw [hFo]
    exact ⟨by intros; rfl, by intros; rfl⟩
  refine lv_aload_n hx hb dX13_size_0 rfl (lv_at hl 0 rfl) ?_
  refine lv_iconst (v := 0) hx hb dX13_size_1 (by decide) ?_
  refine t_put (C := RX13) (T := TX13) (N := 37) (v := .int 0) X hT m0 g0 rfl tyX13 tyX13_ok nmX13 rfl 0 (by decide) qw_140 inlX13 rfl (by first | rfl | decide) (by first | rfl | decide) rfl (⟨_, rfl, (show (-2147483648) ≤ (0 : Int32).toInt from (by decide)), (show (0 : Int32).toInt ≤ 2147483647 from (by decide))⟩) dX13_size_2 (fun F H locs hT v81880 h1v81880 h2v81880 => ?_)
  have pf0 := (h1v81880 _ _ (Or.inr (by decide))).trans pf0
  have hfr : (∀ b j : Nat, (tag b ≠ 46 ∨ j ≠ 0) → fld F b j = fld Fo b j) ∧ (∀ b j : Nat, elm F b j = elm Fo b j) := ⟨fun b j n46_0 => (h1v81880 b j (fr_ne g0 n46_0)).trans (hfr.1 b j n46_0), fun b j  => (h2v81880 b j).trans (hfr.2 b j )⟩
  refine lv_iload_n hx hb dX13_size_5 rfl (lv_at hl 1 rfl) ?_
  refine lv_bipush (v := 12) hx hb dX13_size_6 (by decide) ?_
  refine lv_icmp_ne (tgt := 16) hx hb dX13_size_8 (by decide) (fun c81881 => ?_) (fun c81881 => ?_)
  · have w81882 := cv_ne (rfl : p1.toInt = p1.toInt) (by decide : (12 : Int32).toInt = 12) c81881
    refine lv_iload_n hx hb dX13_size_16 rfl (lv_at hl 1 rfl) ?_
    refine lv_iconst (v := 0) hx hb dX13_size_17 (by decide) ?_
    refine lv_bipush (v := 11) hx hb dX13_size_18 (by decide) ?_
    refine t_cSi (n := 3) (As := [.int p1, .int 0, .int 11]) (rest := []) X hT (km19_X13_within l G tag L F hT.2.2.2 p1 0 11 ) qw_568 qw_569 qw_5 qw_570 ⟨by decide +kernel, by decide +kernel, by decide +kernel⟩ ⟨Nat.le_of_ble_eq_true rfl, Nat.le_of_ble_eq_true rfl⟩ hl rfl rfl (Nat.le_of_ble_eq_true rfl) dX13_size_20 ⟨Nat.le_of_ble_eq_true rfl, Nat.le_of_ble_eq_true rfl⟩ (fun z81883 F9 H locs hT hz81883 => ?_)
    obtain ⟨fz81883, hz81883, xz81883_0⟩ := hz81883
    rw [fz81883] at hT
    have k81884 : (0 : Int32).toInt = 0 := by decide
    have k81885 : (11 : Int32).toInt = 11 := by decide
    refine lv_if_ne (tgt := 28) hx hb dX13_size_23 (by decide) (fun c81886 => ?_) (fun c81886 => ?_)
    · have w81887 := cv_ne (rfl : z81883.toInt = z81883.toInt) (by decide : (0 : Int32).toInt = 0) c81886
      have w81888 := xz81883_0 (by omega)
      refine lv_aload_n hx hb dX13_size_28 rfl (lv_at hl 0 rfl) ?_
      refine t_get (C := RX13) (T := TX13) (N := 37) X hT m0 g0 rfl rfl 3 (by decide) qw_481 inlX13 rfl dX13_size_29 (fun v81889 hv81889 ov81889 => ?_)
      obtain rfl : v81889 = .null := hv81889.symm.trans pf0
      refine lv_ifnonnullN hx hb dX13_size_32 ?_
      refine lv_iconst (v := 0) hx hb dX13_size_35 (by decide) ?_
      have k81890 : (0 : Int32).toInt = 0 := by decide
      exact t_iret hQ X hT (⟨rg_all _, hfr⟩) (Nat.le_of_ble_eq_true rfl) (Nat.le_of_ble_eq_true rfl) dX13_size_36
    · have w81891 := cv_eq (rfl : z81883.toInt = z81883.toInt) (by decide : (0 : Int32).toInt = 0) c81886
      refine lv_iconst (v := (-1)) hx hb dX13_size_26 (by decide) ?_
      have k81892 : ((-1) : Int32).toInt = (-1) := by decide
      exact t_iret hQ X hT (⟨rg_all _, hfr⟩) (Nat.le_of_ble_eq_true rfl) (Nat.le_of_ble_eq_true rfl) dX13_size_27
  · have w81893 := cv_eq (rfl : p1.toInt = p1.toInt) (by decide : (12 : Int32).toInt = 12) c81881
    refine lv_aload_n hx hb dX13_size_11 rfl (lv_at hl 0 rfl) ?_
    refine t_get (C := RX13) (T := TX13) (N := 37) X hT m0 g0 rfl rfl 6 (by decide) qw_141 inlX13 rfl dX13_size_12 (fun v81894 hv81894 ov81894 => ?_)
    obtain ⟨z81895, rfl, rz81895⟩ := okV_i ov81894
    exact t_iret hQ X hT (⟨rg_all _, hfr⟩) (Nat.le_of_ble_eq_true rfl) (Nat.le_of_ble_eq_true rfl) dX13_size_15
theorem kp_X13_size (l : Launch) (G : KG) (tag : Nat → Nat) (L : List Nat) (Fo : Nat → va_E) (ho : okT G ttC tag L Fo) (p0 : Nat) (p1 : Int32) (m0 : p0 ∈ L) (g0 : tag p0 = 46) : TMi l yX13_size cX13_size 2 (some .int) { frames := 1, cells := 0, slots := 0, locals := 22 } G ttC tag L Fo [.ref p0, .int p1] (fun r F1 => ((-2147483648) ≤ r.toInt ∧ r.toInt ≤ 2147483647) ∧ ((∀ b j : Nat, (tag b ≠ 46 ∨ j ≠ 0) → fld F1 b j = fld Fo b j) ∧ (∀ b j : Nat, elm F1 b j = elm Fo b j))) := by
  rcases t_fldn ho m0 g0 rfl 3 rfl with h9 | ⟨b9, h9, m9, t9⟩
  · exact km266_X13_size l G tag L Fo ho p0 p1  m0 g0 h9 
  · exact km265_X13_size l G tag L Fo ho p0 p1 b9  m0 g0 m9 (tg_of t9) h9 
set_option maxHeartbeats 4000000 in
set_option maxRecDepth 100000 in
theorem km268_X13_denied (l : Launch) (G : KG) (tag : Nat → Nat) (L : List Nat) (Fo : Nat → va_E) (ho : okT G ttC tag L Fo) (p0 : Nat) (p1 : Int32) (m0 : p0 ∈ L) (g0 : tag p0 = 46) : TMi l yX13_denied cX13_denied 2 (some .boolean) { frames := 1, cells := 0, slots := 0, locals := 21 } G ttC tag L Fo [.ref p0, .int p1] (fun r F1 => (0 ≤ r.toInt ∧ r.toInt ≤ 0) ∧ ((∀ b j : Nat, (tag b ≠ 46 ∨ j ≠ 1) → (tag b ≠ 46 ∨ j ≠ 2) → fld F1 b j = fld Fo b j) ∧ (∀ b j : Nat, elm F1 b j = elm Fo b j))) := by
  refine t_bodyi (y := yX13_denied) (cd := cX13_denied) (mL := 2) (rt := (some .boolean)) (rm := { frames := 1, cells := 0, slots := 0, locals := 21 }) (av := [.ref p0, .int p1]) (by decide) (Nat.le_of_ble_eq_true rfl) ho ?_
  intro p e s m args below meth c ls A Q hQ X hT hl
  have hx := X.1.1
  have hb := X.1.2.1
  have hl : lv_has ls 2 [(0, .ref p0), (1, .int p1)] := hl
  have rp1 := rg_all p1
  obtain ⟨F, hFo⟩ : ∃ F : Nat → va_E, F = Fo := ⟨_, rfl⟩
  rw [← hFo] at hT
  have hfr : (∀ b j : Nat, (tag b ≠ 46 ∨ j ≠ 1) → (tag b ≠ 46 ∨ j ≠ 2) → fld F b j = fld Fo b j) ∧ (∀ b j : Nat, elm F b j = elm Fo b j) := by
    rw [hFo]
    exact ⟨by intros; rfl, by intros; rfl⟩
  refine lv_aload_n hx hb dX13_denied_0 rfl (lv_at hl 0 rfl) ?_
  refine lv_iload_n hx hb dX13_denied_1 rfl (lv_at hl 1 rfl) ?_
  refine t_cVi (n := 1) (C := RX13) (T := TX13) (N := 37) (As := [.int p1]) (rest := []) X hT (km88_X13_refused l G tag L F hT.2.2.2 p0 p1 m0 g0) m0 g0 rfl rfl qw_484 qw_485 qw_486 qw_5 qw_487 ⟨rfl, by decide +kernel, by decide +kernel, by decide +kernel⟩ ⟨Nat.le_of_ble_eq_true rfl, Nat.le_of_ble_eq_true rfl⟩ hl rfl rfl (Nat.le_of_ble_eq_true rfl) dX13_denied_2 ⟨Nat.le_of_ble_eq_true rfl, Nat.le_of_ble_eq_true rfl⟩ (fun z81920 F H locs hT hz81920 => ?_)
  obtain ⟨hz81920, yz81920⟩ := hz81920
  have hfr : (∀ b j : Nat, (tag b ≠ 46 ∨ j ≠ 1) → (tag b ≠ 46 ∨ j ≠ 2) → fld F b j = fld Fo b j) ∧ (∀ b j : Nat, elm F b j = elm Fo b j) := ⟨fun b j n46_1 n46_2 => (yz81920.1 b j n46_1 n46_2).trans (hfr.1 b j n46_1 n46_2), fun b j  => (yz81920.2 b j ).trans (hfr.2 b j )⟩
  refine lv_pop hx hb dX13_denied_5 rfl ?_
  refine lv_iconst (v := 0) hx hb dX13_denied_6 (by decide) ?_
  have k81921 : (0 : Int32).toInt = 0 := by decide
  exact t_zret hQ X hT (by decide) (⟨(by decide), hfr⟩) (Nat.le_of_ble_eq_true rfl) (Nat.le_of_ble_eq_true rfl) dX13_denied_7
set_option maxHeartbeats 4000000 in
set_option maxRecDepth 100000 in
theorem km269_X13_granted (l : Launch) (G : KG) (tag : Nat → Nat) (L : List Nat) (Fo : Nat → va_E) (ho : okT G ttC tag L Fo) (p0 : Nat) (m0 : p0 ∈ L) (g0 : tag p0 = 46) : TMi l yX13_granted cX13_granted 1 (some .boolean) { frames := 1, cells := 0, slots := 0, locals := 21 } G ttC tag L Fo [.ref p0] (fun r F1 => (1 ≤ r.toInt ∧ r.toInt ≤ 1) ∧ ((∀ b j : Nat, (tag b ≠ 46 ∨ j ≠ 1) → (tag b ≠ 46 ∨ j ≠ 2) → fld F1 b j = fld Fo b j) ∧ (∀ b j : Nat, elm F1 b j = elm Fo b j))) := by
  refine t_bodyi (y := yX13_granted) (cd := cX13_granted) (mL := 1) (rt := (some .boolean)) (rm := { frames := 1, cells := 0, slots := 0, locals := 21 }) (av := [.ref p0]) (by decide) (Nat.le_of_ble_eq_true rfl) ho ?_
  intro p e s m args below meth c ls A Q hQ X hT hl
  have hx := X.1.1
  have hb := X.1.2.1
  have hl : lv_has ls 1 [(0, .ref p0)] := hl
  obtain ⟨F, hFo⟩ : ∃ F : Nat → va_E, F = Fo := ⟨_, rfl⟩
  rw [← hFo] at hT
  have hfr : (∀ b j : Nat, (tag b ≠ 46 ∨ j ≠ 1) → (tag b ≠ 46 ∨ j ≠ 2) → fld F b j = fld Fo b j) ∧ (∀ b j : Nat, elm F b j = elm Fo b j) := by
    rw [hFo]
    exact ⟨by intros; rfl, by intros; rfl⟩
  refine lv_aload_n hx hb dX13_granted_0 rfl (lv_at hl 0 rfl) ?_
  refine lv_iconst (v := 0) hx hb dX13_granted_1 (by decide) ?_
  refine t_cVi (n := 1) (C := RX13) (T := TX13) (N := 37) (As := [.int 0]) (rest := []) X hT (km93_X13_good l G tag L F hT.2.2.2 p0 0 m0 g0) m0 g0 rfl rfl qw_687 qw_688 qw_689 qw_5 qw_690 ⟨rfl, by decide +kernel, by decide +kernel, by decide +kernel⟩ ⟨Nat.le_of_ble_eq_true rfl, Nat.le_of_ble_eq_true rfl⟩ hl rfl rfl (Nat.le_of_ble_eq_true rfl) dX13_granted_2 ⟨Nat.le_of_ble_eq_true rfl, Nat.le_of_ble_eq_true rfl⟩ (fun z81951 F H locs hT hz81951 => ?_)
  obtain ⟨hz81951, yz81951⟩ := hz81951
  have hfr : (∀ b j : Nat, (tag b ≠ 46 ∨ j ≠ 1) → (tag b ≠ 46 ∨ j ≠ 2) → fld F b j = fld Fo b j) ∧ (∀ b j : Nat, elm F b j = elm Fo b j) := ⟨fun b j n46_1 n46_2 => (yz81951.1 b j n46_1 n46_2).trans (hfr.1 b j n46_1 n46_2), fun b j  => (yz81951.2 b j ).trans (hfr.2 b j )⟩
  refine lv_pop hx hb dX13_granted_5 rfl ?_
  refine lv_iconst (v := 1) hx hb dX13_granted_6 (by decide) ?_
  have k81952 : (1 : Int32).toInt = 1 := by decide
  exact t_zret hQ X hT (by decide) (⟨(by decide), hfr⟩) (Nat.le_of_ble_eq_true rfl) (Nat.le_of_ble_eq_true rfl) dX13_granted_7
set_option maxHeartbeats 4000000 in
set_option maxRecDepth 100000 in
theorem km270_X13_fill (l : Launch) (G : KG) (tag : Nat → Nat) (L : List Nat) (Fo : Nat → va_E) (ho : okT G ttC tag L Fo) (p0 : Nat) (p1 : Int32) (p2 : Int32) (x0 : Nat) (m0 : p0 ∈ L) (g0 : tag p0 = 46) (mx0 : x0 ∈ L) (gx0 : tag x0 = 45) (pf0 : fld Fo p0 3 = .ref x0) : TMi l yX13_fill cX13_fill 3 (some .boolean) { frames := 2, cells := 0, slots := 0, locals := 43 } G ttC tag L Fo [.ref p0, .int p1, .int p2] (fun r F1 => (0 ≤ r.toInt ∧ r.toInt ≤ 1) ∧ ((∀ b j : Nat, (tag b ≠ 46 ∨ j ≠ 0) → (tag b ≠ 46 ∨ j ≠ 1) → (tag b ≠ 46 ∨ j ≠ 2) → (tag b ≠ 46 ∨ j ≠ 20) → fld F1 b j = fld Fo b j) ∧ (∀ b j : Nat, tag b ≠ 37 → tag b ≠ 38 → elm F1 b j = elm Fo b j))) := by
  refine t_bodyi (y := yX13_fill) (cd := cX13_fill) (mL := 3) (rt := (some .boolean)) (rm := { frames := 2, cells := 0, slots := 0, locals := 43 }) (av := [.ref p0, .int p1, .int p2]) (by decide) (Nat.le_of_ble_eq_true rfl) ho ?_
  intro p e s m args below meth c ls A Q hQ X hT hl
  have hx := X.1.1
  have hb := X.1.2.1
  have hl : lv_has ls 3 [(0, .ref p0), (1, .int p1), (2, .int p2)] := hl
  have rp1 := rg_all p1
  have rp2 := rg_all p2
  obtain ⟨F, hFo⟩ : ∃ F : Nat → va_E, F = Fo := ⟨_, rfl⟩
  rw [← hFo] at hT pf0
  have hfr : (∀ b j : Nat, (tag b ≠ 46 ∨ j ≠ 0) → (tag b ≠ 46 ∨ j ≠ 1) → (tag b ≠ 46 ∨ j ≠ 2) → (tag b ≠ 46 ∨ j ≠ 20) → fld F b j = fld Fo b j) ∧ (∀ b j : Nat, tag b ≠ 37 → tag b ≠ 38 → elm F b j = elm Fo b j) := by
    rw [hFo]
    exact ⟨by intros; rfl, by intros; rfl⟩
  refine lv_aload_n hx hb dX13_fill_0 rfl (lv_at hl 0 rfl) ?_
  refine lv_iconst (v := 0) hx hb dX13_fill_1 (by decide) ?_
  refine t_put (C := RX13) (T := TX13) (N := 37) (v := .int 0) X hT m0 g0 rfl tyX13 tyX13_ok nmX13 rfl 0 (by decide) qw_140 inlX13 rfl (by first | rfl | decide) (by first | rfl | decide) rfl (⟨_, rfl, (show (-2147483648) ≤ (0 : Int32).toInt from (by decide)), (show (0 : Int32).toInt ≤ 2147483647 from (by decide))⟩) dX13_fill_2 (fun F H locs hT v82318 h1v82318 h2v82318 => ?_)
  have pf0 := (h1v82318 _ _ (Or.inr (by decide))).trans pf0
  have hfr : (∀ b j : Nat, (tag b ≠ 46 ∨ j ≠ 0) → (tag b ≠ 46 ∨ j ≠ 1) → (tag b ≠ 46 ∨ j ≠ 2) → (tag b ≠ 46 ∨ j ≠ 20) → fld F b j = fld Fo b j) ∧ (∀ b j : Nat, tag b ≠ 37 → tag b ≠ 38 → elm F b j = elm Fo b j) := ⟨fun b j n46_0 n46_1 n46_2 n46_20 => (h1v82318 b j (fr_ne g0 n46_0)).trans (hfr.1 b j n46_0 n46_1 n46_2 n46_20), fun b j a37 a38 => (h2v82318 b j).trans (hfr.2 b j a37 a38)⟩
  refine lv_aload_n hx hb dX13_fill_5 rfl (lv_at hl 0 rfl) ?_
  refine lv_iload_n hx hb dX13_fill_6 rfl (lv_at hl 1 rfl) ?_
  refine lv_iload_n hx hb dX13_fill_7 rfl (lv_at hl 2 rfl) ?_
  refine t_cVi (n := 2) (C := RX13) (T := TX13) (N := 37) (As := [.int p1, .int p2]) (rest := []) X hT (km119_X13_isSkin l G tag L F hT.2.2.2 p0 p1 p2 x0 m0 g0 mx0 gx0 pf0) m0 g0 rfl rfl qw_836 qw_837 qw_838 qw_5 qw_839 ⟨rfl, by decide +kernel, by decide +kernel, by decide +kernel⟩ ⟨Nat.le_of_ble_eq_true rfl, Nat.le_of_ble_eq_true rfl⟩ hl rfl rfl (Nat.le_of_ble_eq_true rfl) dX13_fill_8 ⟨Nat.le_of_ble_eq_true rfl, Nat.le_of_ble_eq_true rfl⟩ (fun z82319 F9 H locs hT hz82319 => ?_)
  obtain ⟨fz82319, hz82319⟩ := hz82319
  rw [fz82319] at hT
  obtain ⟨hz82319, iz82319⟩ := hz82319
  refine lv_if_ne (tgt := 20) hx hb dX13_fill_11 (by decide) (fun c82320 => ?_) (fun c82320 => ?_)
  · have w82321 := cv_ne (rfl : z82319.toInt = z82319.toInt) (by decide : (0 : Int32).toInt = 0) c82320
    have w82322 := (fun h => (iz82319 h).1) (by omega)
    have w82323 := (fun h => (iz82319 h).2) (by omega)
    refine lv_aload_n hx hb dX13_fill_20 rfl (lv_at hl 0 rfl) ?_
    refine t_get (C := RX13) (T := TX13) (N := 37) X hT m0 g0 rfl rfl 16 (by decide) qw_112 inlX13 rfl dX13_fill_21 (fun v82324 hv82324 ov82324 => ?_)
    obtain ⟨b82325, rfl, mb82325, gb82325⟩ := okV_r ov82324
    have gb82325 : tag b82325 = 37 := tg_of gb82325
    refine lv_iload_n hx hb dX13_fill_24 rfl (lv_at hl 1 rfl) ?_
    refine lv_iload_n hx hb dX13_fill_25 rfl (lv_at hl 2 rfl) ?_
    refine lv_bipush (v := 6) hx hb dX13_fill_26 (by decide) ?_
    refine t_cSi (n := 3) (As := [.int p1, .int p2, .int 6]) (rest := [.ref b82325]) X hT (km49_X13_part l G tag L F hT.2.2.2 p1 p2 6 (by omega) (by omega) (by decide)) qw_661 qw_662 qw_5 qw_663 ⟨by decide +kernel, by decide +kernel, by decide +kernel⟩ ⟨Nat.le_of_ble_eq_true rfl, Nat.le_of_ble_eq_true rfl⟩ hl rfl rfl (Nat.le_of_ble_eq_true rfl) dX13_fill_28 ⟨Nat.le_of_ble_eq_true rfl, Nat.le_of_ble_eq_true rfl⟩ (fun z82326 F9 H locs hT hz82326 => ?_)
    obtain ⟨fz82326, hz82326, xz82326_0⟩ := hz82326
    rw [fz82326] at hT
    have k82327 : (6 : Int32).toInt = 6 := by decide
    refine t_ild X hT mb82325 gb82325 rfl (by omega) dX13_fill_31 (fun z82328 vz82328 rz82328 => ?_)
    have oz82328 := rz82328
    have rz82328 := rg_all z82328
    refine lv_iconst (v := 1) hx hb dX13_fill_32 (by decide) ?_
    refine lv_icmp_eq (tgt := 60) hx hb dX13_fill_33 (by decide) (fun c82329 => ?_) (fun c82329 => ?_)
    · have w82330 := cv_eq (rfl : z82328.toInt = z82328.toInt) (by decide : (1 : Int32).toInt = 1) c82329
      refine lv_aload_n hx hb dX13_fill_60 rfl (lv_at hl 0 rfl) ?_
      refine lv_iconst (v := 5) hx hb dX13_fill_61 (by decide) ?_
      refine t_cVi (n := 1) (C := RX13) (T := TX13) (N := 37) (As := [.int 5]) (rest := []) X hT (km268_X13_denied l G tag L F hT.2.2.2 p0 5 m0 g0) m0 g0 rfl rfl qw_1468 qw_1469 qw_1470 qw_5 qw_1471 ⟨rfl, by decide +kernel, by decide +kernel, by decide +kernel⟩ ⟨Nat.le_of_ble_eq_true rfl, Nat.le_of_ble_eq_true rfl⟩ hl rfl rfl (Nat.le_of_ble_eq_true rfl) dX13_fill_62 ⟨Nat.le_of_ble_eq_true rfl, Nat.le_of_ble_eq_true rfl⟩ (fun z82331 F H locs hT hz82331 => ?_)
      obtain ⟨hz82331, yz82331⟩ := hz82331
      have pf0 := (yz82331.1 _ 3 (Or.inr (by decide)) (Or.inr (by decide))).trans pf0
      have v82318 := (yz82331.1 _ 0 (Or.inr (by decide)) (Or.inr (by decide))).trans v82318
      have hv82324 := (yz82331.1 _ 16 (Or.inr (by decide)) (Or.inr (by decide))).trans hv82324
      have vz82328 := (yz82331.2 _ _ ).trans vz82328
      have hfr : (∀ b j : Nat, (tag b ≠ 46 ∨ j ≠ 0) → (tag b ≠ 46 ∨ j ≠ 1) → (tag b ≠ 46 ∨ j ≠ 2) → (tag b ≠ 46 ∨ j ≠ 20) → fld F b j = fld Fo b j) ∧ (∀ b j : Nat, tag b ≠ 37 → tag b ≠ 38 → elm F b j = elm Fo b j) := ⟨fun b j n46_0 n46_1 n46_2 n46_20 => (yz82331.1 b j n46_1 n46_2).trans (hfr.1 b j n46_0 n46_1 n46_2 n46_20), fun b j a37 a38 => (yz82331.2 b j ).trans (hfr.2 b j a37 a38)⟩
      exact t_zret hQ X hT (nar_z (by omega)) (⟨(by omega), hfr⟩) (Nat.le_of_ble_eq_true rfl) (Nat.le_of_ble_eq_true rfl) dX13_fill_65
    · have w82332 := cv_ne (rfl : z82328.toInt = z82328.toInt) (by decide : (1 : Int32).toInt = 1) c82329
      refine lv_aload_n hx hb dX13_fill_36 rfl (lv_at hl 0 rfl) ?_
      refine t_get (C := RX13) (T := TX13) (N := 37) X hT m0 g0 rfl rfl 16 (by decide) qw_112 inlX13 rfl dX13_fill_37 (fun v82333 hv82333 ov82333 => ?_)
      obtain rfl : v82333 = .ref b82325 := hv82333.symm.trans hv82324
      refine lv_iload_n hx hb dX13_fill_40 rfl (lv_at hl 1 rfl) ?_
      refine lv_iload_n hx hb dX13_fill_41 rfl (lv_at hl 2 rfl) ?_
      refine lv_iconst (v := 5) hx hb dX13_fill_42 (by decide) ?_
      refine t_cSi (n := 3) (As := [.int p1, .int p2, .int 5]) (rest := [.ref b82325]) X hT (km49_X13_part l G tag L F hT.2.2.2 p1 p2 5 (by omega) (by omega) (by decide)) qw_661 qw_662 qw_5 qw_663 ⟨by decide +kernel, by decide +kernel, by decide +kernel⟩ ⟨Nat.le_of_ble_eq_true rfl, Nat.le_of_ble_eq_true rfl⟩ hl rfl rfl (Nat.le_of_ble_eq_true rfl) dX13_fill_43 ⟨Nat.le_of_ble_eq_true rfl, Nat.le_of_ble_eq_true rfl⟩ (fun z82334 F9 H locs hT hz82334 => ?_)
      obtain ⟨fz82334, hz82334, xz82334_0⟩ := hz82334
      rw [fz82334] at hT
      have k82335 : (5 : Int32).toInt = 5 := by decide
      refine t_ild X hT mb82325 gb82325 rfl (by omega) dX13_fill_46 (fun z82336 vz82336 rz82336 => ?_)
      have oz82336 := rz82336
      have rz82336 := rg_all z82336
      refine lv_iconst (v := 1) hx hb dX13_fill_47 (by decide) ?_
      refine lv_icmp_eq (tgt := 60) hx hb dX13_fill_48 (by decide) (fun c82337 => ?_) (fun c82337 => ?_)
      · have w82338 := cv_eq (rfl : z82336.toInt = z82336.toInt) (by decide : (1 : Int32).toInt = 1) c82337
        refine lv_aload_n hx hb dX13_fill_60 rfl (lv_at hl 0 rfl) ?_
        refine lv_iconst (v := 5) hx hb dX13_fill_61 (by decide) ?_
        refine t_cVi (n := 1) (C := RX13) (T := TX13) (N := 37) (As := [.int 5]) (rest := []) X hT (km268_X13_denied l G tag L F hT.2.2.2 p0 5 m0 g0) m0 g0 rfl rfl qw_1468 qw_1469 qw_1470 qw_5 qw_1471 ⟨rfl, by decide +kernel, by decide +kernel, by decide +kernel⟩ ⟨Nat.le_of_ble_eq_true rfl, Nat.le_of_ble_eq_true rfl⟩ hl rfl rfl (Nat.le_of_ble_eq_true rfl) dX13_fill_62 ⟨Nat.le_of_ble_eq_true rfl, Nat.le_of_ble_eq_true rfl⟩ (fun z82339 F H locs hT hz82339 => ?_)
        obtain ⟨hz82339, yz82339⟩ := hz82339
        have pf0 := (yz82339.1 _ 3 (Or.inr (by decide)) (Or.inr (by decide))).trans pf0
        have v82318 := (yz82339.1 _ 0 (Or.inr (by decide)) (Or.inr (by decide))).trans v82318
        have hv82324 := (yz82339.1 _ 16 (Or.inr (by decide)) (Or.inr (by decide))).trans hv82324
        have vz82328 := (yz82339.2 _ _ ).trans vz82328
        have vz82336 := (yz82339.2 _ _ ).trans vz82336
        have hfr : (∀ b j : Nat, (tag b ≠ 46 ∨ j ≠ 0) → (tag b ≠ 46 ∨ j ≠ 1) → (tag b ≠ 46 ∨ j ≠ 2) → (tag b ≠ 46 ∨ j ≠ 20) → fld F b j = fld Fo b j) ∧ (∀ b j : Nat, tag b ≠ 37 → tag b ≠ 38 → elm F b j = elm Fo b j) := ⟨fun b j n46_0 n46_1 n46_2 n46_20 => (yz82339.1 b j n46_1 n46_2).trans (hfr.1 b j n46_0 n46_1 n46_2 n46_20), fun b j a37 a38 => (yz82339.2 b j ).trans (hfr.2 b j a37 a38)⟩
        exact t_zret hQ X hT (nar_z (by omega)) (⟨(by omega), hfr⟩) (Nat.le_of_ble_eq_true rfl) (Nat.le_of_ble_eq_true rfl) dX13_fill_65
      · have w82340 := cv_ne (rfl : z82336.toInt = z82336.toInt) (by decide : (1 : Int32).toInt = 1) c82337
        refine lv_aload_n hx hb dX13_fill_51 rfl (lv_at hl 0 rfl) ?_
        refine lv_iload_n hx hb dX13_fill_52 rfl (lv_at hl 1 rfl) ?_
        refine lv_iload_n hx hb dX13_fill_53 rfl (lv_at hl 2 rfl) ?_
        refine t_cVi (n := 2) (C := RX13) (T := TX13) (N := 37) (As := [.int p1, .int p2]) (rest := []) X hT (km219_X13_isLivedIn l G tag L F hT.2.2.2 p0 p1 p2 x0 m0 g0 mx0 gx0 pf0) m0 g0 rfl rfl qw_1324 qw_1325 qw_1326 qw_5 qw_1327 ⟨rfl, by decide +kernel, by decide +kernel, by decide +kernel⟩ ⟨Nat.le_of_ble_eq_true rfl, Nat.le_of_ble_eq_true rfl⟩ hl rfl rfl (Nat.le_of_ble_eq_true rfl) dX13_fill_54 ⟨Nat.le_of_ble_eq_true rfl, Nat.le_of_ble_eq_true rfl⟩ (fun z82341 F9 H locs hT hz82341 => ?_)
        obtain ⟨fz82341, hz82341⟩ := hz82341
        rw [fz82341] at hT
        refine lv_if_eq (tgt := 66) hx hb dX13_fill_57 (by decide) (fun c82342 => ?_) (fun c82342 => ?_)
        · have w82343 := cv_eq (rfl : z82341.toInt = z82341.toInt) (by decide : (0 : Int32).toInt = 0) c82342
          refine lv_aload_n hx hb dX13_fill_66 rfl (lv_at hl 0 rfl) ?_
          refine t_cVv (n := 0) (C := RX13) (T := TX13) (N := 37) (As := []) (rest := []) X hT (km245_X13_keeps l G tag L F hT.2.2.2 p0 m0 g0) m0 g0 rfl rfl qw_1437 qw_1438 qw_1439 qw_5 qw_1440 ⟨rfl, by decide +kernel, by decide +kernel, by decide +kernel⟩ ⟨Nat.le_of_ble_eq_true rfl, Nat.le_of_ble_eq_true rfl⟩ hl rfl rfl (Nat.le_of_ble_eq_true rfl) dX13_fill_67 ⟨Nat.le_of_ble_eq_true rfl, Nat.le_of_ble_eq_true rfl⟩ (fun F H locs hT hz82344 => ?_)
          have yz82344 := hz82344
          have pf0 := (yz82344.1 _ 3 (Or.inr (by decide))).trans pf0
          have v82318 := (yz82344.1 _ 0 (Or.inr (by decide))).trans v82318
          have hv82324 := (yz82344.1 _ 16 (Or.inr (by decide))).trans hv82324
          have vz82328 := (yz82344.2 _ _ (by rw [gb82325]; decide)).trans vz82328
          have vz82336 := (yz82344.2 _ _ (by rw [gb82325]; decide)).trans vz82336
          have hfr : (∀ b j : Nat, (tag b ≠ 46 ∨ j ≠ 0) → (tag b ≠ 46 ∨ j ≠ 1) → (tag b ≠ 46 ∨ j ≠ 2) → (tag b ≠ 46 ∨ j ≠ 20) → fld F b j = fld Fo b j) ∧ (∀ b j : Nat, tag b ≠ 37 → tag b ≠ 38 → elm F b j = elm Fo b j) := ⟨fun b j n46_0 n46_1 n46_2 n46_20 => (yz82344.1 b j n46_20).trans (hfr.1 b j n46_0 n46_1 n46_2 n46_20), fun b j a37 a38 => (yz82344.2 b j a38).trans (hfr.2 b j a37 a38)⟩
          refine lv_aload_n hx hb dX13_fill_70 rfl (lv_at hl 0 rfl) ?_
          refine t_get (C := RX13) (T := TX13) (N := 37) X hT m0 g0 rfl rfl 16 (by decide) qw_112 inlX13 rfl dX13_fill_71 (fun v82345 hv82345 ov82345 => ?_)
          obtain rfl : v82345 = .ref b82325 := hv82345.symm.trans hv82324
          refine lv_iload_n hx hb dX13_fill_74 rfl (lv_at hl 1 rfl) ?_
          refine lv_iload_n hx hb dX13_fill_75 rfl (lv_at hl 2 rfl) ?_
          refine lv_bipush (v := 6) hx hb dX13_fill_76 (by decide) ?_
          refine t_cSi (n := 3) (As := [.int p1, .int p2, .int 6]) (rest := [.ref b82325]) X hT (km49_X13_part l G tag L F hT.2.2.2 p1 p2 6 (by omega) (by omega) (by decide)) qw_661 qw_662 qw_5 qw_663 ⟨by decide +kernel, by decide +kernel, by decide +kernel⟩ ⟨Nat.le_of_ble_eq_true rfl, Nat.le_of_ble_eq_true rfl⟩ hl rfl rfl (Nat.le_of_ble_eq_true rfl) dX13_fill_78 ⟨Nat.le_of_ble_eq_true rfl, Nat.le_of_ble_eq_true rfl⟩ (fun z82346 F9 H locs hT hz82346 => ?_)
          obtain ⟨fz82346, hz82346, xz82346_0⟩ := hz82346
          rw [fz82346] at hT
          have k82347 : (6 : Int32).toInt = 6 := by decide
          refine lv_iconst (v := 1) hx hb dX13_fill_81 (by decide) ?_
          refine t_ist X hT mb82325 gb82325 rfl (by omega) (row_fv (by omega) (Or.inr (Or.inr (by omega)))) dX13_fill_82 (fun F H locs hT v82348 h1v82348 h2v82348 => ?_)
          have pf0 := (h2v82348 _ _).trans pf0
          have v82318 := (h2v82348 _ _).trans v82318
          have hv82324 := (h2v82348 _ _).trans hv82324
          have hfr : (∀ b j : Nat, (tag b ≠ 46 ∨ j ≠ 0) → (tag b ≠ 46 ∨ j ≠ 1) → (tag b ≠ 46 ∨ j ≠ 2) → (tag b ≠ 46 ∨ j ≠ 20) → fld F b j = fld Fo b j) ∧ (∀ b j : Nat, tag b ≠ 37 → tag b ≠ 38 → elm F b j = elm Fo b j) := ⟨fun b j n46_0 n46_1 n46_2 n46_20 => (h2v82348 b j).trans (hfr.1 b j n46_0 n46_1 n46_2 n46_20), fun b j a37 a38 => (h1v82348 b j (Or.inl (at_ne gb82325 a37))).trans (hfr.2 b j a37 a38)⟩
          refine lv_aload_n hx hb dX13_fill_83 rfl (lv_at hl 0 rfl) ?_
          refine t_cVi (n := 0) (C := RX13) (T := TX13) (N := 37) (As := []) (rest := []) X hT (km269_X13_granted l G tag L F hT.2.2.2 p0 m0 g0) m0 g0 rfl rfl qw_1472 qw_1473 qw_1474 qw_5 qw_1475 ⟨rfl, by decide +kernel, by decide +kernel, by decide +kernel⟩ ⟨Nat.le_of_ble_eq_true rfl, Nat.le_of_ble_eq_true rfl⟩ hl rfl rfl (Nat.le_of_ble_eq_true rfl) dX13_fill_84 ⟨Nat.le_of_ble_eq_true rfl, Nat.le_of_ble_eq_true rfl⟩ (fun z82349 F H locs hT hz82349 => ?_)
          obtain ⟨hz82349, yz82349⟩ := hz82349
          have pf0 := (yz82349.1 _ 3 (Or.inr (by decide)) (Or.inr (by decide))).trans pf0
          have v82318 := (yz82349.1 _ 0 (Or.inr (by decide)) (Or.inr (by decide))).trans v82318
          have hv82324 := (yz82349.1 _ 16 (Or.inr (by decide)) (Or.inr (by decide))).trans hv82324
          have v82348 := (yz82349.2 _ _ ).trans v82348
          have hfr : (∀ b j : Nat, (tag b ≠ 46 ∨ j ≠ 0) → (tag b ≠ 46 ∨ j ≠ 1) → (tag b ≠ 46 ∨ j ≠ 2) → (tag b ≠ 46 ∨ j ≠ 20) → fld F b j = fld Fo b j) ∧ (∀ b j : Nat, tag b ≠ 37 → tag b ≠ 38 → elm F b j = elm Fo b j) := ⟨fun b j n46_0 n46_1 n46_2 n46_20 => (yz82349.1 b j n46_1 n46_2).trans (hfr.1 b j n46_0 n46_1 n46_2 n46_20), fun b j a37 a38 => (yz82349.2 b j ).trans (hfr.2 b j a37 a38)⟩
          exact t_zret hQ X hT (nar_z (by omega)) (⟨(by omega), hfr⟩) (Nat.le_of_ble_eq_true rfl) (Nat.le_of_ble_eq_true rfl) dX13_fill_87
        · have w82350 := cv_ne (rfl : z82341.toInt = z82341.toInt) (by decide : (0 : Int32).toInt = 0) c82342
          refine lv_aload_n hx hb dX13_fill_60 rfl (lv_at hl 0 rfl) ?_
          refine lv_iconst (v := 5) hx hb dX13_fill_61 (by decide) ?_
          refine t_cVi (n := 1) (C := RX13) (T := TX13) (N := 37) (As := [.int 5]) (rest := []) X hT (km268_X13_denied l G tag L F hT.2.2.2 p0 5 m0 g0) m0 g0 rfl rfl qw_1468 qw_1469 qw_1470 qw_5 qw_1471 ⟨rfl, by decide +kernel, by decide +kernel, by decide +kernel⟩ ⟨Nat.le_of_ble_eq_true rfl, Nat.le_of_ble_eq_true rfl⟩ hl rfl rfl (Nat.le_of_ble_eq_true rfl) dX13_fill_62 ⟨Nat.le_of_ble_eq_true rfl, Nat.le_of_ble_eq_true rfl⟩ (fun z82351 F H locs hT hz82351 => ?_)
          obtain ⟨hz82351, yz82351⟩ := hz82351
          have pf0 := (yz82351.1 _ 3 (Or.inr (by decide)) (Or.inr (by decide))).trans pf0
          have v82318 := (yz82351.1 _ 0 (Or.inr (by decide)) (Or.inr (by decide))).trans v82318
          have hv82324 := (yz82351.1 _ 16 (Or.inr (by decide)) (Or.inr (by decide))).trans hv82324
          have vz82328 := (yz82351.2 _ _ ).trans vz82328
          have vz82336 := (yz82351.2 _ _ ).trans vz82336
          have hfr : (∀ b j : Nat, (tag b ≠ 46 ∨ j ≠ 0) → (tag b ≠ 46 ∨ j ≠ 1) → (tag b ≠ 46 ∨ j ≠ 2) → (tag b ≠ 46 ∨ j ≠ 20) → fld F b j = fld Fo b j) ∧ (∀ b j : Nat, tag b ≠ 37 → tag b ≠ 38 → elm F b j = elm Fo b j) := ⟨fun b j n46_0 n46_1 n46_2 n46_20 => (yz82351.1 b j n46_1 n46_2).trans (hfr.1 b j n46_0 n46_1 n46_2 n46_20), fun b j a37 a38 => (yz82351.2 b j ).trans (hfr.2 b j a37 a38)⟩
          exact t_zret hQ X hT (nar_z (by omega)) (⟨(by omega), hfr⟩) (Nat.le_of_ble_eq_true rfl) (Nat.le_of_ble_eq_true rfl) dX13_fill_65
  · have w82352 := cv_eq (rfl : z82319.toInt = z82319.toInt) (by decide : (0 : Int32).toInt = 0) c82320
    refine lv_aload_n hx hb dX13_fill_14 rfl (lv_at hl 0 rfl) ?_
    refine lv_iconst (v := 1) hx hb dX13_fill_15 (by decide) ?_
    refine t_cVi (n := 1) (C := RX13) (T := TX13) (N := 37) (As := [.int 1]) (rest := []) X hT (km268_X13_denied l G tag L F hT.2.2.2 p0 1 m0 g0) m0 g0 rfl rfl qw_1468 qw_1469 qw_1470 qw_5 qw_1471 ⟨rfl, by decide +kernel, by decide +kernel, by decide +kernel⟩ ⟨Nat.le_of_ble_eq_true rfl, Nat.le_of_ble_eq_true rfl⟩ hl rfl rfl (Nat.le_of_ble_eq_true rfl) dX13_fill_16 ⟨Nat.le_of_ble_eq_true rfl, Nat.le_of_ble_eq_true rfl⟩ (fun z82353 F H locs hT hz82353 => ?_)
    obtain ⟨hz82353, yz82353⟩ := hz82353
    have pf0 := (yz82353.1 _ 3 (Or.inr (by decide)) (Or.inr (by decide))).trans pf0
    have v82318 := (yz82353.1 _ 0 (Or.inr (by decide)) (Or.inr (by decide))).trans v82318
    have hfr : (∀ b j : Nat, (tag b ≠ 46 ∨ j ≠ 0) → (tag b ≠ 46 ∨ j ≠ 1) → (tag b ≠ 46 ∨ j ≠ 2) → (tag b ≠ 46 ∨ j ≠ 20) → fld F b j = fld Fo b j) ∧ (∀ b j : Nat, tag b ≠ 37 → tag b ≠ 38 → elm F b j = elm Fo b j) := ⟨fun b j n46_0 n46_1 n46_2 n46_20 => (yz82353.1 b j n46_1 n46_2).trans (hfr.1 b j n46_0 n46_1 n46_2 n46_20), fun b j a37 a38 => (yz82353.2 b j ).trans (hfr.2 b j a37 a38)⟩
    exact t_zret hQ X hT (nar_z (by omega)) (⟨(by omega), hfr⟩) (Nat.le_of_ble_eq_true rfl) (Nat.le_of_ble_eq_true rfl) dX13_fill_19
set_option maxHeartbeats 4000000 in
set_option maxRecDepth 100000 in
theorem km271_X13_fill (l : Launch) (G : KG) (tag : Nat → Nat) (L : List Nat) (Fo : Nat → va_E) (ho : okT G ttC tag L Fo) (p0 : Nat) (p1 : Int32) (p2 : Int32) (m0 : p0 ∈ L) (g0 : tag p0 = 46) (pf0 : fld Fo p0 3 = .null) : TMi l yX13_fill cX13_fill 3 (some .boolean) { frames := 2, cells := 0, slots := 0, locals := 43 } G ttC tag L Fo [.ref p0, .int p1, .int p2] (fun r F1 => (0 ≤ r.toInt ∧ r.toInt ≤ 1) ∧ ((∀ b j : Nat, (tag b ≠ 46 ∨ j ≠ 0) → (tag b ≠ 46 ∨ j ≠ 1) → (tag b ≠ 46 ∨ j ≠ 2) → (tag b ≠ 46 ∨ j ≠ 20) → fld F1 b j = fld Fo b j) ∧ (∀ b j : Nat, tag b ≠ 37 → tag b ≠ 38 → elm F1 b j = elm Fo b j))) := by
  refine t_bodyi (y := yX13_fill) (cd := cX13_fill) (mL := 3) (rt := (some .boolean)) (rm := { frames := 2, cells := 0, slots := 0, locals := 43 }) (av := [.ref p0, .int p1, .int p2]) (by decide) (Nat.le_of_ble_eq_true rfl) ho ?_
  intro p e s m args below meth c ls A Q hQ X hT hl
  have hx := X.1.1
  have hb := X.1.2.1
  have hl : lv_has ls 3 [(0, .ref p0), (1, .int p1), (2, .int p2)] := hl
  have rp1 := rg_all p1
  have rp2 := rg_all p2
  obtain ⟨F, hFo⟩ : ∃ F : Nat → va_E, F = Fo := ⟨_, rfl⟩
  rw [← hFo] at hT pf0
  have hfr : (∀ b j : Nat, (tag b ≠ 46 ∨ j ≠ 0) → (tag b ≠ 46 ∨ j ≠ 1) → (tag b ≠ 46 ∨ j ≠ 2) → (tag b ≠ 46 ∨ j ≠ 20) → fld F b j = fld Fo b j) ∧ (∀ b j : Nat, tag b ≠ 37 → tag b ≠ 38 → elm F b j = elm Fo b j) := by
    rw [hFo]
    exact ⟨by intros; rfl, by intros; rfl⟩
  refine lv_aload_n hx hb dX13_fill_0 rfl (lv_at hl 0 rfl) ?_
  refine lv_iconst (v := 0) hx hb dX13_fill_1 (by decide) ?_
  refine t_put (C := RX13) (T := TX13) (N := 37) (v := .int 0) X hT m0 g0 rfl tyX13 tyX13_ok nmX13 rfl 0 (by decide) qw_140 inlX13 rfl (by first | rfl | decide) (by first | rfl | decide) rfl (⟨_, rfl, (show (-2147483648) ≤ (0 : Int32).toInt from (by decide)), (show (0 : Int32).toInt ≤ 2147483647 from (by decide))⟩) dX13_fill_2 (fun F H locs hT v82420 h1v82420 h2v82420 => ?_)
  have pf0 := (h1v82420 _ _ (Or.inr (by decide))).trans pf0
  have hfr : (∀ b j : Nat, (tag b ≠ 46 ∨ j ≠ 0) → (tag b ≠ 46 ∨ j ≠ 1) → (tag b ≠ 46 ∨ j ≠ 2) → (tag b ≠ 46 ∨ j ≠ 20) → fld F b j = fld Fo b j) ∧ (∀ b j : Nat, tag b ≠ 37 → tag b ≠ 38 → elm F b j = elm Fo b j) := ⟨fun b j n46_0 n46_1 n46_2 n46_20 => (h1v82420 b j (fr_ne g0 n46_0)).trans (hfr.1 b j n46_0 n46_1 n46_2 n46_20), fun b j a37 a38 => (h2v82420 b j).trans (hfr.2 b j a37 a38)⟩
  refine lv_aload_n hx hb dX13_fill_5 rfl (lv_at hl 0 rfl) ?_
  refine lv_iload_n hx hb dX13_fill_6 rfl (lv_at hl 1 rfl) ?_
  refine lv_iload_n hx hb dX13_fill_7 rfl (lv_at hl 2 rfl) ?_
  refine t_cVi (n := 2) (C := RX13) (T := TX13) (N := 37) (As := [.int p1, .int p2]) (rest := []) X hT (km121_X13_isSkin l G tag L F hT.2.2.2 p0 p1 p2 m0 g0 pf0) m0 g0 rfl rfl qw_836 qw_837 qw_838 qw_5 qw_839 ⟨rfl, by decide +kernel, by decide +kernel, by decide +kernel⟩ ⟨Nat.le_of_ble_eq_true rfl, Nat.le_of_ble_eq_true rfl⟩ hl rfl rfl (Nat.le_of_ble_eq_true rfl) dX13_fill_8 ⟨Nat.le_of_ble_eq_true rfl, Nat.le_of_ble_eq_true rfl⟩ (fun z82421 F9 H locs hT hz82421 => ?_)
  obtain ⟨fz82421, hz82421⟩ := hz82421
  rw [fz82421] at hT
  refine lv_if_ne (tgt := 20) hx hb dX13_fill_11 (by decide) (fun c82422 => ?_) (fun c82422 => ?_)
  · have w82423 := cv_ne (rfl : z82421.toInt = z82421.toInt) (by decide : (0 : Int32).toInt = 0) c82422
    exfalso
    omega
  · have w82424 := cv_eq (rfl : z82421.toInt = z82421.toInt) (by decide : (0 : Int32).toInt = 0) c82422
    refine lv_aload_n hx hb dX13_fill_14 rfl (lv_at hl 0 rfl) ?_
    refine lv_iconst (v := 1) hx hb dX13_fill_15 (by decide) ?_
    refine t_cVi (n := 1) (C := RX13) (T := TX13) (N := 37) (As := [.int 1]) (rest := []) X hT (km268_X13_denied l G tag L F hT.2.2.2 p0 1 m0 g0) m0 g0 rfl rfl qw_1468 qw_1469 qw_1470 qw_5 qw_1471 ⟨rfl, by decide +kernel, by decide +kernel, by decide +kernel⟩ ⟨Nat.le_of_ble_eq_true rfl, Nat.le_of_ble_eq_true rfl⟩ hl rfl rfl (Nat.le_of_ble_eq_true rfl) dX13_fill_16 ⟨Nat.le_of_ble_eq_true rfl, Nat.le_of_ble_eq_true rfl⟩ (fun z82425 F H locs hT hz82425 => ?_)
    obtain ⟨hz82425, yz82425⟩ := hz82425
    have pf0 := (yz82425.1 _ 3 (Or.inr (by decide)) (Or.inr (by decide))).trans pf0
    have v82420 := (yz82425.1 _ 0 (Or.inr (by decide)) (Or.inr (by decide))).trans v82420
    have hfr : (∀ b j : Nat, (tag b ≠ 46 ∨ j ≠ 0) → (tag b ≠ 46 ∨ j ≠ 1) → (tag b ≠ 46 ∨ j ≠ 2) → (tag b ≠ 46 ∨ j ≠ 20) → fld F b j = fld Fo b j) ∧ (∀ b j : Nat, tag b ≠ 37 → tag b ≠ 38 → elm F b j = elm Fo b j) := ⟨fun b j n46_0 n46_1 n46_2 n46_20 => (yz82425.1 b j n46_1 n46_2).trans (hfr.1 b j n46_0 n46_1 n46_2 n46_20), fun b j a37 a38 => (yz82425.2 b j ).trans (hfr.2 b j a37 a38)⟩
    exact t_zret hQ X hT (nar_z (by omega)) (⟨(by omega), hfr⟩) (Nat.le_of_ble_eq_true rfl) (Nat.le_of_ble_eq_true rfl) dX13_fill_19
theorem kp_X13_fill (l : Launch) (G : KG) (tag : Nat → Nat) (L : List Nat) (Fo : Nat → va_E) (ho : okT G ttC tag L Fo) (p0 : Nat) (p1 : Int32) (p2 : Int32) (m0 : p0 ∈ L) (g0 : tag p0 = 46) : TMi l yX13_fill cX13_fill 3 (some .boolean) { frames := 2, cells := 0, slots := 0, locals := 43 } G ttC tag L Fo [.ref p0, .int p1, .int p2] (fun r F1 => (0 ≤ r.toInt ∧ r.toInt ≤ 1) ∧ ((∀ b j : Nat, (tag b ≠ 46 ∨ j ≠ 0) → (tag b ≠ 46 ∨ j ≠ 1) → (tag b ≠ 46 ∨ j ≠ 2) → (tag b ≠ 46 ∨ j ≠ 20) → fld F1 b j = fld Fo b j) ∧ (∀ b j : Nat, tag b ≠ 37 → tag b ≠ 38 → elm F1 b j = elm Fo b j))) := by
  rcases t_fldn ho m0 g0 rfl 3 rfl with h9 | ⟨b9, h9, m9, t9⟩
  · exact km271_X13_fill l G tag L Fo ho p0 p1 p2  m0 g0 h9 
  · exact km270_X13_fill l G tag L Fo ho p0 p1 p2 b9  m0 g0 m9 (tg_of t9) h9 
set_option maxHeartbeats 4000000 in
set_option maxRecDepth 100000 in
theorem km273_X13_lock (l : Launch) (G : KG) (tag : Nat → Nat) (L : List Nat) (Fo : Nat → va_E) (ho : okT G ttC tag L Fo) (p0 : Nat) (p1 : Int32) (p2 : Int32) (p3 : Int32) (x0 : Nat) (m0 : p0 ∈ L) (g0 : tag p0 = 46) (mx0 : x0 ∈ L) (gx0 : tag x0 = 45) (pf0 : fld Fo p0 3 = .ref x0) : TMi l yX13_lock cX13_lock 4 (some .boolean) { frames := 2, cells := 0, slots := 0, locals := 43 } G ttC tag L Fo [.ref p0, .int p1, .int p2, .int p3] (fun r F1 => (0 ≤ r.toInt ∧ r.toInt ≤ 1) ∧ ((∀ b j : Nat, (tag b ≠ 46 ∨ j ≠ 0) → (tag b ≠ 46 ∨ j ≠ 1) → (tag b ≠ 46 ∨ j ≠ 2) → (tag b ≠ 46 ∨ j ≠ 20) → fld F1 b j = fld Fo b j) ∧ (∀ b j : Nat, tag b ≠ 37 → tag b ≠ 38 → elm F1 b j = elm Fo b j))) := by
  refine t_bodyi (y := yX13_lock) (cd := cX13_lock) (mL := 4) (rt := (some .boolean)) (rm := { frames := 2, cells := 0, slots := 0, locals := 43 }) (av := [.ref p0, .int p1, .int p2, .int p3]) (by decide) (Nat.le_of_ble_eq_true rfl) ho ?_
  intro p e s m args below meth c ls A Q hQ X hT hl
  have hx := X.1.1
  have hb := X.1.2.1
  have hl : lv_has ls 4 [(0, .ref p0), (1, .int p1), (2, .int p2), (3, .int p3)] := hl
  have rp1 := rg_all p1
  have rp2 := rg_all p2
  have rp3 := rg_all p3
  obtain ⟨F, hFo⟩ : ∃ F : Nat → va_E, F = Fo := ⟨_, rfl⟩
  rw [← hFo] at hT pf0
  have hfr : (∀ b j : Nat, (tag b ≠ 46 ∨ j ≠ 0) → (tag b ≠ 46 ∨ j ≠ 1) → (tag b ≠ 46 ∨ j ≠ 2) → (tag b ≠ 46 ∨ j ≠ 20) → fld F b j = fld Fo b j) ∧ (∀ b j : Nat, tag b ≠ 37 → tag b ≠ 38 → elm F b j = elm Fo b j) := by
    rw [hFo]
    exact ⟨by intros; rfl, by intros; rfl⟩
  refine lv_aload_n hx hb dX13_lock_0 rfl (lv_at hl 0 rfl) ?_
  refine lv_iconst (v := 0) hx hb dX13_lock_1 (by decide) ?_
  refine t_put (C := RX13) (T := TX13) (N := 37) (v := .int 0) X hT m0 g0 rfl tyX13 tyX13_ok nmX13 rfl 0 (by decide) qw_140 inlX13 rfl (by first | rfl | decide) (by first | rfl | decide) rfl (⟨_, rfl, (show (-2147483648) ≤ (0 : Int32).toInt from (by decide)), (show (0 : Int32).toInt ≤ 2147483647 from (by decide))⟩) dX13_lock_2 (fun F H locs hT v82767 h1v82767 h2v82767 => ?_)
  have pf0 := (h1v82767 _ _ (Or.inr (by decide))).trans pf0
  have hfr : (∀ b j : Nat, (tag b ≠ 46 ∨ j ≠ 0) → (tag b ≠ 46 ∨ j ≠ 1) → (tag b ≠ 46 ∨ j ≠ 2) → (tag b ≠ 46 ∨ j ≠ 20) → fld F b j = fld Fo b j) ∧ (∀ b j : Nat, tag b ≠ 37 → tag b ≠ 38 → elm F b j = elm Fo b j) := ⟨fun b j n46_0 n46_1 n46_2 n46_20 => (h1v82767 b j (fr_ne g0 n46_0)).trans (hfr.1 b j n46_0 n46_1 n46_2 n46_20), fun b j a37 a38 => (h2v82767 b j).trans (hfr.2 b j a37 a38)⟩
  refine lv_aload_n hx hb dX13_lock_5 rfl (lv_at hl 0 rfl) ?_
  refine lv_iload_n hx hb dX13_lock_6 rfl (lv_at hl 1 rfl) ?_
  refine lv_iload_n hx hb dX13_lock_7 rfl (lv_at hl 2 rfl) ?_
  refine t_cVi (n := 2) (C := RX13) (T := TX13) (N := 37) (As := [.int p1, .int p2]) (rest := []) X hT (km119_X13_isSkin l G tag L F hT.2.2.2 p0 p1 p2 x0 m0 g0 mx0 gx0 pf0) m0 g0 rfl rfl qw_836 qw_837 qw_838 qw_5 qw_839 ⟨rfl, by decide +kernel, by decide +kernel, by decide +kernel⟩ ⟨Nat.le_of_ble_eq_true rfl, Nat.le_of_ble_eq_true rfl⟩ hl rfl rfl (Nat.le_of_ble_eq_true rfl) dX13_lock_8 ⟨Nat.le_of_ble_eq_true rfl, Nat.le_of_ble_eq_true rfl⟩ (fun z82768 F9 H locs hT hz82768 => ?_)
  obtain ⟨fz82768, hz82768⟩ := hz82768
  rw [fz82768] at hT
  obtain ⟨hz82768, iz82768⟩ := hz82768
  refine lv_if_ne (tgt := 20) hx hb dX13_lock_11 (by decide) (fun c82769 => ?_) (fun c82769 => ?_)
  · have w82770 := cv_ne (rfl : z82768.toInt = z82768.toInt) (by decide : (0 : Int32).toInt = 0) c82769
    have w82771 := (fun h => (iz82768 h).1) (by omega)
    have w82772 := (fun h => (iz82768 h).2) (by omega)
    refine lv_iload_n hx hb dX13_lock_20 rfl (lv_at hl 3 rfl) ?_
    refine lv_iconst (v := 0) hx hb dX13_lock_21 (by decide) ?_
    refine lv_bipush (v := 99) hx hb dX13_lock_22 (by decide) ?_
    refine t_cSi (n := 3) (As := [.int p3, .int 0, .int 99]) (rest := []) X hT (km19_X13_within l G tag L F hT.2.2.2 p3 0 99 ) qw_568 qw_569 qw_5 qw_570 ⟨by decide +kernel, by decide +kernel, by decide +kernel⟩ ⟨Nat.le_of_ble_eq_true rfl, Nat.le_of_ble_eq_true rfl⟩ hl rfl rfl (Nat.le_of_ble_eq_true rfl) dX13_lock_24 ⟨Nat.le_of_ble_eq_true rfl, Nat.le_of_ble_eq_true rfl⟩ (fun z82773 F9 H locs hT hz82773 => ?_)
    obtain ⟨fz82773, hz82773, xz82773_0⟩ := hz82773
    rw [fz82773] at hT
    have k82774 : (0 : Int32).toInt = 0 := by decide
    have k82775 : (99 : Int32).toInt = 99 := by decide
    refine lv_if_ne (tgt := 36) hx hb dX13_lock_27 (by decide) (fun c82776 => ?_) (fun c82776 => ?_)
    · have w82777 := cv_ne (rfl : z82773.toInt = z82773.toInt) (by decide : (0 : Int32).toInt = 0) c82776
      have w82778 := xz82773_0 (by omega)
      refine lv_aload_n hx hb dX13_lock_36 rfl (lv_at hl 0 rfl) ?_
      refine t_get (C := RX13) (T := TX13) (N := 37) X hT m0 g0 rfl rfl 16 (by decide) qw_112 inlX13 rfl dX13_lock_37 (fun v82779 hv82779 ov82779 => ?_)
      obtain ⟨b82780, rfl, mb82780, gb82780⟩ := okV_r ov82779
      have gb82780 : tag b82780 = 37 := tg_of gb82780
      refine lv_iload_n hx hb dX13_lock_40 rfl (lv_at hl 1 rfl) ?_
      refine lv_iload_n hx hb dX13_lock_41 rfl (lv_at hl 2 rfl) ?_
      refine lv_iconst (v := 3) hx hb dX13_lock_42 (by decide) ?_
      refine t_cSi (n := 3) (As := [.int p1, .int p2, .int 3]) (rest := [.ref b82780]) X hT (km49_X13_part l G tag L F hT.2.2.2 p1 p2 3 (by omega) (by omega) (by decide)) qw_661 qw_662 qw_5 qw_663 ⟨by decide +kernel, by decide +kernel, by decide +kernel⟩ ⟨Nat.le_of_ble_eq_true rfl, Nat.le_of_ble_eq_true rfl⟩ hl rfl rfl (Nat.le_of_ble_eq_true rfl) dX13_lock_43 ⟨Nat.le_of_ble_eq_true rfl, Nat.le_of_ble_eq_true rfl⟩ (fun z82781 F9 H locs hT hz82781 => ?_)
      obtain ⟨fz82781, hz82781, xz82781_0⟩ := hz82781
      rw [fz82781] at hT
      have k82782 : (3 : Int32).toInt = 3 := by decide
      refine t_ild X hT mb82780 gb82780 rfl (by omega) dX13_lock_46 (fun z82783 vz82783 rz82783 => ?_)
      have oz82783 := rz82783
      have rz82783 := rg_all z82783
      refine lv_iload_n hx hb dX13_lock_47 rfl (lv_at hl 3 rfl) ?_
      refine lv_icmp_ne (tgt := 57) hx hb dX13_lock_48 (by decide) (fun c82784 => ?_) (fun c82784 => ?_)
      · have w82785 := cv_ne (rfl : z82783.toInt = z82783.toInt) (rfl : p3.toInt = p3.toInt) c82784
        refine lv_aload_n hx hb dX13_lock_57 rfl (lv_at hl 0 rfl) ?_
        refine t_cVv (n := 0) (C := RX13) (T := TX13) (N := 37) (As := []) (rest := []) X hT (km245_X13_keeps l G tag L F hT.2.2.2 p0 m0 g0) m0 g0 rfl rfl qw_1437 qw_1438 qw_1439 qw_5 qw_1440 ⟨rfl, by decide +kernel, by decide +kernel, by decide +kernel⟩ ⟨Nat.le_of_ble_eq_true rfl, Nat.le_of_ble_eq_true rfl⟩ hl rfl rfl (Nat.le_of_ble_eq_true rfl) dX13_lock_58 ⟨Nat.le_of_ble_eq_true rfl, Nat.le_of_ble_eq_true rfl⟩ (fun F H locs hT hz82786 => ?_)
        have yz82786 := hz82786
        have pf0 := (yz82786.1 _ 3 (Or.inr (by decide))).trans pf0
        have v82767 := (yz82786.1 _ 0 (Or.inr (by decide))).trans v82767
        have hv82779 := (yz82786.1 _ 16 (Or.inr (by decide))).trans hv82779
        have vz82783 := (yz82786.2 _ _ (by rw [gb82780]; decide)).trans vz82783
        have hfr : (∀ b j : Nat, (tag b ≠ 46 ∨ j ≠ 0) → (tag b ≠ 46 ∨ j ≠ 1) → (tag b ≠ 46 ∨ j ≠ 2) → (tag b ≠ 46 ∨ j ≠ 20) → fld F b j = fld Fo b j) ∧ (∀ b j : Nat, tag b ≠ 37 → tag b ≠ 38 → elm F b j = elm Fo b j) := ⟨fun b j n46_0 n46_1 n46_2 n46_20 => (yz82786.1 b j n46_20).trans (hfr.1 b j n46_0 n46_1 n46_2 n46_20), fun b j a37 a38 => (yz82786.2 b j a38).trans (hfr.2 b j a37 a38)⟩
        refine lv_aload_n hx hb dX13_lock_61 rfl (lv_at hl 0 rfl) ?_
        refine t_get (C := RX13) (T := TX13) (N := 37) X hT m0 g0 rfl rfl 16 (by decide) qw_112 inlX13 rfl dX13_lock_62 (fun v82787 hv82787 ov82787 => ?_)
        obtain rfl : v82787 = .ref b82780 := hv82787.symm.trans hv82779
        refine lv_iload_n hx hb dX13_lock_65 rfl (lv_at hl 1 rfl) ?_
        refine lv_iload_n hx hb dX13_lock_66 rfl (lv_at hl 2 rfl) ?_
        refine lv_iconst (v := 3) hx hb dX13_lock_67 (by decide) ?_
        refine t_cSi (n := 3) (As := [.int p1, .int p2, .int 3]) (rest := [.ref b82780]) X hT (km49_X13_part l G tag L F hT.2.2.2 p1 p2 3 (by omega) (by omega) (by decide)) qw_661 qw_662 qw_5 qw_663 ⟨by decide +kernel, by decide +kernel, by decide +kernel⟩ ⟨Nat.le_of_ble_eq_true rfl, Nat.le_of_ble_eq_true rfl⟩ hl rfl rfl (Nat.le_of_ble_eq_true rfl) dX13_lock_68 ⟨Nat.le_of_ble_eq_true rfl, Nat.le_of_ble_eq_true rfl⟩ (fun z82788 F9 H locs hT hz82788 => ?_)
        obtain ⟨fz82788, hz82788, xz82788_0⟩ := hz82788
        rw [fz82788] at hT
        have k82789 : (3 : Int32).toInt = 3 := by decide
        refine lv_iload_n hx hb dX13_lock_71 rfl (lv_at hl 3 rfl) ?_
        refine t_ist X hT mb82780 gb82780 rfl (by omega) (row_fv (by omega) (Or.inr (Or.inr (by omega)))) dX13_lock_72 (fun F H locs hT v82790 h1v82790 h2v82790 => ?_)
        have pf0 := (h2v82790 _ _).trans pf0
        have v82767 := (h2v82790 _ _).trans v82767
        have hv82779 := (h2v82790 _ _).trans hv82779
        have hfr : (∀ b j : Nat, (tag b ≠ 46 ∨ j ≠ 0) → (tag b ≠ 46 ∨ j ≠ 1) → (tag b ≠ 46 ∨ j ≠ 2) → (tag b ≠ 46 ∨ j ≠ 20) → fld F b j = fld Fo b j) ∧ (∀ b j : Nat, tag b ≠ 37 → tag b ≠ 38 → elm F b j = elm Fo b j) := ⟨fun b j n46_0 n46_1 n46_2 n46_20 => (h2v82790 b j).trans (hfr.1 b j n46_0 n46_1 n46_2 n46_20), fun b j a37 a38 => (h1v82790 b j (Or.inl (at_ne gb82780 a37))).trans (hfr.2 b j a37 a38)⟩
        refine lv_aload_n hx hb dX13_lock_73 rfl (lv_at hl 0 rfl) ?_
        refine t_cVi (n := 0) (C := RX13) (T := TX13) (N := 37) (As := []) (rest := []) X hT (km269_X13_granted l G tag L F hT.2.2.2 p0 m0 g0) m0 g0 rfl rfl qw_1472 qw_1473 qw_1474 qw_5 qw_1475 ⟨rfl, by decide +kernel, by decide +kernel, by decide +kernel⟩ ⟨Nat.le_of_ble_eq_true rfl, Nat.le_of_ble_eq_true rfl⟩ hl rfl rfl (Nat.le_of_ble_eq_true rfl) dX13_lock_74 ⟨Nat.le_of_ble_eq_true rfl, Nat.le_of_ble_eq_true rfl⟩ (fun z82791 F H locs hT hz82791 => ?_)
        obtain ⟨hz82791, yz82791⟩ := hz82791
        have pf0 := (yz82791.1 _ 3 (Or.inr (by decide)) (Or.inr (by decide))).trans pf0
        have v82767 := (yz82791.1 _ 0 (Or.inr (by decide)) (Or.inr (by decide))).trans v82767
        have hv82779 := (yz82791.1 _ 16 (Or.inr (by decide)) (Or.inr (by decide))).trans hv82779
        have v82790 := (yz82791.2 _ _ ).trans v82790
        have hfr : (∀ b j : Nat, (tag b ≠ 46 ∨ j ≠ 0) → (tag b ≠ 46 ∨ j ≠ 1) → (tag b ≠ 46 ∨ j ≠ 2) → (tag b ≠ 46 ∨ j ≠ 20) → fld F b j = fld Fo b j) ∧ (∀ b j : Nat, tag b ≠ 37 → tag b ≠ 38 → elm F b j = elm Fo b j) := ⟨fun b j n46_0 n46_1 n46_2 n46_20 => (yz82791.1 b j n46_1 n46_2).trans (hfr.1 b j n46_0 n46_1 n46_2 n46_20), fun b j a37 a38 => (yz82791.2 b j ).trans (hfr.2 b j a37 a38)⟩
        exact t_zret hQ X hT (nar_z (by omega)) (⟨(by omega), hfr⟩) (Nat.le_of_ble_eq_true rfl) (Nat.le_of_ble_eq_true rfl) dX13_lock_77
      · have w82792 := cv_eq (rfl : z82783.toInt = z82783.toInt) (rfl : p3.toInt = p3.toInt) c82784
        refine lv_aload_n hx hb dX13_lock_51 rfl (lv_at hl 0 rfl) ?_
        refine lv_iconst (v := 5) hx hb dX13_lock_52 (by decide) ?_
        refine t_cVi (n := 1) (C := RX13) (T := TX13) (N := 37) (As := [.int 5]) (rest := []) X hT (km268_X13_denied l G tag L F hT.2.2.2 p0 5 m0 g0) m0 g0 rfl rfl qw_1468 qw_1469 qw_1470 qw_5 qw_1471 ⟨rfl, by decide +kernel, by decide +kernel, by decide +kernel⟩ ⟨Nat.le_of_ble_eq_true rfl, Nat.le_of_ble_eq_true rfl⟩ hl rfl rfl (Nat.le_of_ble_eq_true rfl) dX13_lock_53 ⟨Nat.le_of_ble_eq_true rfl, Nat.le_of_ble_eq_true rfl⟩ (fun z82793 F H locs hT hz82793 => ?_)
        obtain ⟨hz82793, yz82793⟩ := hz82793
        have pf0 := (yz82793.1 _ 3 (Or.inr (by decide)) (Or.inr (by decide))).trans pf0
        have v82767 := (yz82793.1 _ 0 (Or.inr (by decide)) (Or.inr (by decide))).trans v82767
        have hv82779 := (yz82793.1 _ 16 (Or.inr (by decide)) (Or.inr (by decide))).trans hv82779
        have vz82783 := (yz82793.2 _ _ ).trans vz82783
        have hfr : (∀ b j : Nat, (tag b ≠ 46 ∨ j ≠ 0) → (tag b ≠ 46 ∨ j ≠ 1) → (tag b ≠ 46 ∨ j ≠ 2) → (tag b ≠ 46 ∨ j ≠ 20) → fld F b j = fld Fo b j) ∧ (∀ b j : Nat, tag b ≠ 37 → tag b ≠ 38 → elm F b j = elm Fo b j) := ⟨fun b j n46_0 n46_1 n46_2 n46_20 => (yz82793.1 b j n46_1 n46_2).trans (hfr.1 b j n46_0 n46_1 n46_2 n46_20), fun b j a37 a38 => (yz82793.2 b j ).trans (hfr.2 b j a37 a38)⟩
        exact t_zret hQ X hT (nar_z (by omega)) (⟨(by omega), hfr⟩) (Nat.le_of_ble_eq_true rfl) (Nat.le_of_ble_eq_true rfl) dX13_lock_56
    · have w82794 := cv_eq (rfl : z82773.toInt = z82773.toInt) (by decide : (0 : Int32).toInt = 0) c82776
      refine lv_aload_n hx hb dX13_lock_30 rfl (lv_at hl 0 rfl) ?_
      refine lv_iconst (v := 2) hx hb dX13_lock_31 (by decide) ?_
      refine t_cVi (n := 1) (C := RX13) (T := TX13) (N := 37) (As := [.int 2]) (rest := []) X hT (km268_X13_denied l G tag L F hT.2.2.2 p0 2 m0 g0) m0 g0 rfl rfl qw_1468 qw_1469 qw_1470 qw_5 qw_1471 ⟨rfl, by decide +kernel, by decide +kernel, by decide +kernel⟩ ⟨Nat.le_of_ble_eq_true rfl, Nat.le_of_ble_eq_true rfl⟩ hl rfl rfl (Nat.le_of_ble_eq_true rfl) dX13_lock_32 ⟨Nat.le_of_ble_eq_true rfl, Nat.le_of_ble_eq_true rfl⟩ (fun z82795 F H locs hT hz82795 => ?_)
      obtain ⟨hz82795, yz82795⟩ := hz82795
      have pf0 := (yz82795.1 _ 3 (Or.inr (by decide)) (Or.inr (by decide))).trans pf0
      have v82767 := (yz82795.1 _ 0 (Or.inr (by decide)) (Or.inr (by decide))).trans v82767
      have hfr : (∀ b j : Nat, (tag b ≠ 46 ∨ j ≠ 0) → (tag b ≠ 46 ∨ j ≠ 1) → (tag b ≠ 46 ∨ j ≠ 2) → (tag b ≠ 46 ∨ j ≠ 20) → fld F b j = fld Fo b j) ∧ (∀ b j : Nat, tag b ≠ 37 → tag b ≠ 38 → elm F b j = elm Fo b j) := ⟨fun b j n46_0 n46_1 n46_2 n46_20 => (yz82795.1 b j n46_1 n46_2).trans (hfr.1 b j n46_0 n46_1 n46_2 n46_20), fun b j a37 a38 => (yz82795.2 b j ).trans (hfr.2 b j a37 a38)⟩
      exact t_zret hQ X hT (nar_z (by omega)) (⟨(by omega), hfr⟩) (Nat.le_of_ble_eq_true rfl) (Nat.le_of_ble_eq_true rfl) dX13_lock_35
  · have w82796 := cv_eq (rfl : z82768.toInt = z82768.toInt) (by decide : (0 : Int32).toInt = 0) c82769
    refine lv_aload_n hx hb dX13_lock_14 rfl (lv_at hl 0 rfl) ?_
    refine lv_iconst (v := 1) hx hb dX13_lock_15 (by decide) ?_
    refine t_cVi (n := 1) (C := RX13) (T := TX13) (N := 37) (As := [.int 1]) (rest := []) X hT (km268_X13_denied l G tag L F hT.2.2.2 p0 1 m0 g0) m0 g0 rfl rfl qw_1468 qw_1469 qw_1470 qw_5 qw_1471 ⟨rfl, by decide +kernel, by decide +kernel, by decide +kernel⟩ ⟨Nat.le_of_ble_eq_true rfl, Nat.le_of_ble_eq_true rfl⟩ hl rfl rfl (Nat.le_of_ble_eq_true rfl) dX13_lock_16 ⟨Nat.le_of_ble_eq_true rfl, Nat.le_of_ble_eq_true rfl⟩ (fun z82797 F H locs hT hz82797 => ?_)
    obtain ⟨hz82797, yz82797⟩ := hz82797
    have pf0 := (yz82797.1 _ 3 (Or.inr (by decide)) (Or.inr (by decide))).trans pf0
    have v82767 := (yz82797.1 _ 0 (Or.inr (by decide)) (Or.inr (by decide))).trans v82767
    have hfr : (∀ b j : Nat, (tag b ≠ 46 ∨ j ≠ 0) → (tag b ≠ 46 ∨ j ≠ 1) → (tag b ≠ 46 ∨ j ≠ 2) → (tag b ≠ 46 ∨ j ≠ 20) → fld F b j = fld Fo b j) ∧ (∀ b j : Nat, tag b ≠ 37 → tag b ≠ 38 → elm F b j = elm Fo b j) := ⟨fun b j n46_0 n46_1 n46_2 n46_20 => (yz82797.1 b j n46_1 n46_2).trans (hfr.1 b j n46_0 n46_1 n46_2 n46_20), fun b j a37 a38 => (yz82797.2 b j ).trans (hfr.2 b j a37 a38)⟩
    exact t_zret hQ X hT (nar_z (by omega)) (⟨(by omega), hfr⟩) (Nat.le_of_ble_eq_true rfl) (Nat.le_of_ble_eq_true rfl) dX13_lock_19
