set_option maxHeartbeats 4000000 in
set_option maxRecDepth 100000 in
theorem kt24_X7_inmost (l : Launch) (G : KG) (tag : Nat → Nat) (L : List Nat) (F : Nat → va_E) (ho : okT G ttC tag L F) (p0 : Nat) (p1 : Int32) (m0 : p0 ∈ L) (g0 : tag p0 = 19) (h1 : 0 ≤ p1.toInt ∧ p1.toInt ≤ 3) : TMi l yX7_inmost cX7_inmost 3 (some .int) { frames := 2, cells := 0, slots := 0, locals := 46 } G ttC tag L F [.ref p0, .int p1] (fun r F1 => F1 = F ∧ (0 ≤ r.toInt ∧ r.toInt ≤ 6)) := by
  refine t_bodyi (y := yX7_inmost) (cd := cX7_inmost) (mL := 3) (rt := (some .int)) (rm := { frames := 2, cells := 0, slots := 0, locals := 46 }) (av := [.ref p0, .int p1]) (by decide) (Nat.le_of_ble_eq_true rfl) ho ?_
  intro p e s m args below meth c ls A Q hQ X hT hl
  have hx := X.1.1
  have hb := X.1.2.1
  have hl : lv_has ls 3 [(0, .ref p0), (1, .int p1)] := hl
  have K2 : ∀ (n : Nat) (z4958 : Int32) (H : Heap) (locs : List Loc) (ls : Array Slot), (7 - z4958.toInt < (n : Int)) → (1 ≤ z4958.toInt ∧ z4958.toInt ≤ 7) → TH G ttC A s tag L F H locs → lv_has ls 3 [(0, .ref p0), (1, .int p1), (2, .int z4958)] → W p l e { frames := 2, cells := 0, slots := 0, locals := 46 } s m args below meth c H locs 0 0 Q (F0 m 2 ls []) := by
    intro n
    induction n with
    | zero =>
      intro z4958 H locs ls hn rz4958 hT hl
      exfalso
      omega
    | succ n ih2 =>
      intro z4958 H locs ls hn rz4958 hT hl
      refine lv_iload_n hx hb dX7_inmost_2 rfl (lv_at hl 2 rfl) ?_
      refine lv_aload_n hx hb dX7_inmost_3 rfl (lv_at hl 0 rfl) ?_
      refine t_get (C := RX7) (T := TX7) (N := 7) X hT m0 g0 rfl rfl 2 (by decide) qw_62 inlX7 rfl dX7_inmost_4 (fun v4959 hv4959 ov4959 => ?_)
      obtain ⟨b4960, rfl, mb4960, gb4960⟩ := okV_r ov4959
      have gb4960 : tag b4960 = 8 := tg_of gb4960
      refine lv_iload_n hx hb dX7_inmost_7 rfl (lv_at hl 1 rfl) ?_
      refine t_ild X hT mb4960 gb4960 rfl (by omega) dX7_inmost_8 (fun z4961 vz4961 rz4961 => ?_)
      have rz4961 : 0 ≤ z4961.toInt ∧ z4961.toInt ≤ 6 := rz4961
      refine lv_icmp_gt (tgt := 29) hx hb dX7_inmost_9 (by decide) (fun c4962 => ?_) (fun c4962 => ?_)
      · have w4963 := cv_lt (rfl : z4961.toInt = z4961.toInt) (rfl : z4958.toInt = z4958.toInt) c4962
        refine lv_iconst (v := 0) hx hb dX7_inmost_29 (by decide) ?_
        exact t_iret hQ X hT (⟨rfl, (by decide)⟩) (Nat.le_of_ble_eq_true rfl) (Nat.le_of_ble_eq_true rfl) dX7_inmost_30
      · have w4964 := cv_nlt (rfl : z4961.toInt = z4961.toInt) (rfl : z4958.toInt = z4958.toInt) c4962
        refine lv_aload_n hx hb dX7_inmost_12 rfl (lv_at hl 0 rfl) ?_
        refine lv_iload_n hx hb dX7_inmost_13 rfl (lv_at hl 1 rfl) ?_
        refine lv_iload_n hx hb dX7_inmost_14 rfl (lv_at hl 2 rfl) ?_
        refine t_cVi (n := 2) (C := RX7) (T := TX7) (N := 7) (As := [.int p1, .int z4958]) (rest := []) X hT (kt21_X7_stands l G tag L F hT.2.2.2 p0 p1 z4958 m0 g0) m0 g0 rfl rfl qw_987 qw_853 qw_854 qw_22 qw_855 ⟨rfl, by decide +kernel, by decide +kernel, by decide +kernel⟩ ⟨Nat.le_of_ble_eq_true rfl, Nat.le_of_ble_eq_true rfl⟩ hl rfl rfl (Nat.le_of_ble_eq_true rfl) dX7_inmost_15 ⟨Nat.le_of_ble_eq_true rfl, Nat.le_of_ble_eq_true rfl⟩ (fun z4965 F9 H locs hT hz4965 => ?_)
        obtain ⟨fz4965, hz4965⟩ := hz4965
        rw [fz4965] at hT
        refine lv_if_eq (tgt := 23) hx hb dX7_inmost_18 (by decide) (fun c4966 => ?_) (fun c4966 => ?_)
        · have w4967 := cv_eq (rfl : z4965.toInt = z4965.toInt) (by decide : (0 : Int32).toInt = 0) c4966
          obtain ⟨z4968, ez4968⟩ : ∃ y : Int32, y = z4958 + 1 := ⟨_, rfl⟩
          have hz4968 : z4968.toInt = z4958.toInt + 1 := ar_add ez4968 rfl (by decide : (1 : Int32).toInt = 1) (by omega) (by omega)
          refine lv_iinc (v := z4968) (lv' := [(2, .int z4968), (0, .ref p0), (1, .int p1)]) hx hb dX7_inmost_23 hl (k := 2) rfl (by rw [ez4968]; rfl) (by decide) rfl (fun ls hl => ?_)
          refine lv_goto (tgt := 2) hx hb dX7_inmost_26 (by decide) ?_
          exact ih2 z4968 _ _ _ (by omega) (by omega) hT  (lv_sub hl [1, 2, 0] rfl)
        · have w4969 := cv_ne (rfl : z4965.toInt = z4965.toInt) (by decide : (0 : Int32).toInt = 0) c4966
          refine lv_iload_n hx hb dX7_inmost_21 rfl (lv_at hl 2 rfl) ?_
          exact t_iret hQ X hT (⟨rfl, (by omega)⟩) (Nat.le_of_ble_eq_true rfl) (Nat.le_of_ble_eq_true rfl) dX7_inmost_22
  refine lv_iconst (v := 1) hx hb dX7_inmost_0 (by decide) ?_
  refine lv_istore_n (lv' := [(2, .int 1), (0, .ref p0), (1, .int p1)]) hx hb dX7_inmost_1 rfl hl (by decide) rfl (fun ls hl => ?_)
  have kk4970 : (1 : Int32).toInt = 1 := by decide
  exact K2 7 1 _ _ _ (by omega) (by decide) hT  (lv_sub hl [1, 2, 0] rfl)
set_option maxHeartbeats 4000000 in
set_option maxRecDepth 100000 in
theorem kt25_X7_fallen (l : Launch) (G : KG) (tag : Nat → Nat) (L : List Nat) (F : Nat → va_E) (ho : okT G ttC tag L F) (p0 : Nat) (p1 : Int32) (m0 : p0 ∈ L) (g0 : tag p0 = 19) (h1 : 0 ≤ p1.toInt ∧ p1.toInt ≤ 3) : TMi l yX7_fallen cX7_fallen 4 (some .int) { frames := 2, cells := 0, slots := 0, locals := 46 } G ttC tag L F [.ref p0, .int p1] (fun r F1 => F1 = F ∧ ((-2147483648) ≤ r.toInt ∧ r.toInt ≤ 2147483647)) := by
  refine t_bodyi (y := yX7_fallen) (cd := cX7_fallen) (mL := 4) (rt := (some .int)) (rm := { frames := 2, cells := 0, slots := 0, locals := 46 }) (av := [.ref p0, .int p1]) (by decide) (Nat.le_of_ble_eq_true rfl) ho ?_
  intro p e s m args below meth c ls A Q hQ X hT hl
  have hx := X.1.1
  have hb := X.1.2.1
  have hl : lv_has ls 4 [(0, .ref p0), (1, .int p1)] := hl
  have K4 : ∀ (n : Nat) (z5529 : Int32) (z5530 : Int32) (H : Heap) (locs : List Loc) (ls : Array Slot), (7 - z5530.toInt < (n : Int)) → (1 ≤ z5530.toInt ∧ z5530.toInt ≤ 7) → TH G ttC A s tag L F H locs → lv_has ls 4 [(0, .ref p0), (1, .int p1), (2, .int z5529), (3, .int z5530)] → W p l e { frames := 2, cells := 0, slots := 0, locals := 46 } s m args below meth c H locs 0 0 Q (F0 m 4 ls []) := by
    intro n
    induction n with
    | zero =>
      intro z5529 z5530 H locs ls hn rz5530 hT hl
      have rz5529 := rg_all z5529
      exfalso
      omega
    | succ n ih4 =>
      intro z5529 z5530 H locs ls hn rz5530 hT hl
      have rz5529 := rg_all z5529
      have K26 : ∀ (z5531 : Int32) (H : Heap) (locs : List Loc) (ls : Array Slot), (1 ≤ z5530.toInt ∧ z5530.toInt ≤ 6) → TH G ttC A s tag L F H locs → lv_has ls 4 [(0, .ref p0), (1, .int p1), (2, .int z5531), (3, .int z5530)] → W p l e { frames := 2, cells := 0, slots := 0, locals := 46 } s m args below meth c H locs 0 0 Q (F0 m 26 ls []) := by
        intro z5531 H locs ls r9s5532 hT hl
        have rz5531 := rg_all z5531
        obtain ⟨z5533, ez5533⟩ : ∃ y : Int32, y = z5530 + 1 := ⟨_, rfl⟩
        have hz5533 : z5533.toInt = z5530.toInt + 1 := ar_add ez5533 rfl (by decide : (1 : Int32).toInt = 1) (by omega) (by omega)
        refine lv_iinc (v := z5533) (lv' := [(3, .int z5533), (0, .ref p0), (1, .int p1), (2, .int z5531)]) hx hb dX7_fallen_26 hl (k := 3) rfl (by rw [ez5533]; rfl) (by decide) rfl (fun ls hl => ?_)
        refine lv_goto (tgt := 4) hx hb dX7_fallen_29 (by decide) ?_
        exact ih4 z5531 z5533 _ _ _ (by omega) (by omega) hT  (lv_sub hl [1, 2, 3, 0] rfl)
      refine lv_iload_n hx hb dX7_fallen_4 rfl (lv_at hl 3 rfl) ?_
      refine lv_aload_n hx hb dX7_fallen_5 rfl (lv_at hl 0 rfl) ?_
      refine t_get (C := RX7) (T := TX7) (N := 7) X hT m0 g0 rfl rfl 2 (by decide) qw_62 inlX7 rfl dX7_fallen_6 (fun v5534 hv5534 ov5534 => ?_)
      obtain ⟨b5535, rfl, mb5535, gb5535⟩ := okV_r ov5534
      have gb5535 : tag b5535 = 8 := tg_of gb5535
      refine lv_iload_n hx hb dX7_fallen_9 rfl (lv_at hl 1 rfl) ?_
      refine t_ild X hT mb5535 gb5535 rfl (by omega) dX7_fallen_10 (fun z5536 vz5536 rz5536 => ?_)
      have rz5536 : 0 ≤ z5536.toInt ∧ z5536.toInt ≤ 6 := rz5536
      refine lv_icmp_gt (tgt := 32) hx hb dX7_fallen_11 (by decide) (fun c5537 => ?_) (fun c5537 => ?_)
      · have w5538 := cv_lt (rfl : z5536.toInt = z5536.toInt) (rfl : z5530.toInt = z5530.toInt) c5537
        refine lv_iload_n hx hb dX7_fallen_32 rfl (lv_at hl 2 rfl) ?_
        exact t_iret hQ X hT (⟨rfl, rg_all _⟩) (Nat.le_of_ble_eq_true rfl) (Nat.le_of_ble_eq_true rfl) dX7_fallen_33
      · have w5539 := cv_nlt (rfl : z5536.toInt = z5536.toInt) (rfl : z5530.toInt = z5530.toInt) c5537
        refine lv_aload_n hx hb dX7_fallen_14 rfl (lv_at hl 0 rfl) ?_
        refine lv_iload_n hx hb dX7_fallen_15 rfl (lv_at hl 1 rfl) ?_
        refine lv_iload_n hx hb dX7_fallen_16 rfl (lv_at hl 3 rfl) ?_
        refine t_cVi (n := 2) (C := RX7) (T := TX7) (N := 7) (As := [.int p1, .int z5530]) (rest := []) X hT (kt21_X7_stands l G tag L F hT.2.2.2 p0 p1 z5530 m0 g0) m0 g0 rfl rfl qw_987 qw_853 qw_854 qw_22 qw_855 ⟨rfl, by decide +kernel, by decide +kernel, by decide +kernel⟩ ⟨Nat.le_of_ble_eq_true rfl, Nat.le_of_ble_eq_true rfl⟩ hl rfl rfl (Nat.le_of_ble_eq_true rfl) dX7_fallen_17 ⟨Nat.le_of_ble_eq_true rfl, Nat.le_of_ble_eq_true rfl⟩ (fun z5540 F9 H locs hT hz5540 => ?_)
        obtain ⟨fz5540, hz5540⟩ := hz5540
        rw [fz5540] at hT
        refine lv_if_ne (tgt := 26) hx hb dX7_fallen_20 (by decide) (fun c5541 => ?_) (fun c5541 => ?_)
        · have w5542 := cv_ne (rfl : z5540.toInt = z5540.toInt) (by decide : (0 : Int32).toInt = 0) c5541
          exact K26 z5529 _ _ _ (by omega) hT  (lv_sub hl [0, 1, 2, 3] rfl)
        · have w5543 := cv_eq (rfl : z5540.toInt = z5540.toInt) (by decide : (0 : Int32).toInt = 0) c5541
          obtain ⟨z5544, ez5544⟩ : ∃ y : Int32, y = z5529 + 1 := ⟨_, rfl⟩
          have rz5544 := rg_all z5544
          refine lv_iinc (v := z5544) (lv' := [(2, .int z5544), (0, .ref p0), (1, .int p1), (3, .int z5530)]) hx hb dX7_fallen_23 hl (k := 2) rfl (by rw [ez5544]; rfl) (by decide) rfl (fun ls hl => ?_)
          exact K26 z5544 _ _ _ (by omega) hT  (lv_sub hl [1, 2, 0, 3] rfl)
  refine lv_iconst (v := 0) hx hb dX7_fallen_0 (by decide) ?_
  refine lv_istore_n (lv' := [(2, .int 0), (0, .ref p0), (1, .int p1)]) hx hb dX7_fallen_1 rfl hl (by decide) rfl (fun ls hl => ?_)
  refine lv_iconst (v := 1) hx hb dX7_fallen_2 (by decide) ?_
  refine lv_istore_n (lv' := [(3, .int 1), (2, .int 0), (0, .ref p0), (1, .int p1)]) hx hb dX7_fallen_3 rfl hl (by decide) rfl (fun ls hl => ?_)
  have kk5545 : (0 : Int32).toInt = 0 := by decide
  have kk5546 : (1 : Int32).toInt = 1 := by decide
  exact K4 7 0 1 _ _ _ (by omega) (by decide) hT  (lv_sub hl [2, 3, 1, 0] rfl)
set_option maxHeartbeats 4000000 in
set_option maxRecDepth 100000 in
theorem kt26_X7_skinsOfAll (l : Launch) (G : KG) (tag : Nat → Nat) (L : List Nat) (F : Nat → va_E) (ho : okT G ttC tag L F) (p0 : Nat) (m0 : p0 ∈ L) (g0 : tag p0 = 19) : TMi l yX7_skinsOfAll cX7_skinsOfAll 3 (some .int) { frames := 0, cells := 0, slots := 0, locals := 0 } G ttC tag L F [.ref p0] (fun r F1 => F1 = F ∧ ((-2147483648) ≤ r.toInt ∧ r.toInt ≤ 2147483647)) := by
  refine t_bodyi (y := yX7_skinsOfAll) (cd := cX7_skinsOfAll) (mL := 3) (rt := (some .int)) (rm := { frames := 0, cells := 0, slots := 0, locals := 0 }) (av := [.ref p0]) (by decide) (Nat.le_of_ble_eq_true rfl) ho ?_
  intro p e s m args below meth c ls A Q hQ X hT hl
  have hx := X.1.1
  have hb := X.1.2.1
  have hl : lv_has ls 3 [(0, .ref p0)] := hl
  have K4 : ∀ (n : Nat) (z5772 : Int32) (z5773 : Int32) (H : Heap) (locs : List Loc) (ls : Array Slot), (4 - z5773.toInt < (n : Int)) → (0 ≤ z5773.toInt ∧ z5773.toInt ≤ 4) → TH G ttC A s tag L F H locs → lv_has ls 3 [(0, .ref p0), (1, .int z5772), (2, .int z5773)] → W p l e { frames := 0, cells := 0, slots := 0, locals := 0 } s m args below meth c H locs 0 0 Q (F0 m 4 ls []) := by
    intro n
    induction n with
    | zero =>
      intro z5772 z5773 H locs ls hn rz5773 hT hl
      have rz5772 := rg_all z5772
      exfalso
      omega
    | succ n ih4 =>
      intro z5772 z5773 H locs ls hn rz5773 hT hl
      have rz5772 := rg_all z5772
      refine lv_iload_n hx hb dX7_skinsOfAll_4 rfl (lv_at hl 2 rfl) ?_
      refine lv_iconst (v := 4) hx hb dX7_skinsOfAll_5 (by decide) ?_
      refine lv_icmp_ge (tgt := 24) hx hb dX7_skinsOfAll_6 (by decide) (fun c5774 => ?_) (fun c5774 => ?_)
      · have w5775 := cv_le (by decide : (4 : Int32).toInt = 4) (rfl : z5773.toInt = z5773.toInt) c5774
        refine lv_iload_n hx hb dX7_skinsOfAll_24 rfl (lv_at hl 1 rfl) ?_
        exact t_iret hQ X hT (⟨rfl, rg_all _⟩) (Nat.le_of_ble_eq_true rfl) (Nat.le_of_ble_eq_true rfl) dX7_skinsOfAll_25
      · have w5776 := cv_nle (by decide : (4 : Int32).toInt = 4) (rfl : z5773.toInt = z5773.toInt) c5774
        refine lv_iload_n hx hb dX7_skinsOfAll_9 rfl (lv_at hl 1 rfl) ?_
        refine lv_aload_n hx hb dX7_skinsOfAll_10 rfl (lv_at hl 0 rfl) ?_
        refine t_get (C := RX7) (T := TX7) (N := 7) X hT m0 g0 rfl rfl 2 (by decide) qw_62 inlX7 rfl dX7_skinsOfAll_11 (fun v5777 hv5777 ov5777 => ?_)
        obtain ⟨b5778, rfl, mb5778, gb5778⟩ := okV_r ov5777
        have gb5778 : tag b5778 = 8 := tg_of gb5778
        refine lv_iload_n hx hb dX7_skinsOfAll_14 rfl (lv_at hl 2 rfl) ?_
        refine t_ild X hT mb5778 gb5778 rfl (by omega) dX7_skinsOfAll_15 (fun z5779 vz5779 rz5779 => ?_)
        have rz5779 : 0 ≤ z5779.toInt ∧ z5779.toInt ≤ 6 := rz5779
        refine lv_iadd hx hb dX7_skinsOfAll_16 ?_
        refine lv_topi (fun z5780 ez5780 => ?_)
        have rz5780 := rg_all z5780
        refine lv_istore_n (lv' := [(1, .int z5780), (0, .ref p0), (2, .int z5773)]) hx hb dX7_skinsOfAll_17 rfl hl (by decide) rfl (fun ls hl => ?_)
        obtain ⟨z5781, ez5781⟩ : ∃ y : Int32, y = z5773 + 1 := ⟨_, rfl⟩
        have hz5781 : z5781.toInt = z5773.toInt + 1 := ar_add ez5781 rfl (by decide : (1 : Int32).toInt = 1) (by omega) (by omega)
        refine lv_iinc (v := z5781) (lv' := [(2, .int z5781), (1, .int z5780), (0, .ref p0)]) hx hb dX7_skinsOfAll_18 hl (k := 2) rfl (by rw [ez5781]; rfl) (by decide) rfl (fun ls hl => ?_)
        refine lv_goto (tgt := 4) hx hb dX7_skinsOfAll_21 (by decide) ?_
        exact ih4 z5780 z5781 _ _ _ (by omega) (by omega) hT  (lv_sub hl [2, 1, 0] rfl)
  refine lv_iconst (v := 0) hx hb dX7_skinsOfAll_0 (by decide) ?_
  refine lv_istore_n (lv' := [(1, .int 0), (0, .ref p0)]) hx hb dX7_skinsOfAll_1 rfl hl (by decide) rfl (fun ls hl => ?_)
  refine lv_iconst (v := 0) hx hb dX7_skinsOfAll_2 (by decide) ?_
  refine lv_istore_n (lv' := [(2, .int 0), (1, .int 0), (0, .ref p0)]) hx hb dX7_skinsOfAll_3 rfl hl (by decide) rfl (fun ls hl => ?_)
  have kk5782 : (0 : Int32).toInt = 0 := by decide
  have kk5783 : (0 : Int32).toInt = 0 := by decide
  exact K4 5 0 0 _ _ _ (by omega) (by decide) hT  (lv_sub hl [2, 1, 0] rfl)
set_option maxHeartbeats 4000000 in
set_option maxRecDepth 100000 in
theorem kt27_X4_doorPlace (l : Launch) (G : KG) (tag : Nat → Nat) (L : List Nat) (F : Nat → va_E) (ho : okT G ttC tag L F) (p0 : Int32) (p1 : Int32) (p2 : Int32)  : TMi l yX4_doorPlace cX4_doorPlace 3 (some .int) { frames := 0, cells := 0, slots := 0, locals := 0 } G ttC tag L F [.int p0, .int p1, .int p2] (fun r F1 => F1 = F ∧ ((-2147483648) ≤ r.toInt ∧ r.toInt ≤ 2147483647)) := by
  refine t_bodyi (y := yX4_doorPlace) (cd := cX4_doorPlace) (mL := 3) (rt := (some .int)) (rm := { frames := 0, cells := 0, slots := 0, locals := 0 }) (av := [.int p0, .int p1, .int p2]) (by decide) (Nat.le_of_ble_eq_true rfl) ho ?_
  intro p e s m args below meth c ls A Q hQ X hT hl
  have hx := X.1.1
  have hb := X.1.2.1
  have hl : lv_has ls 3 [(0, .int p0), (1, .int p1), (2, .int p2)] := hl
  have rp0 := rg_all p0
  have rp1 := rg_all p1
  have rp2 := rg_all p2
  refine lv_iload_n hx hb dX4_doorPlace_0 rfl (lv_at hl 1 rfl) ?_
  by_cases c5995 : p1 = 0
  · have w5996 := cv_eq (rfl : p1.toInt = p1.toInt) (by decide : (0 : Int32).toInt = 0) c5995
    refine lv_tableIn (off := 27) (tgt := 28) hx hb dX4_doorPlace_1 (by rw [c5995]; decide) (by rw [c5995]; decide) (by rw [c5995]; decide) (by decide) ?_
    refine lv_iconst (v := 1) hx hb dX4_doorPlace_28 (by decide) ?_
    refine lv_iload_n hx hb dX4_doorPlace_29 rfl (lv_at hl 2 rfl) ?_
    refine lv_iadd hx hb dX4_doorPlace_30 ?_
    refine lv_topi (fun z5997 ez5997 => ?_)
    have rz5997 := rg_all z5997
    exact t_iret hQ X hT (⟨rfl, rg_all _⟩) (Nat.le_of_ble_eq_true rfl) (Nat.le_of_ble_eq_true rfl) dX4_doorPlace_31
  have w5998 := cv_ne (rfl : p1.toInt = p1.toInt) (by decide : (0 : Int32).toInt = 0) c5995
  by_cases c5999 : p1 = 1
  · have w6000 := cv_eq (rfl : p1.toInt = p1.toInt) (by decide : (1 : Int32).toInt = 1) c5999
    refine lv_tableIn (off := 31) (tgt := 32) hx hb dX4_doorPlace_1 (by rw [c5999]; decide) (by rw [c5999]; decide) (by rw [c5999]; decide) (by decide) ?_
    refine lv_iconst (v := 2) hx hb dX4_doorPlace_32 (by decide) ?_
    refine lv_iload_n hx hb dX4_doorPlace_33 rfl (lv_at hl 0 rfl) ?_
    refine lv_imul hx hb dX4_doorPlace_34 ?_
    refine lv_topi (fun z6001 ez6001 => ?_)
    have rz6001 := rg_all z6001
    refine lv_iconst (v := 1) hx hb dX4_doorPlace_35 (by decide) ?_
    refine lv_iadd hx hb dX4_doorPlace_36 ?_
    refine lv_topi (fun z6002 ez6002 => ?_)
    have rz6002 := rg_all z6002
    refine lv_iload_n hx hb dX4_doorPlace_37 rfl (lv_at hl 2 rfl) ?_
    refine lv_iadd hx hb dX4_doorPlace_38 ?_
    refine lv_topi (fun z6003 ez6003 => ?_)
    have rz6003 := rg_all z6003
    exact t_iret hQ X hT (⟨rfl, rg_all _⟩) (Nat.le_of_ble_eq_true rfl) (Nat.le_of_ble_eq_true rfl) dX4_doorPlace_39
  have w6004 := cv_ne (rfl : p1.toInt = p1.toInt) (by decide : (1 : Int32).toInt = 1) c5999
  by_cases c6005 : p1 = 2
  · have w6006 := cv_eq (rfl : p1.toInt = p1.toInt) (by decide : (2 : Int32).toInt = 2) c6005
    refine lv_tableIn (off := 39) (tgt := 40) hx hb dX4_doorPlace_1 (by rw [c6005]; decide) (by rw [c6005]; decide) (by rw [c6005]; decide) (by decide) ?_
    refine lv_bipush (v := 6) hx hb dX4_doorPlace_40 (by decide) ?_
    refine lv_iload_n hx hb dX4_doorPlace_42 rfl (lv_at hl 0 rfl) ?_
    refine lv_imul hx hb dX4_doorPlace_43 ?_
    refine lv_topi (fun z6007 ez6007 => ?_)
    have rz6007 := rg_all z6007
    refine lv_iconst (v := 1) hx hb dX4_doorPlace_44 (by decide) ?_
    refine lv_isub hx hb dX4_doorPlace_45 ?_
    refine lv_topi (fun z6008 ez6008 => ?_)
    have rz6008 := rg_all z6008
    refine lv_iload_n hx hb dX4_doorPlace_46 rfl (lv_at hl 2 rfl) ?_
    refine lv_isub hx hb dX4_doorPlace_47 ?_
    refine lv_topi (fun z6009 ez6009 => ?_)
    have rz6009 := rg_all z6009
    exact t_iret hQ X hT (⟨rfl, rg_all _⟩) (Nat.le_of_ble_eq_true rfl) (Nat.le_of_ble_eq_true rfl) dX4_doorPlace_48
  have w6010 := cv_ne (rfl : p1.toInt = p1.toInt) (by decide : (2 : Int32).toInt = 2) c6005
  refine lv_tableOut (tgt := 49) hx hb dX4_doorPlace_1 (by omega) (by decide) ?_
  refine lv_bipush (v := 8) hx hb dX4_doorPlace_49 (by decide) ?_
  refine lv_iload_n hx hb dX4_doorPlace_51 rfl (lv_at hl 0 rfl) ?_
  refine lv_imul hx hb dX4_doorPlace_52 ?_
  refine lv_topi (fun z6011 ez6011 => ?_)
  have rz6011 := rg_all z6011
  refine lv_iconst (v := 1) hx hb dX4_doorPlace_53 (by decide) ?_
  refine lv_isub hx hb dX4_doorPlace_54 ?_
  refine lv_topi (fun z6012 ez6012 => ?_)
  have rz6012 := rg_all z6012
  refine lv_iload_n hx hb dX4_doorPlace_55 rfl (lv_at hl 2 rfl) ?_
  refine lv_isub hx hb dX4_doorPlace_56 ?_
  refine lv_topi (fun z6013 ez6013 => ?_)
  have rz6013 := rg_all z6013
  exact t_iret hQ X hT (⟨rfl, rg_all _⟩) (Nat.le_of_ble_eq_true rfl) (Nat.le_of_ble_eq_true rfl) dX4_doorPlace_57
set_option maxHeartbeats 4000000 in
set_option maxRecDepth 100000 in
theorem kt28_X7_doorOf (l : Launch) (G : KG) (tag : Nat → Nat) (L : List Nat) (F : Nat → va_E) (ho : okT G ttC tag L F) (p0 : Nat) (p1 : Int32) (p2 : Int32) (m0 : p0 ∈ L) (g0 : tag p0 = 19) : TMi l yX7_doorOf cX7_doorOf 3 (some .int) { frames := 1, cells := 0, slots := 0, locals := 24 } G ttC tag L F [.ref p0, .int p1, .int p2] (fun r F1 => F1 = F ∧ ((-2147483648) ≤ r.toInt ∧ r.toInt ≤ 2147483647)) := by
  refine t_bodyi (y := yX7_doorOf) (cd := cX7_doorOf) (mL := 3) (rt := (some .int)) (rm := { frames := 1, cells := 0, slots := 0, locals := 24 }) (av := [.ref p0, .int p1, .int p2]) (by decide) (Nat.le_of_ble_eq_true rfl) ho ?_
  intro p e s m args below meth c ls A Q hQ X hT hl
  have hx := X.1.1
  have hb := X.1.2.1
  have hl : lv_has ls 3 [(0, .ref p0), (1, .int p1), (2, .int p2)] := hl
  have rp1 := rg_all p1
  have rp2 := rg_all p2
  refine lv_iload_n hx hb dX7_doorOf_0 rfl (lv_at hl 2 rfl) ?_
  refine lv_aload_n hx hb dX7_doorOf_1 rfl (lv_at hl 0 rfl) ?_
  refine lv_iload_n hx hb dX7_doorOf_2 rfl (lv_at hl 1 rfl) ?_
  refine lv_iload_n hx hb dX7_doorOf_3 rfl (lv_at hl 2 rfl) ?_
  refine lv_iconst (v := 1) hx hb dX7_doorOf_4 (by decide) ?_
  refine t_cVi (n := 3) (C := RX7) (T := TX7) (N := 7) (As := [.int p1, .int p2, .int 1]) (rest := [.int p2]) X hT (kt19_X7_partOf l G tag L F hT.2.2.2 p0 p1 p2 1 m0 g0) m0 g0 rfl rfl qw_856 qw_778 qw_779 qw_22 qw_780 ⟨rfl, by decide +kernel, by decide +kernel, by decide +kernel⟩ ⟨Nat.le_of_ble_eq_true rfl, Nat.le_of_ble_eq_true rfl⟩ hl rfl rfl (Nat.le_of_ble_eq_true rfl) dX7_doorOf_5 ⟨Nat.le_of_ble_eq_true rfl, Nat.le_of_ble_eq_true rfl⟩ (fun z6045 F9 H locs hT hz6045 => ?_)
  obtain ⟨fz6045, hz6045⟩ := hz6045
  rw [fz6045] at hT
  refine lv_aload_n hx hb dX7_doorOf_8 rfl (lv_at hl 0 rfl) ?_
  refine lv_iload_n hx hb dX7_doorOf_9 rfl (lv_at hl 1 rfl) ?_
  refine lv_iload_n hx hb dX7_doorOf_10 rfl (lv_at hl 2 rfl) ?_
  refine lv_iconst (v := 2) hx hb dX7_doorOf_11 (by decide) ?_
  refine t_cVi (n := 3) (C := RX7) (T := TX7) (N := 7) (As := [.int p1, .int p2, .int 2]) (rest := [.int z6045, .int p2]) X hT (kt19_X7_partOf l G tag L F hT.2.2.2 p0 p1 p2 2 m0 g0) m0 g0 rfl rfl qw_856 qw_778 qw_779 qw_22 qw_780 ⟨rfl, by decide +kernel, by decide +kernel, by decide +kernel⟩ ⟨Nat.le_of_ble_eq_true rfl, Nat.le_of_ble_eq_true rfl⟩ hl rfl rfl (Nat.le_of_ble_eq_true rfl) dX7_doorOf_12 ⟨Nat.le_of_ble_eq_true rfl, Nat.le_of_ble_eq_true rfl⟩ (fun z6046 F9 H locs hT hz6046 => ?_)
  obtain ⟨fz6046, hz6046⟩ := hz6046
  rw [fz6046] at hT
  refine t_cSi (n := 3) (As := [.int p2, .int z6045, .int z6046]) (rest := []) X hT (kt27_X4_doorPlace l G tag L F hT.2.2.2 p2 z6045 z6046 ) qw_921 qw_785 qw_409 qw_786 ⟨by decide +kernel, by decide +kernel, by decide +kernel⟩ ⟨Nat.le_of_ble_eq_true rfl, Nat.le_of_ble_eq_true rfl⟩ hl rfl rfl (Nat.le_of_ble_eq_true rfl) dX7_doorOf_15 ⟨Nat.le_of_ble_eq_true rfl, Nat.le_of_ble_eq_true rfl⟩ (fun z6047 F9 H locs hT hz6047 => ?_)
  obtain ⟨fz6047, hz6047⟩ := hz6047
  rw [fz6047] at hT
  exact t_iret hQ X hT (⟨rfl, rg_all _⟩) (Nat.le_of_ble_eq_true rfl) (Nat.le_of_ble_eq_true rfl) dX7_doorOf_18
set_option maxHeartbeats 4000000 in
set_option maxRecDepth 100000 in
theorem kt29_X7_doorOf (l : Launch) (G : KG) (tag : Nat → Nat) (L : List Nat) (F : Nat → va_E) (ho : okT G ttC tag L F) (p0 : Nat) (p1 : Int32) (p2 : Int32) (m0 : p0 ∈ L) (g0 : tag p0 = 19) : TMi l yX7_doorOf cX7_doorOf 3 (some .int) { frames := 1, cells := 0, slots := 0, locals := 24 } G ttC tag L F [.ref p0, .int p1, .int p2] (fun r F1 => F1 = F ∧ ((-2147483648) ≤ r.toInt ∧ r.toInt ≤ 2147483647)) := by
  refine t_bodyi (y := yX7_doorOf) (cd := cX7_doorOf) (mL := 3) (rt := (some .int)) (rm := { frames := 1, cells := 0, slots := 0, locals := 24 }) (av := [.ref p0, .int p1, .int p2]) (by decide) (Nat.le_of_ble_eq_true rfl) ho ?_
  intro p e s m args below meth c ls A Q hQ X hT hl
  have hx := X.1.1
  have hb := X.1.2.1
  have hl : lv_has ls 3 [(0, .ref p0), (1, .int p1), (2, .int p2)] := hl
  have rp1 := rg_all p1
  have rp2 := rg_all p2
  refine lv_iload_n hx hb dX7_doorOf_0 rfl (lv_at hl 2 rfl) ?_
  refine lv_aload_n hx hb dX7_doorOf_1 rfl (lv_at hl 0 rfl) ?_
  refine lv_iload_n hx hb dX7_doorOf_2 rfl (lv_at hl 1 rfl) ?_
  refine lv_iload_n hx hb dX7_doorOf_3 rfl (lv_at hl 2 rfl) ?_
  refine lv_iconst (v := 1) hx hb dX7_doorOf_4 (by decide) ?_
  refine t_cVi (n := 3) (C := RX7) (T := TX7) (N := 7) (As := [.int p1, .int p2, .int 1]) (rest := [.int p2]) X hT (kt19_X7_partOf l G tag L F hT.2.2.2 p0 p1 p2 1 m0 g0) m0 g0 rfl rfl qw_856 qw_778 qw_779 qw_22 qw_780 ⟨rfl, by decide +kernel, by decide +kernel, by decide +kernel⟩ ⟨Nat.le_of_ble_eq_true rfl, Nat.le_of_ble_eq_true rfl⟩ hl rfl rfl (Nat.le_of_ble_eq_true rfl) dX7_doorOf_5 ⟨Nat.le_of_ble_eq_true rfl, Nat.le_of_ble_eq_true rfl⟩ (fun z6081 F9 H locs hT hz6081 => ?_)
  obtain ⟨fz6081, hz6081⟩ := hz6081
  rw [fz6081] at hT
  refine lv_aload_n hx hb dX7_doorOf_8 rfl (lv_at hl 0 rfl) ?_
  refine lv_iload_n hx hb dX7_doorOf_9 rfl (lv_at hl 1 rfl) ?_
  refine lv_iload_n hx hb dX7_doorOf_10 rfl (lv_at hl 2 rfl) ?_
  refine lv_iconst (v := 2) hx hb dX7_doorOf_11 (by decide) ?_
  refine t_cVi (n := 3) (C := RX7) (T := TX7) (N := 7) (As := [.int p1, .int p2, .int 2]) (rest := [.int z6081, .int p2]) X hT (kt19_X7_partOf l G tag L F hT.2.2.2 p0 p1 p2 2 m0 g0) m0 g0 rfl rfl qw_856 qw_778 qw_779 qw_22 qw_780 ⟨rfl, by decide +kernel, by decide +kernel, by decide +kernel⟩ ⟨Nat.le_of_ble_eq_true rfl, Nat.le_of_ble_eq_true rfl⟩ hl rfl rfl (Nat.le_of_ble_eq_true rfl) dX7_doorOf_12 ⟨Nat.le_of_ble_eq_true rfl, Nat.le_of_ble_eq_true rfl⟩ (fun z6082 F9 H locs hT hz6082 => ?_)
  obtain ⟨fz6082, hz6082⟩ := hz6082
  rw [fz6082] at hT
  refine t_cSi (n := 3) (As := [.int p2, .int z6081, .int z6082]) (rest := []) X hT (kt27_X4_doorPlace l G tag L F hT.2.2.2 p2 z6081 z6082 ) qw_921 qw_785 qw_409 qw_786 ⟨by decide +kernel, by decide +kernel, by decide +kernel⟩ ⟨Nat.le_of_ble_eq_true rfl, Nat.le_of_ble_eq_true rfl⟩ hl rfl rfl (Nat.le_of_ble_eq_true rfl) dX7_doorOf_15 ⟨Nat.le_of_ble_eq_true rfl, Nat.le_of_ble_eq_true rfl⟩ (fun z6083 F9 H locs hT hz6083 => ?_)
  obtain ⟨fz6083, hz6083⟩ := hz6083
  rw [fz6083] at hT
  exact t_iret hQ X hT (⟨rfl, rg_all _⟩) (Nat.le_of_ble_eq_true rfl) (Nat.le_of_ble_eq_true rfl) dX7_doorOf_18
set_option maxHeartbeats 4000000 in
set_option maxRecDepth 100000 in
theorem kt30_X4_inFront (l : Launch) (G : KG) (tag : Nat → Nat) (L : List Nat) (F : Nat → va_E) (ho : okT G ttC tag L F) (p0 : Int32) (p1 : Int32)  : TMi l yX4_inFront cX4_inFront 4 (some .int) { frames := 0, cells := 0, slots := 0, locals := 0 } G ttC tag L F [.int p0, .int p1] (fun r F1 => F1 = F ∧ ((-2147483648) ≤ r.toInt ∧ r.toInt ≤ 2147483647)) := by
  refine t_bodyi (y := yX4_inFront) (cd := cX4_inFront) (mL := 4) (rt := (some .int)) (rm := { frames := 0, cells := 0, slots := 0, locals := 0 }) (av := [.int p0, .int p1]) (by decide) (Nat.le_of_ble_eq_true rfl) ho ?_
  intro p e s m args below meth c ls A Q hQ X hT hl
  have hx := X.1.1
  have hb := X.1.2.1
  have hl : lv_has ls 4 [(0, .int p0), (1, .int p1)] := hl
  have rp0 := rg_all p0
  have rp1 := rg_all p1
  refine lv_iload_n hx hb dX4_inFront_0 rfl (lv_at hl 0 rfl) ?_
  refine lv_iconst (v := 1) hx hb dX4_inFront_1 (by decide) ?_
  refine lv_icmp_ge (tgt := 7) hx hb dX4_inFront_2 (by decide) (fun c6220 => ?_) (fun c6220 => ?_)
  · have w6221 := cv_le (by decide : (1 : Int32).toInt = 1) (rfl : p0.toInt = p0.toInt) c6220
    refine lv_iload_n hx hb dX4_inFront_7 rfl (lv_at hl 1 rfl) ?_
    refine lv_iconst (v := 2) hx hb dX4_inFront_8 (by decide) ?_
    refine lv_iload_n hx hb dX4_inFront_9 rfl (lv_at hl 0 rfl) ?_
    refine lv_imul hx hb dX4_inFront_10 ?_
    refine lv_topi (fun z6222 ez6222 => ?_)
    have rz6222 := rg_all z6222
    refine lv_idiv hx hb dX4_inFront_11 (mul2_ne ez6222 (by omega)) ?_
    refine lv_topi (fun z6223 ez6223 => ?_)
    have rz6223 := rg_all z6223
    refine lv_istore_n (lv' := [(2, .int z6223), (0, .int p0), (1, .int p1)]) hx hb dX4_inFront_12 rfl hl (by decide) rfl (fun ls hl => ?_)
    refine lv_iload_n hx hb dX4_inFront_13 rfl (lv_at hl 2 rfl) ?_
    refine lv_iconst (v := 2) hx hb dX4_inFront_14 (by decide) ?_
    refine lv_iload_n hx hb dX4_inFront_15 rfl (lv_at hl 1 rfl) ?_
    refine lv_imul hx hb dX4_inFront_16 ?_
    refine lv_topi (fun z6224 ez6224 => ?_)
    have rz6224 := rg_all z6224
    refine lv_irem hx hb dX4_inFront_17 (mul2_ne ez6224 (by omega)) ?_
    refine lv_topi (fun z6225 ez6225 => ?_)
    have rz6225 := rg_all z6225
    refine lv_istore_n (lv' := [(3, .int z6225), (2, .int z6223), (0, .int p0), (1, .int p1)]) hx hb dX4_inFront_18 rfl hl (by decide) rfl (fun ls hl => ?_)
    refine lv_iload_n hx hb dX4_inFront_19 rfl (lv_at hl 1 rfl) ?_
    refine lv_iconst (v := 2) hx hb dX4_inFront_20 (by decide) ?_
    refine lv_iload_n hx hb dX4_inFront_21 rfl (lv_at hl 2 rfl) ?_
    refine lv_imul hx hb dX4_inFront_22 ?_
    refine lv_topi (fun z6226 ez6226 => ?_)
    have rz6226 := rg_all z6226
    refine lv_iconst (v := 2) hx hb dX4_inFront_23 (by decide) ?_
    refine lv_iadd hx hb dX4_inFront_24 ?_
    refine lv_topi (fun z6227 ez6227 => ?_)
    have rz6227 := rg_all z6227
    refine lv_imul hx hb dX4_inFront_25 ?_
    refine lv_topi (fun z6228 ez6228 => ?_)
    have rz6228 := rg_all z6228
    refine lv_iload_n hx hb dX4_inFront_26 rfl (lv_at hl 0 rfl) ?_
    refine lv_iadd hx hb dX4_inFront_27 ?_
    refine lv_topi (fun z6229 ez6229 => ?_)
    have rz6229 := rg_all z6229
    refine lv_iconst (v := 1) hx hb dX4_inFront_28 (by decide) ?_
    refine lv_iadd hx hb dX4_inFront_29 ?_
    refine lv_topi (fun z6230 ez6230 => ?_)
    have rz6230 := rg_all z6230
    exact t_iret hQ X hT (⟨rfl, rg_all _⟩) (Nat.le_of_ble_eq_true rfl) (Nat.le_of_ble_eq_true rfl) dX4_inFront_30
  · have w6231 := cv_nle (by decide : (1 : Int32).toInt = 1) (rfl : p0.toInt = p0.toInt) c6220
    refine lv_iconst (v := 0) hx hb dX4_inFront_5 (by decide) ?_
    exact t_iret hQ X hT (⟨rfl, rg_all _⟩) (Nat.le_of_ble_eq_true rfl) (Nat.le_of_ble_eq_true rfl) dX4_inFront_6
set_option maxHeartbeats 4000000 in
set_option maxRecDepth 100000 in
theorem kt31_X4_between (l : Launch) (G : KG) (tag : Nat → Nat) (L : List Nat) (F : Nat → va_E) (ho : okT G ttC tag L F) (p0 : Int32) (p1 : Int32) (p2 : Int32)  : TMi l yX4_between cX4_between 5 (some .int) { frames := 0, cells := 0, slots := 0, locals := 0 } G ttC tag L F [.int p0, .int p1, .int p2] (fun r F1 => F1 = F ∧ ((-2147483648) ≤ r.toInt ∧ r.toInt ≤ 2147483647)) := by
  refine t_bodyi (y := yX4_between) (cd := cX4_between) (mL := 5) (rt := (some .int)) (rm := { frames := 0, cells := 0, slots := 0, locals := 0 }) (av := [.int p0, .int p1, .int p2]) (by decide) (Nat.le_of_ble_eq_true rfl) ho ?_
  intro p e s m args below meth c ls A Q hQ X hT hl
  have hx := X.1.1
  have hb := X.1.2.1
  have hl : lv_has ls 5 [(0, .int p0), (1, .int p1), (2, .int p2)] := hl
  have rp0 := rg_all p0
  have rp1 := rg_all p1
  have rp2 := rg_all p2
  have K14 : ∀ (z6343 : Int32) (H : Heap) (locs : List Loc) (ls : Array Slot), TH G ttC A s tag L F H locs → lv_has ls 5 [(0, .int p0), (1, .int p1), (2, .int p2)] → W p l e { frames := 0, cells := 0, slots := 0, locals := 0 } s m args below meth c H locs 0 0 Q (F0 m 14 ls [.int z6343]) := by
    intro z6343 H locs ls hT hl
    have rz6343 := rg_all z6343
    refine lv_istore_n (lv' := [(3, .int z6343), (0, .int p0), (1, .int p1), (2, .int p2)]) hx hb dX4_between_14 rfl hl (by decide) rfl (fun ls hl => ?_)
    refine lv_bipush (v := 8) hx hb dX4_between_15 (by decide) ?_
    refine lv_iload_n hx hb dX4_between_17 rfl (lv_at hl 1 rfl) ?_
    refine lv_imul hx hb dX4_between_18 ?_
    refine lv_topi (fun z6344 ez6344 => ?_)
    have rz6344 := rg_all z6344
    refine lv_iload_n hx hb dX4_between_19 rfl (lv_at hl 0 rfl) ?_
    refine lv_isub hx hb dX4_between_20 ?_
    refine lv_topi (fun z6345 ez6345 => ?_)
    have rz6345 := rg_all z6345
    refine lv_istore (lv' := [(4, .int z6345), (3, .int z6343), (0, .int p0), (1, .int p1), (2, .int p2)]) hx hb dX4_between_21 hl (by decide) rfl (fun ls hl => ?_)
    refine lv_iload_n hx hb dX4_between_23 rfl (lv_at hl 1 rfl) ?_
    refine lv_iload hx hb dX4_between_24 (lv_at hl 0 rfl) ?_
    refine lv_icmp_ge (tgt := 33) hx hb dX4_between_26 (by decide) (fun c6346 => ?_) (fun c6346 => ?_)
    · have w6347 := cv_le (rfl : z6345.toInt = z6345.toInt) (rfl : z6343.toInt = z6343.toInt) c6346
      refine lv_iload hx hb dX4_between_33 (lv_at hl 0 rfl) ?_
      exact t_iret hQ X hT (⟨rfl, rg_all _⟩) (Nat.le_of_ble_eq_true rfl) (Nat.le_of_ble_eq_true rfl) dX4_between_35
    · have w6348 := cv_nle (rfl : z6345.toInt = z6345.toInt) (rfl : z6343.toInt = z6343.toInt) c6346
      refine lv_iload_n hx hb dX4_between_29 rfl (lv_at hl 1 rfl) ?_
      refine lv_goto (tgt := 35) hx hb dX4_between_30 (by decide) ?_
      exact t_iret hQ X hT (⟨rfl, rg_all _⟩) (Nat.le_of_ble_eq_true rfl) (Nat.le_of_ble_eq_true rfl) dX4_between_35
  refine lv_iload_n hx hb dX4_between_0 rfl (lv_at hl 1 rfl) ?_
  refine lv_iload_n hx hb dX4_between_1 rfl (lv_at hl 2 rfl) ?_
  refine lv_icmp_ge (tgt := 11) hx hb dX4_between_2 (by decide) (fun c6349 => ?_) (fun c6349 => ?_)
  · have w6350 := cv_le (rfl : p2.toInt = p2.toInt) (rfl : p1.toInt = p1.toInt) c6349
    refine lv_iload_n hx hb dX4_between_11 rfl (lv_at hl 1 rfl) ?_
    refine lv_iload_n hx hb dX4_between_12 rfl (lv_at hl 2 rfl) ?_
    refine lv_isub hx hb dX4_between_13 ?_
    refine lv_topi (fun z6351 ez6351 => ?_)
    have rz6351 := rg_all z6351
    exact K14 z6351 _ _ _  hT  (lv_sub hl [0, 1, 2] rfl)
  · have w6352 := cv_nle (rfl : p2.toInt = p2.toInt) (rfl : p1.toInt = p1.toInt) c6349
    refine lv_iload_n hx hb dX4_between_5 rfl (lv_at hl 2 rfl) ?_
    refine lv_iload_n hx hb dX4_between_6 rfl (lv_at hl 1 rfl) ?_
    refine lv_isub hx hb dX4_between_7 ?_
    refine lv_topi (fun z6353 ez6353 => ?_)
    have rz6353 := rg_all z6353
    refine lv_goto (tgt := 14) hx hb dX4_between_8 (by decide) ?_
    exact K14 z6353 _ _ _  hT  (lv_sub hl [0, 1, 2] rfl)
set_option maxHeartbeats 4000000 in
set_option maxRecDepth 100000 in
theorem kt32_X7_roundIn (l : Launch) (G : KG) (tag : Nat → Nat) (L : List Nat) (F : Nat → va_E) (ho : okT G ttC tag L F) (p0 : Nat) (p1 : Int32) (p2 : Int32) (m0 : p0 ∈ L) (g0 : tag p0 = 19) : TMi l yX7_roundIn cX7_roundIn 3 (some .int) { frames := 2, cells := 0, slots := 0, locals := 46 } G ttC tag L F [.ref p0, .int p1, .int p2] (fun r F1 => F1 = F ∧ ((-2147483648) ≤ r.toInt ∧ r.toInt ≤ 2147483647)) := by
  refine t_bodyi (y := yX7_roundIn) (cd := cX7_roundIn) (mL := 3) (rt := (some .int)) (rm := { frames := 2, cells := 0, slots := 0, locals := 46 }) (av := [.ref p0, .int p1, .int p2]) (by decide) (Nat.le_of_ble_eq_true rfl) ho ?_
  intro p e s m args below meth c ls A Q hQ X hT hl
  have hx := X.1.1
  have hb := X.1.2.1
  have hl : lv_has ls 3 [(0, .ref p0), (1, .int p1), (2, .int p2)] := hl
  have rp1 := rg_all p1
  have rp2 := rg_all p2
  refine lv_iload_n hx hb dX7_roundIn_0 rfl (lv_at hl 2 rfl) ?_
  refine lv_aload_n hx hb dX7_roundIn_1 rfl (lv_at hl 0 rfl) ?_
  refine lv_iload_n hx hb dX7_roundIn_2 rfl (lv_at hl 1 rfl) ?_
  refine lv_iload_n hx hb dX7_roundIn_3 rfl (lv_at hl 2 rfl) ?_
  refine t_cVi (n := 2) (C := RX7) (T := TX7) (N := 7) (As := [.int p1, .int p2]) (rest := [.int p2]) X hT (kt29_X7_doorOf l G tag L F hT.2.2.2 p0 p1 p2 m0 g0) m0 g0 rfl rfl qw_992 qw_918 qw_919 qw_22 qw_920 ⟨rfl, by decide +kernel, by decide +kernel, by decide +kernel⟩ ⟨Nat.le_of_ble_eq_true rfl, Nat.le_of_ble_eq_true rfl⟩ hl rfl rfl (Nat.le_of_ble_eq_true rfl) dX7_roundIn_4 ⟨Nat.le_of_ble_eq_true rfl, Nat.le_of_ble_eq_true rfl⟩ (fun z6415 F9 H locs hT hz6415 => ?_)
  obtain ⟨fz6415, hz6415⟩ := hz6415
  rw [fz6415] at hT
  refine lv_iload_n hx hb dX7_roundIn_7 rfl (lv_at hl 2 rfl) ?_
  refine lv_iconst (v := 1) hx hb dX7_roundIn_8 (by decide) ?_
  refine lv_isub hx hb dX7_roundIn_9 ?_
  refine lv_topi (fun z6416 ez6416 => ?_)
  have rz6416 := rg_all z6416
  refine lv_aload_n hx hb dX7_roundIn_10 rfl (lv_at hl 0 rfl) ?_
  refine lv_iload_n hx hb dX7_roundIn_11 rfl (lv_at hl 1 rfl) ?_
  refine lv_iload_n hx hb dX7_roundIn_12 rfl (lv_at hl 2 rfl) ?_
  refine lv_iconst (v := 1) hx hb dX7_roundIn_13 (by decide) ?_
  refine lv_isub hx hb dX7_roundIn_14 ?_
  refine lv_topi (fun z6417 ez6417 => ?_)
  have rz6417 := rg_all z6417
  refine t_cVi (n := 2) (C := RX7) (T := TX7) (N := 7) (As := [.int p1, .int z6417]) (rest := [.int z6416, .int z6415, .int p2]) X hT (kt29_X7_doorOf l G tag L F hT.2.2.2 p0 p1 z6417 m0 g0) m0 g0 rfl rfl qw_992 qw_918 qw_919 qw_22 qw_920 ⟨rfl, by decide +kernel, by decide +kernel, by decide +kernel⟩ ⟨Nat.le_of_ble_eq_true rfl, Nat.le_of_ble_eq_true rfl⟩ hl rfl rfl (Nat.le_of_ble_eq_true rfl) dX7_roundIn_15 ⟨Nat.le_of_ble_eq_true rfl, Nat.le_of_ble_eq_true rfl⟩ (fun z6418 F9 H locs hT hz6418 => ?_)
  obtain ⟨fz6418, hz6418⟩ := hz6418
  rw [fz6418] at hT
  refine t_cSi (n := 2) (As := [.int z6416, .int z6418]) (rest := [.int z6415, .int p2]) X hT (kt30_X4_inFront l G tag L F hT.2.2.2 z6416 z6418 ) qw_993 qw_923 qw_409 qw_924 ⟨by decide +kernel, by decide +kernel, by decide +kernel⟩ ⟨Nat.le_of_ble_eq_true rfl, Nat.le_of_ble_eq_true rfl⟩ hl rfl rfl (Nat.le_of_ble_eq_true rfl) dX7_roundIn_18 ⟨Nat.le_of_ble_eq_true rfl, Nat.le_of_ble_eq_true rfl⟩ (fun z6419 F9 H locs hT hz6419 => ?_)
  obtain ⟨fz6419, hz6419⟩ := hz6419
  rw [fz6419] at hT
  refine t_cSi (n := 3) (As := [.int p2, .int z6415, .int z6419]) (rest := []) X hT (kt31_X4_between l G tag L F hT.2.2.2 p2 z6415 z6419 ) qw_994 qw_926 qw_409 qw_927 ⟨by decide +kernel, by decide +kernel, by decide +kernel⟩ ⟨Nat.le_of_ble_eq_true rfl, Nat.le_of_ble_eq_true rfl⟩ hl rfl rfl (Nat.le_of_ble_eq_true rfl) dX7_roundIn_21 ⟨Nat.le_of_ble_eq_true rfl, Nat.le_of_ble_eq_true rfl⟩ (fun z6420 F9 H locs hT hz6420 => ?_)
  obtain ⟨fz6420, hz6420⟩ := hz6420
  rw [fz6420] at hT
  exact t_iret hQ X hT (⟨rfl, rg_all _⟩) (Nat.le_of_ble_eq_true rfl) (Nat.le_of_ble_eq_true rfl) dX7_roundIn_24
set_option maxHeartbeats 4000000 in
set_option maxRecDepth 100000 in
theorem kt33_X7_isOpen (l : Launch) (G : KG) (tag : Nat → Nat) (L : List Nat) (F : Nat → va_E) (ho : okT G ttC tag L F) (p0 : Nat) (p1 : Int32) (p2 : Int32) (m0 : p0 ∈ L) (g0 : tag p0 = 19) : TMi l yX7_isOpen cX7_isOpen 3 (some .boolean) { frames := 2, cells := 0, slots := 0, locals := 46 } G ttC tag L F [.ref p0, .int p1, .int p2] (fun r F1 => F1 = F ∧ (0 ≤ r.toInt ∧ r.toInt ≤ 1)) := by
  refine t_bodyi (y := yX7_isOpen) (cd := cX7_isOpen) (mL := 3) (rt := (some .boolean)) (rm := { frames := 2, cells := 0, slots := 0, locals := 46 }) (av := [.ref p0, .int p1, .int p2]) (by decide) (Nat.le_of_ble_eq_true rfl) ho ?_
  intro p e s m args below meth c ls A Q hQ X hT hl
  have hx := X.1.1
  have hb := X.1.2.1
  have hl : lv_has ls 3 [(0, .ref p0), (1, .int p1), (2, .int p2)] := hl
  have rp1 := rg_all p1
  have rp2 := rg_all p2
  refine lv_aload_n hx hb dX7_isOpen_0 rfl (lv_at hl 0 rfl) ?_
  refine lv_iload_n hx hb dX7_isOpen_1 rfl (lv_at hl 1 rfl) ?_
  refine lv_iload_n hx hb dX7_isOpen_2 rfl (lv_at hl 2 rfl) ?_
  refine t_cVi (n := 2) (C := RX7) (T := TX7) (N := 7) (As := [.int p1, .int p2]) (rest := []) X hT (kt21_X7_stands l G tag L F hT.2.2.2 p0 p1 p2 m0 g0) m0 g0 rfl rfl qw_987 qw_853 qw_854 qw_22 qw_855 ⟨rfl, by decide +kernel, by decide +kernel, by decide +kernel⟩ ⟨Nat.le_of_ble_eq_true rfl, Nat.le_of_ble_eq_true rfl⟩ hl rfl rfl (Nat.le_of_ble_eq_true rfl) dX7_isOpen_3 ⟨Nat.le_of_ble_eq_true rfl, Nat.le_of_ble_eq_true rfl⟩ (fun z6542 F9 H locs hT hz6542 => ?_)
  obtain ⟨fz6542, hz6542⟩ := hz6542
  rw [fz6542] at hT
  refine lv_if_eq (tgt := 24) hx hb dX7_isOpen_6 (by decide) (fun c6543 => ?_) (fun c6543 => ?_)
  · have w6544 := cv_eq (rfl : z6542.toInt = z6542.toInt) (by decide : (0 : Int32).toInt = 0) c6543
    refine lv_iconst (v := 0) hx hb dX7_isOpen_24 (by decide) ?_
    exact t_zret hQ X hT (by decide) (⟨rfl, (by decide)⟩) (Nat.le_of_ble_eq_true rfl) (Nat.le_of_ble_eq_true rfl) dX7_isOpen_25
  · have w6545 := cv_ne (rfl : z6542.toInt = z6542.toInt) (by decide : (0 : Int32).toInt = 0) c6543
    refine lv_aload_n hx hb dX7_isOpen_9 rfl (lv_at hl 0 rfl) ?_
    refine lv_iload_n hx hb dX7_isOpen_10 rfl (lv_at hl 1 rfl) ?_
    refine lv_iload_n hx hb dX7_isOpen_11 rfl (lv_at hl 2 rfl) ?_
    refine lv_bipush (v := 6) hx hb dX7_isOpen_12 (by decide) ?_
    refine t_cVi (n := 3) (C := RX7) (T := TX7) (N := 7) (As := [.int p1, .int p2, .int 6]) (rest := []) X hT (kt19_X7_partOf l G tag L F hT.2.2.2 p0 p1 p2 6 m0 g0) m0 g0 rfl rfl qw_856 qw_778 qw_779 qw_22 qw_780 ⟨rfl, by decide +kernel, by decide +kernel, by decide +kernel⟩ ⟨Nat.le_of_ble_eq_true rfl, Nat.le_of_ble_eq_true rfl⟩ hl rfl rfl (Nat.le_of_ble_eq_true rfl) dX7_isOpen_14 ⟨Nat.le_of_ble_eq_true rfl, Nat.le_of_ble_eq_true rfl⟩ (fun z6546 F9 H locs hT hz6546 => ?_)
    obtain ⟨fz6546, hz6546⟩ := hz6546
    rw [fz6546] at hT
    refine lv_if_ne (tgt := 24) hx hb dX7_isOpen_17 (by decide) (fun c6547 => ?_) (fun c6547 => ?_)
    · have w6548 := cv_ne (rfl : z6546.toInt = z6546.toInt) (by decide : (0 : Int32).toInt = 0) c6547
      refine lv_iconst (v := 0) hx hb dX7_isOpen_24 (by decide) ?_
      exact t_zret hQ X hT (by decide) (⟨rfl, (by decide)⟩) (Nat.le_of_ble_eq_true rfl) (Nat.le_of_ble_eq_true rfl) dX7_isOpen_25
    · have w6549 := cv_eq (rfl : z6546.toInt = z6546.toInt) (by decide : (0 : Int32).toInt = 0) c6547
      refine lv_iconst (v := 1) hx hb dX7_isOpen_20 (by decide) ?_
      refine lv_goto (tgt := 25) hx hb dX7_isOpen_21 (by decide) ?_
      exact t_zret hQ X hT (by decide) (⟨rfl, (by decide)⟩) (Nat.le_of_ble_eq_true rfl) (Nat.le_of_ble_eq_true rfl) dX7_isOpen_25
set_option maxHeartbeats 4000000 in
set_option maxRecDepth 100000 in
theorem kt34_X7_roundIn (l : Launch) (G : KG) (tag : Nat → Nat) (L : List Nat) (F : Nat → va_E) (ho : okT G ttC tag L F) (p0 : Nat) (p1 : Int32) (p2 : Int32) (m0 : p0 ∈ L) (g0 : tag p0 = 19) : TMi l yX7_roundIn cX7_roundIn 3 (some .int) { frames := 2, cells := 0, slots := 0, locals := 46 } G ttC tag L F [.ref p0, .int p1, .int p2] (fun r F1 => F1 = F ∧ ((-2147483648) ≤ r.toInt ∧ r.toInt ≤ 2147483647)) := by
  refine t_bodyi (y := yX7_roundIn) (cd := cX7_roundIn) (mL := 3) (rt := (some .int)) (rm := { frames := 2, cells := 0, slots := 0, locals := 46 }) (av := [.ref p0, .int p1, .int p2]) (by decide) (Nat.le_of_ble_eq_true rfl) ho ?_
  intro p e s m args below meth c ls A Q hQ X hT hl
  have hx := X.1.1
  have hb := X.1.2.1
  have hl : lv_has ls 3 [(0, .ref p0), (1, .int p1), (2, .int p2)] := hl
  have rp1 := rg_all p1
  have rp2 := rg_all p2
  refine lv_iload_n hx hb dX7_roundIn_0 rfl (lv_at hl 2 rfl) ?_
  refine lv_aload_n hx hb dX7_roundIn_1 rfl (lv_at hl 0 rfl) ?_
  refine lv_iload_n hx hb dX7_roundIn_2 rfl (lv_at hl 1 rfl) ?_
  refine lv_iload_n hx hb dX7_roundIn_3 rfl (lv_at hl 2 rfl) ?_
  refine t_cVi (n := 2) (C := RX7) (T := TX7) (N := 7) (As := [.int p1, .int p2]) (rest := [.int p2]) X hT (kt29_X7_doorOf l G tag L F hT.2.2.2 p0 p1 p2 m0 g0) m0 g0 rfl rfl qw_992 qw_918 qw_919 qw_22 qw_920 ⟨rfl, by decide +kernel, by decide +kernel, by decide +kernel⟩ ⟨Nat.le_of_ble_eq_true rfl, Nat.le_of_ble_eq_true rfl⟩ hl rfl rfl (Nat.le_of_ble_eq_true rfl) dX7_roundIn_4 ⟨Nat.le_of_ble_eq_true rfl, Nat.le_of_ble_eq_true rfl⟩ (fun z6623 F9 H locs hT hz6623 => ?_)
  obtain ⟨fz6623, hz6623⟩ := hz6623
  rw [fz6623] at hT
  refine lv_iload_n hx hb dX7_roundIn_7 rfl (lv_at hl 2 rfl) ?_
  refine lv_iconst (v := 1) hx hb dX7_roundIn_8 (by decide) ?_
  refine lv_isub hx hb dX7_roundIn_9 ?_
  refine lv_topi (fun z6624 ez6624 => ?_)
  have rz6624 := rg_all z6624
  refine lv_aload_n hx hb dX7_roundIn_10 rfl (lv_at hl 0 rfl) ?_
  refine lv_iload_n hx hb dX7_roundIn_11 rfl (lv_at hl 1 rfl) ?_
  refine lv_iload_n hx hb dX7_roundIn_12 rfl (lv_at hl 2 rfl) ?_
  refine lv_iconst (v := 1) hx hb dX7_roundIn_13 (by decide) ?_
  refine lv_isub hx hb dX7_roundIn_14 ?_
  refine lv_topi (fun z6625 ez6625 => ?_)
  have rz6625 := rg_all z6625
  refine t_cVi (n := 2) (C := RX7) (T := TX7) (N := 7) (As := [.int p1, .int z6625]) (rest := [.int z6624, .int z6623, .int p2]) X hT (kt29_X7_doorOf l G tag L F hT.2.2.2 p0 p1 z6625 m0 g0) m0 g0 rfl rfl qw_992 qw_918 qw_919 qw_22 qw_920 ⟨rfl, by decide +kernel, by decide +kernel, by decide +kernel⟩ ⟨Nat.le_of_ble_eq_true rfl, Nat.le_of_ble_eq_true rfl⟩ hl rfl rfl (Nat.le_of_ble_eq_true rfl) dX7_roundIn_15 ⟨Nat.le_of_ble_eq_true rfl, Nat.le_of_ble_eq_true rfl⟩ (fun z6626 F9 H locs hT hz6626 => ?_)
  obtain ⟨fz6626, hz6626⟩ := hz6626
  rw [fz6626] at hT
  refine t_cSi (n := 2) (As := [.int z6624, .int z6626]) (rest := [.int z6623, .int p2]) X hT (kt30_X4_inFront l G tag L F hT.2.2.2 z6624 z6626 ) qw_993 qw_923 qw_409 qw_924 ⟨by decide +kernel, by decide +kernel, by decide +kernel⟩ ⟨Nat.le_of_ble_eq_true rfl, Nat.le_of_ble_eq_true rfl⟩ hl rfl rfl (Nat.le_of_ble_eq_true rfl) dX7_roundIn_18 ⟨Nat.le_of_ble_eq_true rfl, Nat.le_of_ble_eq_true rfl⟩ (fun z6627 F9 H locs hT hz6627 => ?_)
  obtain ⟨fz6627, hz6627⟩ := hz6627
  rw [fz6627] at hT
  refine t_cSi (n := 3) (As := [.int p2, .int z6623, .int z6627]) (rest := []) X hT (kt31_X4_between l G tag L F hT.2.2.2 p2 z6623 z6627 ) qw_994 qw_926 qw_409 qw_927 ⟨by decide +kernel, by decide +kernel, by decide +kernel⟩ ⟨Nat.le_of_ble_eq_true rfl, Nat.le_of_ble_eq_true rfl⟩ hl rfl rfl (Nat.le_of_ble_eq_true rfl) dX7_roundIn_21 ⟨Nat.le_of_ble_eq_true rfl, Nat.le_of_ble_eq_true rfl⟩ (fun z6628 F9 H locs hT hz6628 => ?_)
  obtain ⟨fz6628, hz6628⟩ := hz6628
  rw [fz6628] at hT
  exact t_iret hQ X hT (⟨rfl, rg_all _⟩) (Nat.le_of_ble_eq_true rfl) (Nat.le_of_ble_eq_true rfl) dX7_roundIn_24
set_option maxHeartbeats 4000000 in
set_option maxRecDepth 100000 in
theorem kt35_X7_wayTo (l : Launch) (G : KG) (tag : Nat → Nat) (L : List Nat) (F : Nat → va_E) (ho : okT G ttC tag L F) (p0 : Nat) (p1 : Int32) (p2 : Int32) (m0 : p0 ∈ L) (g0 : tag p0 = 19) (h1 : 0 ≤ p1.toInt ∧ p1.toInt ≤ 3) : TMi l yX7_wayTo cX7_wayTo 6 (some .int) { frames := 3, cells := 0, slots := 0, locals := 68 } G ttC tag L F [.ref p0, .int p1, .int p2] (fun r F1 => F1 = F ∧ ((-2147483648) ≤ r.toInt ∧ r.toInt ≤ 2147483647)) := by
  refine t_bodyi (y := yX7_wayTo) (cd := cX7_wayTo) (mL := 6) (rt := (some .int)) (rm := { frames := 3, cells := 0, slots := 0, locals := 68 }) (av := [.ref p0, .int p1, .int p2]) (by decide) (Nat.le_of_ble_eq_true rfl) ho ?_
  intro p e s m args below meth c ls A Q hQ X hT hl
  have hx := X.1.1
  have hb := X.1.2.1
  have hl : lv_has ls 6 [(0, .ref p0), (1, .int p1), (2, .int p2)] := hl
  have rp2 := rg_all p2
  have K42 : ∀ (n : Nat) (z7010 : Int32) (z7011 : Int32) (z7012 : Int32) (H : Heap) (locs : List Loc) (ls : Array Slot), (z7012.toInt - 0 < (n : Int)) → (1 ≤ z7010.toInt ∧ z7010.toInt ≤ 2147483647) → (0 ≤ z7012.toInt ∧ z7012.toInt ≤ 6) → TH G ttC A s tag L F H locs → lv_has ls 6 [(0, .ref p0), (1, .int p1), (2, .int p2), (3, .int z7010), (4, .int z7011), (5, .int z7012)] → W p l e { frames := 3, cells := 0, slots := 0, locals := 68 } s m args below meth c H locs 0 0 Q (F0 m 42 ls []) := by
    intro n
    induction n with
    | zero =>
      intro z7010 z7011 z7012 H locs ls hn rz7010 rz7012 hT hl
      have rz7011 := rg_all z7011
      exfalso
      omega
    | succ n ih42 =>
      intro z7010 z7011 z7012 H locs ls hn rz7010 rz7012 hT hl
      have rz7011 := rg_all z7011
      have K82 : ∀ (z7014 : Int32) (H : Heap) (locs : List Loc) (ls : Array Slot), (1 ≤ z7010.toInt ∧ z7010.toInt ≤ 6) → (1 ≤ z7012.toInt ∧ z7012.toInt ≤ 6) → TH G ttC A s tag L F H locs → lv_has ls 6 [(0, .ref p0), (1, .int p1), (2, .int p2), (3, .int z7010), (4, .int z7014), (5, .int z7012)] → W p l e { frames := 3, cells := 0, slots := 0, locals := 68 } s m args below meth c H locs 0 0 Q (F0 m 82 ls []) := by
        intro z7014 H locs ls r9s7013 r9s7015 hT hl
        have rz7014 := rg_all z7014
        obtain ⟨z7016, ez7016⟩ : ∃ y : Int32, y = z7012 + (-1) := ⟨_, rfl⟩
        have hz7016 : z7016.toInt = z7012.toInt + (-1) := ar_add ez7016 rfl (by decide : ((-1) : Int32).toInt = (-1)) (by omega) (by omega)
        refine lv_iinc (v := z7016) (lv' := [(5, .int z7016), (0, .ref p0), (1, .int p1), (2, .int p2), (3, .int z7010), (4, .int z7014)]) hx hb dX7_wayTo_82 hl (k := 5) rfl (by rw [ez7016]; rfl) (by decide) rfl (fun ls hl => ?_)
        refine lv_goto (tgt := 42) hx hb dX7_wayTo_85 (by decide) ?_
        exact ih42 z7010 z7014 z7016 _ _ _ (by omega) (by omega) (by omega) hT  (lv_sub hl [1, 2, 3, 4, 5, 0] rfl)
      refine lv_iload hx hb dX7_wayTo_42 (lv_at hl 5 rfl) ?_
      refine lv_iload_n hx hb dX7_wayTo_44 rfl (lv_at hl 3 rfl) ?_
      refine lv_icmp_lt (tgt := 88) hx hb dX7_wayTo_45 (by decide) (fun c7017 => ?_) (fun c7017 => ?_)
      · have w7018 := cv_lt (rfl : z7012.toInt = z7012.toInt) (rfl : z7010.toInt = z7010.toInt) c7017
        refine lv_iload hx hb dX7_wayTo_88 (lv_at hl 4 rfl) ?_
        exact t_iret hQ X hT (⟨rfl, rg_all _⟩) (Nat.le_of_ble_eq_true rfl) (Nat.le_of_ble_eq_true rfl) dX7_wayTo_90
      · have w7019 := cv_nlt (rfl : z7012.toInt = z7012.toInt) (rfl : z7010.toInt = z7010.toInt) c7017
        refine lv_aload_n hx hb dX7_wayTo_48 rfl (lv_at hl 0 rfl) ?_
        refine lv_iload_n hx hb dX7_wayTo_49 rfl (lv_at hl 1 rfl) ?_
        refine lv_iload hx hb dX7_wayTo_50 (lv_at hl 5 rfl) ?_
        refine t_cVi (n := 2) (C := RX7) (T := TX7) (N := 7) (As := [.int p1, .int z7012]) (rest := []) X hT (kt33_X7_isOpen l G tag L F hT.2.2.2 p0 p1 z7012 m0 g0) m0 g0 rfl rfl qw_983 qw_984 qw_985 qw_22 qw_986 ⟨rfl, by decide +kernel, by decide +kernel, by decide +kernel⟩ ⟨Nat.le_of_ble_eq_true rfl, Nat.le_of_ble_eq_true rfl⟩ hl rfl rfl (Nat.le_of_ble_eq_true rfl) dX7_wayTo_52 ⟨Nat.le_of_ble_eq_true rfl, Nat.le_of_ble_eq_true rfl⟩ (fun z7020 F9 H locs hT hz7020 => ?_)
        obtain ⟨fz7020, hz7020⟩ := hz7020
        rw [fz7020] at hT
        refine lv_if_ne (tgt := 61) hx hb dX7_wayTo_55 (by decide) (fun c7021 => ?_) (fun c7021 => ?_)
        · have w7022 := cv_ne (rfl : z7020.toInt = z7020.toInt) (by decide : (0 : Int32).toInt = 0) c7021
          obtain ⟨z7023, ez7023⟩ : ∃ y : Int32, y = z7011 + 1 := ⟨_, rfl⟩
          have rz7023 := rg_all z7023
          refine lv_iinc (v := z7023) (lv' := [(4, .int z7023), (0, .ref p0), (1, .int p1), (2, .int p2), (3, .int z7010), (5, .int z7012)]) hx hb dX7_wayTo_61 hl (k := 4) rfl (by rw [ez7023]; rfl) (by decide) rfl (fun ls hl => ?_)
          refine lv_iload hx hb dX7_wayTo_64 (lv_at hl 5 rfl) ?_
          refine lv_iload_n hx hb dX7_wayTo_66 rfl (lv_at hl 4 rfl) ?_
          refine lv_icmp_le (tgt := 82) hx hb dX7_wayTo_67 (by decide) (fun c7024 => ?_) (fun c7024 => ?_)
          · have w7025 := cv_le (rfl : z7012.toInt = z7012.toInt) (rfl : z7010.toInt = z7010.toInt) c7024
            exact K82 z7023 _ _ _ (by omega) (by omega) hT  (lv_sub hl [1, 2, 3, 4, 0, 5] rfl)
          · have w7026 := cv_nle (rfl : z7012.toInt = z7012.toInt) (rfl : z7010.toInt = z7010.toInt) c7024
            refine lv_iload hx hb dX7_wayTo_70 (lv_at hl 0 rfl) ?_
            refine lv_aload_n hx hb dX7_wayTo_72 rfl (lv_at hl 1 rfl) ?_
            refine lv_iload_n hx hb dX7_wayTo_73 rfl (lv_at hl 2 rfl) ?_
            refine lv_iload hx hb dX7_wayTo_74 (lv_at hl 5 rfl) ?_
            refine t_cVi (n := 2) (C := RX7) (T := TX7) (N := 7) (As := [.int p1, .int z7012]) (rest := [.int z7023]) X hT (kt34_X7_roundIn l G tag L F hT.2.2.2 p0 p1 z7012 m0 g0) m0 g0 rfl rfl qw_988 qw_989 qw_990 qw_22 qw_991 ⟨rfl, by decide +kernel, by decide +kernel, by decide +kernel⟩ ⟨Nat.le_of_ble_eq_true rfl, Nat.le_of_ble_eq_true rfl⟩ hl rfl rfl (Nat.le_of_ble_eq_true rfl) dX7_wayTo_76 ⟨Nat.le_of_ble_eq_true rfl, Nat.le_of_ble_eq_true rfl⟩ (fun z7027 F9 H locs hT hz7027 => ?_)
            obtain ⟨fz7027, hz7027⟩ := hz7027
            rw [fz7027] at hT
            refine lv_iadd hx hb dX7_wayTo_79 ?_
            refine lv_topi (fun z7028 ez7028 => ?_)
            have rz7028 := rg_all z7028
            refine lv_istore (lv' := [(4, .int z7028), (0, .ref p0), (1, .int p1), (2, .int p2), (3, .int z7010), (5, .int z7012)]) hx hb dX7_wayTo_80 hl (by decide) rfl (fun ls hl => ?_)
            exact K82 z7028 _ _ _ (by omega) (by omega) hT  (lv_sub hl [1, 2, 3, 4, 0, 5] rfl)
        · have w7029 := cv_eq (rfl : z7020.toInt = z7020.toInt) (by decide : (0 : Int32).toInt = 0) c7021
          refine lv_bipush (v := (-2)) hx hb dX7_wayTo_58 (by decide) ?_
          exact t_iret hQ X hT (⟨rfl, rg_all _⟩) (Nat.le_of_ble_eq_true rfl) (Nat.le_of_ble_eq_true rfl) dX7_wayTo_60
  have K32 : ∀ (z7030 : Int32) (z7031 : Int32) (H : Heap) (locs : List Loc) (ls : Array Slot), (1 ≤ z7030.toInt ∧ z7030.toInt ≤ 2147483647) → (0 ≤ z7031.toInt ∧ z7031.toInt ≤ 1) → TH G ttC A s tag L F H locs → lv_has ls 6 [(0, .ref p0), (1, .int p1), (2, .int p2), (3, .int z7030)] → W p l e { frames := 3, cells := 0, slots := 0, locals := 68 } s m args below meth c H locs 0 0 Q (F0 m 32 ls [.int z7031]) := by
    intro z7030 z7031 H locs ls rz7030 rz7031 hT hl
    refine lv_istore (lv' := [(4, .int z7031), (0, .ref p0), (1, .int p1), (2, .int p2), (3, .int z7030)]) hx hb dX7_wayTo_32 hl (by decide) rfl (fun ls hl => ?_)
    refine lv_aload_n hx hb dX7_wayTo_34 rfl (lv_at hl 1 rfl) ?_
    refine t_get (C := RX7) (T := TX7) (N := 7) X hT m0 g0 rfl rfl 2 (by decide) qw_62 inlX7 rfl dX7_wayTo_35 (fun v7032 hv7032 ov7032 => ?_)
    obtain ⟨b7033, rfl, mb7033, gb7033⟩ := okV_r ov7032
    have gb7033 : tag b7033 = 8 := tg_of gb7033
    refine lv_iload_n hx hb dX7_wayTo_38 rfl (lv_at hl 2 rfl) ?_
    refine t_ild X hT mb7033 gb7033 rfl (by omega) dX7_wayTo_39 (fun z7034 vz7034 rz7034 => ?_)
    have rz7034 : 0 ≤ z7034.toInt ∧ z7034.toInt ≤ 6 := rz7034
    refine lv_istore (lv' := [(5, .int z7034), (4, .int z7031), (0, .ref p0), (1, .int p1), (2, .int p2), (3, .int z7030)]) hx hb dX7_wayTo_40 hl (by decide) rfl (fun ls hl => ?_)
    exact K42 7 z7030 z7031 z7034 _ _ _ (by omega) (by omega) (by omega) hT  (lv_sub hl [2, 3, 4, 5, 1, 0] rfl)
  have K21 : ∀ (z7035 : Int32) (H : Heap) (locs : List Loc) (ls : Array Slot), (1 ≤ z7035.toInt ∧ z7035.toInt ≤ 2147483647) → TH G ttC A s tag L F H locs → lv_has ls 6 [(0, .ref p0), (1, .int p1), (2, .int p2)] → W p l e { frames := 3, cells := 0, slots := 0, locals := 68 } s m args below meth c H locs 0 0 Q (F0 m 21 ls [.int z7035]) := by
    intro z7035 H locs ls rz7035 hT hl
    refine lv_istore_n (lv' := [(3, .int z7035), (0, .ref p0), (1, .int p1), (2, .int p2)]) hx hb dX7_wayTo_21 rfl hl (by decide) rfl (fun ls hl => ?_)
    refine lv_iload_n hx hb dX7_wayTo_22 rfl (lv_at hl 3 rfl) ?_
    refine lv_iconst (v := 1) hx hb dX7_wayTo_23 (by decide) ?_
    refine lv_icmp_ge (tgt := 31) hx hb dX7_wayTo_24 (by decide) (fun c7036 => ?_) (fun c7036 => ?_)
    · have w7037 := cv_le (by decide : (1 : Int32).toInt = 1) (rfl : p2.toInt = p2.toInt) c7036
      refine lv_iconst (v := 0) hx hb dX7_wayTo_31 (by decide) ?_
      exact K32 z7035 0 _ _ _ (by omega) (by decide) hT  (lv_sub hl [1, 2, 3, 0] rfl)
    · have w7038 := cv_nle (by decide : (1 : Int32).toInt = 1) (rfl : p2.toInt = p2.toInt) c7036
      refine lv_iconst (v := 1) hx hb dX7_wayTo_27 (by decide) ?_
      refine lv_goto (tgt := 32) hx hb dX7_wayTo_28 (by decide) ?_
      exact K32 z7035 1 _ _ _ (by omega) (by decide) hT  (lv_sub hl [1, 2, 3, 0] rfl)
  refine lv_aload_n hx hb dX7_wayTo_0 rfl (lv_at hl 0 rfl) ?_
  refine t_get (C := RX7) (T := TX7) (N := 7) X hT m0 g0 rfl rfl 2 (by decide) qw_62 inlX7 rfl dX7_wayTo_1 (fun v7039 hv7039 ov7039 => ?_)
  obtain ⟨b7040, rfl, mb7040, gb7040⟩ := okV_r ov7039
  have gb7040 : tag b7040 = 8 := tg_of gb7040
  refine lv_iload_n hx hb dX7_wayTo_4 rfl (lv_at hl 1 rfl) ?_
  refine t_ild X hT mb7040 gb7040 rfl (by omega) dX7_wayTo_5 (fun z7041 vz7041 rz7041 => ?_)
  have rz7041 : 0 ≤ z7041.toInt ∧ z7041.toInt ≤ 6 := rz7041
  refine lv_if_ne (tgt := 11) hx hb dX7_wayTo_6 (by decide) (fun c7042 => ?_) (fun c7042 => ?_)
  · have w7043 := cv_ne (rfl : z7041.toInt = z7041.toInt) (by decide : (0 : Int32).toInt = 0) c7042
    refine lv_iload_n hx hb dX7_wayTo_11 rfl (lv_at hl 2 rfl) ?_
    refine lv_iconst (v := 1) hx hb dX7_wayTo_12 (by decide) ?_
    refine lv_icmp_ge (tgt := 20) hx hb dX7_wayTo_13 (by decide) (fun c7044 => ?_) (fun c7044 => ?_)
    · have w7045 := cv_le (by decide : (1 : Int32).toInt = 1) (rfl : p2.toInt = p2.toInt) c7044
      refine lv_iload_n hx hb dX7_wayTo_20 rfl (lv_at hl 2 rfl) ?_
      exact K21 p2 _ _ _ (by omega) hT  (lv_sub hl [0, 1, 2] rfl)
    · have w7046 := cv_nle (by decide : (1 : Int32).toInt = 1) (rfl : p2.toInt = p2.toInt) c7044
      refine lv_iconst (v := 1) hx hb dX7_wayTo_16 (by decide) ?_
      refine lv_goto (tgt := 21) hx hb dX7_wayTo_17 (by decide) ?_
      exact K21 1 _ _ _ (by decide) hT  (lv_sub hl [0, 1, 2] rfl)
  · have w7047 := cv_eq (rfl : z7041.toInt = z7041.toInt) (by decide : (0 : Int32).toInt = 0) c7042
    refine lv_iconst (v := 0) hx hb dX7_wayTo_9 (by decide) ?_
    exact t_iret hQ X hT (⟨rfl, rg_all _⟩) (Nat.le_of_ble_eq_true rfl) (Nat.le_of_ble_eq_true rfl) dX7_wayTo_10
set_option maxHeartbeats 4000000 in
set_option maxRecDepth 100000 in
theorem kt36_X7_draw (l : Launch) (G : KG) (tag : Nat → Nat) (L : List Nat) (Fo : Nat → va_E) (ho : okT G ttC tag L Fo) (p0 : Nat) (m0 : p0 ∈ L) (g0 : tag p0 = 19) : TMi l yX7_draw cX7_draw 1 (some .int) { frames := 0, cells := 0, slots := 0, locals := 0 } G ttC tag L Fo [.ref p0] (fun r F1 => ((-2147483648) ≤ r.toInt ∧ r.toInt ≤ 2147483647) ∧ (∀ b j : Nat, (tag b ≠ 19 ∨ j ≠ 1) → fld F1 b j = fld Fo b j)) := by
  refine t_bodyi (y := yX7_draw) (cd := cX7_draw) (mL := 1) (rt := (some .int)) (rm := { frames := 0, cells := 0, slots := 0, locals := 0 }) (av := [.ref p0]) (by decide) (Nat.le_of_ble_eq_true rfl) ho ?_
  intro p e s m args below meth c ls A Q hQ X hT hl
  have hx := X.1.1
  have hb := X.1.2.1
  have hl : lv_has ls 1 [(0, .ref p0)] := hl
  obtain ⟨F, hFo⟩ : ∃ F : Nat → va_E, F = Fo := ⟨_, rfl⟩
  rw [← hFo] at hT
  have hfr : ∀ b j : Nat, (tag b ≠ 19 ∨ j ≠ 1) → fld F b j = fld Fo b j := by
    rw [hFo]
    intros
    rfl
  refine lv_aload_n hx hb dX7_draw_0 rfl (lv_at hl 0 rfl) ?_
  refine lv_bipush (v := 75) hx hb dX7_draw_1 (by decide) ?_
  refine lv_aload_n hx hb dX7_draw_3 rfl (lv_at hl 0 rfl) ?_
  refine t_get (C := RX7) (T := TX7) (N := 7) X hT m0 g0 rfl rfl 1 (by decide) qw_188 inlX7 rfl dX7_draw_4 (fun v7125 hv7125 ov7125 => ?_)
  obtain ⟨z7126, rfl, rz7126⟩ := okV_i ov7125
  refine lv_imul hx hb dX7_draw_7 ?_
  refine lv_topi (fun z7127 ez7127 => ?_)
  have rz7127 := rg_all z7127
  refine lv_bipush (v := 74) hx hb dX7_draw_8 (by decide) ?_
  refine lv_iadd hx hb dX7_draw_10 ?_
  refine lv_topi (fun z7128 ez7128 => ?_)
  have rz7128 := rg_all z7128
  refine m_ldc X qw_1115 dX7_draw_11 ?_
  refine lv_irem hx hb dX7_draw_13 (by decide) ?_
  refine lv_topi (fun z7129 ez7129 => ?_)
  have rz7129 := rg_all z7129
  refine t_put (C := RX7) (T := TX7) (N := 7) (v := .int z7129) X hT m0 g0 rfl tyX7 tyX7_ok nmX7 rfl 1 (by decide) qw_188 inlX7 rfl (by first | rfl | decide) (by first | rfl | decide) rfl (⟨_, rfl, (by omega), (by omega)⟩) dX7_draw_14 (fun F H locs hT v7130 h1v7130 h2v7130 => ?_)
  have hfr : ∀ b j : Nat, (tag b ≠ 19 ∨ j ≠ 1) → fld F b j = fld Fo b j := fun b j n19_1 => (h1v7130 b j (fr_ne g0 n19_1)).trans (hfr b j n19_1)
  refine lv_aload_n hx hb dX7_draw_17 rfl (lv_at hl 0 rfl) ?_
  refine t_get (C := RX7) (T := TX7) (N := 7) X hT m0 g0 rfl rfl 1 (by decide) qw_188 inlX7 rfl dX7_draw_18 (fun v7131 hv7131 ov7131 => ?_)
  obtain rfl : v7131 = .int z7129 := hv7131.symm.trans v7130
  exact t_iret hQ X hT (⟨rg_all _, hfr⟩) (Nat.le_of_ble_eq_true rfl) (Nat.le_of_ble_eq_true rfl) dX7_draw_21
set_option maxHeartbeats 4000000 in
set_option maxRecDepth 100000 in
theorem kt37_X1_apart (l : Launch) (G : KG) (tag : Nat → Nat) (L : List Nat) (F : Nat → va_E) (ho : okT G ttC tag L F) (p0 : Nat) (p1 : Int32) (p2 : Int32) (p3 : Int32) (m0 : p0 ∈ L) (g0 : tag p0 = 18) (h1 : 0 ≤ p1.toInt ∧ p1.toInt ≤ 3) : TMi l yX1_apart cX1_apart 6 (some .int) { frames := 0, cells := 0, slots := 0, locals := 0 } G ttC tag L F [.ref p0, .int p1, .int p2, .int p3] (fun r F1 => F1 = F ∧ ((-2147483648) ≤ r.toInt ∧ r.toInt ≤ 2147483647)) := by
  refine t_bodyi (y := yX1_apart) (cd := cX1_apart) (mL := 6) (rt := (some .int)) (rm := { frames := 0, cells := 0, slots := 0, locals := 0 }) (av := [.ref p0, .int p1, .int p2, .int p3]) (by decide) (Nat.le_of_ble_eq_true rfl) ho ?_
  intro p e s m args below meth c ls A Q hQ X hT hl
  have hx := X.1.1
  have hb := X.1.2.1
  have hl : lv_has ls 6 [(0, .ref p0), (1, .int p1), (2, .int p2), (3, .int p3)] := hl
  have rp2 := rg_all p2
  have rp3 := rg_all p3
  have K60 : ∀ (z7471 : Int32) (z7472 : Int32) (H : Heap) (locs : List Loc) (ls : Array Slot), TH G ttC A s tag L F H locs → lv_has ls 6 [(0, .ref p0), (1, .int p1), (2, .int p2), (3, .int p3), (4, .int z7471)] → W p l e { frames := 0, cells := 0, slots := 0, locals := 0 } s m args below meth c H locs 0 0 Q (F0 m 60 ls [.int z7472]) := by
    intro z7471 z7472 H locs ls hT hl
    have rz7471 := rg_all z7471
    have rz7472 := rg_all z7472
    refine lv_istore (lv' := [(5, .int z7472), (0, .ref p0), (1, .int p1), (2, .int p2), (3, .int p3), (4, .int z7471)]) hx hb dX1_apart_60 hl (by decide) rfl (fun ls hl => ?_)
    refine lv_iload hx hb dX1_apart_62 (lv_at hl 5 rfl) ?_
    refine lv_iload hx hb dX1_apart_64 (lv_at hl 0 rfl) ?_
    refine lv_icmp_ge (tgt := 74) hx hb dX1_apart_66 (by decide) (fun c7473 => ?_) (fun c7473 => ?_)
    · have w7474 := cv_le (rfl : z7472.toInt = z7472.toInt) (rfl : z7471.toInt = z7471.toInt) c7473
      refine lv_iload hx hb dX1_apart_74 (lv_at hl 5 rfl) ?_
      exact t_iret hQ X hT (⟨rfl, rg_all _⟩) (Nat.le_of_ble_eq_true rfl) (Nat.le_of_ble_eq_true rfl) dX1_apart_76
    · have w7475 := cv_nle (rfl : z7472.toInt = z7472.toInt) (rfl : z7471.toInt = z7471.toInt) c7473
      refine lv_iload hx hb dX1_apart_69 (lv_at hl 0 rfl) ?_
      refine lv_goto (tgt := 76) hx hb dX1_apart_71 (by decide) ?_
      exact t_iret hQ X hT (⟨rfl, rg_all _⟩) (Nat.le_of_ble_eq_true rfl) (Nat.le_of_ble_eq_true rfl) dX1_apart_76
  have K29 : ∀ (z7476 : Int32) (H : Heap) (locs : List Loc) (ls : Array Slot), TH G ttC A s tag L F H locs → lv_has ls 6 [(0, .ref p0), (1, .int p1), (2, .int p2), (3, .int p3)] → W p l e { frames := 0, cells := 0, slots := 0, locals := 0 } s m args below meth c H locs 0 0 Q (F0 m 29 ls [.int z7476]) := by
    intro z7476 H locs ls hT hl
    have rz7476 := rg_all z7476
    refine lv_istore (lv' := [(4, .int z7476), (0, .ref p0), (1, .int p1), (2, .int p2), (3, .int p3)]) hx hb dX1_apart_29 hl (by decide) rfl (fun ls hl => ?_)
    refine lv_iload_n hx hb dX1_apart_31 rfl (lv_at hl 4 rfl) ?_
    refine lv_aload_n hx hb dX1_apart_32 rfl (lv_at hl 1 rfl) ?_
    refine t_get (C := RX1) (T := TX1) (N := 20) X hT m0 g0 rfl rfl 12 (by decide) qw_53 inlX1 rfl dX1_apart_33 (fun v7477 hv7477 ov7477 => ?_)
    obtain ⟨b7478, rfl, mb7478, gb7478⟩ := okV_r ov7477
    have gb7478 : tag b7478 = 4 := tg_of gb7478
    refine lv_iload_n hx hb dX1_apart_36 rfl (lv_at hl 2 rfl) ?_
    refine t_ild X hT mb7478 gb7478 rfl (by omega) dX1_apart_37 (fun z7479 vz7479 rz7479 => ?_)
    have rz7479 : 0 ≤ z7479.toInt ∧ z7479.toInt ≤ 11 := rz7479
    refine lv_icmp_ge (tgt := 52) hx hb dX1_apart_38 (by decide) (fun c7480 => ?_) (fun c7480 => ?_)
    · have w7481 := cv_le (rfl : z7479.toInt = z7479.toInt) (rfl : p3.toInt = p3.toInt) c7480
      refine lv_iload_n hx hb dX1_apart_52 rfl (lv_at hl 4 rfl) ?_
      refine lv_aload_n hx hb dX1_apart_53 rfl (lv_at hl 1 rfl) ?_
      refine t_get (C := RX1) (T := TX1) (N := 20) X hT m0 g0 rfl rfl 12 (by decide) qw_53 inlX1 rfl dX1_apart_54 (fun v7482 hv7482 ov7482 => ?_)
      obtain rfl : v7482 = .ref b7478 := hv7482.symm.trans hv7477
      refine lv_iload_n hx hb dX1_apart_57 rfl (lv_at hl 2 rfl) ?_
      refine t_ild X hT mb7478 gb7478 rfl (by omega) dX1_apart_58 (fun z7483 vz7483 rz7483 => ?_)
      obtain rfl : z7479 = z7483 := vz7479.symm.trans vz7483
      refine lv_isub hx hb dX1_apart_59 ?_
      refine lv_topi (fun z7484 ez7484 => ?_)
      have hz7484 : z7484.toInt = p3.toInt - z7479.toInt := ar_sub ez7484 (rfl : p3.toInt = p3.toInt) (rfl : z7479.toInt = z7479.toInt) (by omega) (by omega)
      have rz7484 : (-11) ≤ z7484.toInt ∧ z7484.toInt ≤ 2147483647 := by omega
      exact K60 z7476 z7484 _ _ _  hT  (lv_sub hl [1, 2, 3, 4, 0] rfl)
    · have w7485 := cv_nle (rfl : z7479.toInt = z7479.toInt) (rfl : p3.toInt = p3.toInt) c7480
      refine lv_aload_n hx hb dX1_apart_41 rfl (lv_at hl 1 rfl) ?_
      refine t_get (C := RX1) (T := TX1) (N := 20) X hT m0 g0 rfl rfl 12 (by decide) qw_53 inlX1 rfl dX1_apart_42 (fun v7486 hv7486 ov7486 => ?_)
      obtain rfl : v7486 = .ref b7478 := hv7486.symm.trans hv7477
      refine lv_iload_n hx hb dX1_apart_45 rfl (lv_at hl 2 rfl) ?_
      refine t_ild X hT mb7478 gb7478 rfl (by omega) dX1_apart_46 (fun z7487 vz7487 rz7487 => ?_)
      obtain rfl : z7479 = z7487 := vz7479.symm.trans vz7487
      refine lv_iload_n hx hb dX1_apart_47 rfl (lv_at hl 4 rfl) ?_
      refine lv_isub hx hb dX1_apart_48 ?_
      refine lv_topi (fun z7488 ez7488 => ?_)
      have rz7488 := rg_all z7488
      refine lv_goto (tgt := 60) hx hb dX1_apart_49 (by decide) ?_
      exact K60 z7476 z7488 _ _ _  hT  (lv_sub hl [1, 2, 3, 4, 0] rfl)
  refine lv_iload_n hx hb dX1_apart_0 rfl (lv_at hl 2 rfl) ?_
  refine lv_aload_n hx hb dX1_apart_1 rfl (lv_at hl 0 rfl) ?_
  refine t_get (C := RX1) (T := TX1) (N := 20) X hT m0 g0 rfl rfl 11 (by decide) qw_52 inlX1 rfl dX1_apart_2 (fun v7489 hv7489 ov7489 => ?_)
  obtain ⟨b7490, rfl, mb7490, gb7490⟩ := okV_r ov7489
  have gb7490 : tag b7490 = 4 := tg_of gb7490
  refine lv_iload_n hx hb dX1_apart_5 rfl (lv_at hl 1 rfl) ?_
  refine t_ild X hT mb7490 gb7490 rfl (by omega) dX1_apart_6 (fun z7491 vz7491 rz7491 => ?_)
  have rz7491 : 0 ≤ z7491.toInt ∧ z7491.toInt ≤ 11 := rz7491
  refine lv_icmp_ge (tgt := 21) hx hb dX1_apart_7 (by decide) (fun c7492 => ?_) (fun c7492 => ?_)
  · have w7493 := cv_le (rfl : z7491.toInt = z7491.toInt) (rfl : p2.toInt = p2.toInt) c7492
    refine lv_iload_n hx hb dX1_apart_21 rfl (lv_at hl 2 rfl) ?_
    refine lv_aload_n hx hb dX1_apart_22 rfl (lv_at hl 0 rfl) ?_
    refine t_get (C := RX1) (T := TX1) (N := 20) X hT m0 g0 rfl rfl 11 (by decide) qw_52 inlX1 rfl dX1_apart_23 (fun v7494 hv7494 ov7494 => ?_)
    obtain rfl : v7494 = .ref b7490 := hv7494.symm.trans hv7489
    refine lv_iload_n hx hb dX1_apart_26 rfl (lv_at hl 1 rfl) ?_
    refine t_ild X hT mb7490 gb7490 rfl (by omega) dX1_apart_27 (fun z7495 vz7495 rz7495 => ?_)
    obtain rfl : z7491 = z7495 := vz7491.symm.trans vz7495
    refine lv_isub hx hb dX1_apart_28 ?_
    refine lv_topi (fun z7496 ez7496 => ?_)
    have hz7496 : z7496.toInt = p2.toInt - z7491.toInt := ar_sub ez7496 (rfl : p2.toInt = p2.toInt) (rfl : z7491.toInt = z7491.toInt) (by omega) (by omega)
    have rz7496 : (-11) ≤ z7496.toInt ∧ z7496.toInt ≤ 2147483647 := by omega
    exact K29 z7496 _ _ _  hT  (lv_sub hl [0, 1, 2, 3] rfl)
  · have w7497 := cv_nle (rfl : z7491.toInt = z7491.toInt) (rfl : p2.toInt = p2.toInt) c7492
    refine lv_aload_n hx hb dX1_apart_10 rfl (lv_at hl 0 rfl) ?_
    refine t_get (C := RX1) (T := TX1) (N := 20) X hT m0 g0 rfl rfl 11 (by decide) qw_52 inlX1 rfl dX1_apart_11 (fun v7498 hv7498 ov7498 => ?_)
    obtain rfl : v7498 = .ref b7490 := hv7498.symm.trans hv7489
    refine lv_iload_n hx hb dX1_apart_14 rfl (lv_at hl 1 rfl) ?_
    refine t_ild X hT mb7490 gb7490 rfl (by omega) dX1_apart_15 (fun z7499 vz7499 rz7499 => ?_)
    obtain rfl : z7491 = z7499 := vz7491.symm.trans vz7499
    refine lv_iload_n hx hb dX1_apart_16 rfl (lv_at hl 2 rfl) ?_
    refine lv_isub hx hb dX1_apart_17 ?_
    refine lv_topi (fun z7500 ez7500 => ?_)
    have rz7500 := rg_all z7500
    refine lv_goto (tgt := 29) hx hb dX1_apart_18 (by decide) ?_
    exact K29 z7500 _ _ _  hT  (lv_sub hl [0, 1, 2, 3] rfl)
