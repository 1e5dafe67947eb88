set_option maxHeartbeats 4000000 in
set_option maxRecDepth 100000 in
theorem kt81_X10_pass (l : Launch) (G : KG) (tag : Nat → Nat) (L : List Nat) (Fo : Nat → va_E) (ho : okT G ttC tag L Fo) (p0 : Nat) (p1 : Nat) (p2 : Nat) (m0 : p0 ∈ L) (g0 : tag p0 = 18) (m1 : p1 ∈ L) (g1 : tag p1 = 19) (m2 : p2 ∈ L) (g2 : tag p2 = 10) : TMv l yX10_pass cX10_pass 5 { frames := 5, cells := 0, slots := 0, locals := 133 } G ttC tag L Fo [.ref p0, .ref p1, .ref p2] (fun F1 => ∀ b j : Nat, (tag b ≠ 19 ∨ j ≠ 0) → (tag b ≠ 19 ∨ j ≠ 1) → fld F1 b j = fld Fo b j) := by
  refine t_bodyv (y := yX10_pass) (cd := cX10_pass) (mL := 5) (rm := { frames := 5, cells := 0, slots := 0, locals := 133 }) (av := [.ref p0, .ref p1, .ref p2]) (by decide) (Nat.le_of_ble_eq_true rfl) ho ?_
  intro p e s m args below meth c ls A Q hQ X hT hl
  have hx := X.1.1
  have hb := X.1.2.1
  have hl : lv_has ls 5 [(0, .ref p0), (1, .ref p1), (2, .ref p2)] := hl
  obtain ⟨F, hFo⟩ : ∃ F : Nat → va_E, F = Fo := ⟨_, rfl⟩
  rw [← hFo] at hT
  have hfr : ∀ b j : Nat, (tag b ≠ 19 ∨ j ≠ 0) → (tag b ≠ 19 ∨ j ≠ 1) → fld F b j = fld Fo b j := by
    rw [hFo]
    intros
    rfl
  have K51 : ∀ (z27027 : Int32) (z27028 : Int32) (F : Nat → va_E) (H : Heap) (locs : List Loc) (ls : Array Slot), (0 ≤ z27027.toInt ∧ z27027.toInt ≤ 4) → (0 ≤ z27028.toInt ∧ z27028.toInt ≤ 4) → TH G ttC A s tag L F H locs → (∀ b j : Nat, (tag b ≠ 19 ∨ j ≠ 0) → (tag b ≠ 19 ∨ j ≠ 1) → fld F b j = fld Fo b j) → fld F p0 10 = .int z27028 → lv_has ls 5 [(0, .ref p0), (1, .ref p1), (2, .ref p2), (3, .int z27027)] → W p l e { frames := 5, cells := 0, slots := 0, locals := 133 } s m args below meth c H locs 0 0 Q (F0 m 51 ls []) := by
    intro z27027 z27028 F H locs ls rz27027 rz27028 hT hfr qz27028 hl
    refine lv_aload_n hx hb dX10_pass_51 rfl (lv_at hl 1 rfl) ?_
    refine lv_dup hx hb dX10_pass_52 rfl ?_
    refine t_get (C := RX7) (T := TX7) (N := 7) X hT m1 g1 rfl rfl 0 (by decide) qw_1102 inlX7 rfl dX10_pass_53 (fun v27029 hv27029 ov27029 => ?_)
    obtain ⟨z27030, rfl, rz27030⟩ := okV_i ov27029
    refine lv_iconst (v := 1) hx hb dX10_pass_56 (by decide) ?_
    refine lv_iadd hx hb dX10_pass_57 ?_
    refine lv_topi (fun z27031 ez27031 => ?_)
    have rz27031 := rg_all z27031
    refine t_put (C := RX7) (T := TX7) (N := 7) (v := .int z27031) X hT m1 g1 rfl tyX7 tyX7_ok nmX7 rfl 0 (by decide) qw_1102 inlX7 rfl (by first | rfl | decide) (by first | rfl | decide) rfl (⟨_, rfl, (by omega), (by omega)⟩) dX10_pass_58 (fun F H locs hT v27032 h1v27032 h2v27032 => ?_)
    have qz27028 := (h1v27032 _ _ (Or.inr (by decide))).trans qz27028
    have hfr : ∀ b j : Nat, (tag b ≠ 19 ∨ j ≠ 0) → (tag b ≠ 19 ∨ j ≠ 1) → fld F b j = fld Fo b j := fun b j n19_0 n19_1 => (h1v27032 b j (fr_ne g1 n19_0)).trans (hfr b j n19_0 n19_1)
    exact t_vret hQ X hT hfr (Nat.le_of_ble_eq_true rfl) (Nat.le_of_ble_eq_true rfl) dX10_pass_61
  have K2 : ∀ (n : Nat) (z27033 : Int32) (F : Nat → va_E) (H : Heap) (locs : List Loc) (ls : Array Slot), (4 - z27033.toInt < (n : Int)) → (0 ≤ z27033.toInt ∧ z27033.toInt ≤ 4) → TH G ttC A s tag L F H locs → (∀ b j : Nat, (tag b ≠ 19 ∨ j ≠ 0) → (tag b ≠ 19 ∨ j ≠ 1) → fld F b j = fld Fo b j) → lv_has ls 5 [(0, .ref p0), (1, .ref p1), (2, .ref p2), (3, .int z27033)] → W p l e { frames := 5, cells := 0, slots := 0, locals := 133 } s m args below meth c H locs 0 0 Q (F0 m 2 ls []) := by
    intro n
    induction n with
    | zero =>
      intro z27033 F H locs ls hn rz27033 hT hfr hl
      exfalso
      omega
    | succ n ih2 =>
      intro z27033 F H locs ls hn rz27033 hT hfr hl
      have K45 : ∀ (z27035 : Int32) (z27036 : Int32) (F : Nat → va_E) (H : Heap) (locs : List Loc) (ls : Array Slot), (0 ≤ z27035.toInt ∧ z27035.toInt ≤ 3) → (1 ≤ z27036.toInt ∧ z27036.toInt ≤ 4) → (0 ≤ z27033.toInt ∧ z27033.toInt ≤ 3) → TH G ttC A s tag L F H locs → (∀ b j : Nat, (tag b ≠ 19 ∨ j ≠ 0) → (tag b ≠ 19 ∨ j ≠ 1) → fld F b j = fld Fo b j) → fld F p0 10 = .int z27036 → lv_has ls 5 [(0, .ref p0), (1, .ref p1), (2, .ref p2), (3, .int z27033), (4, .int z27035)] → W p l e { frames := 5, cells := 0, slots := 0, locals := 133 } s m args below meth c H locs 0 0 Q (F0 m 45 ls []) := by
        intro z27035 z27036 F H locs ls rz27035 rz27036 r9s27034 hT hfr qz27036 hl
        obtain ⟨z27037, ez27037⟩ : ∃ y : Int32, y = z27033 + 1 := ⟨_, rfl⟩
        have hz27037 : z27037.toInt = z27033.toInt + 1 := ar_add ez27037 rfl (by decide : (1 : Int32).toInt = 1) (by omega) (by omega)
        refine lv_iinc (v := z27037) (lv' := [(3, .int z27037), (0, .ref p0), (1, .ref p1), (2, .ref p2), (4, .int z27035)]) hx hb dX10_pass_45 hl (k := 3) rfl (by rw [ez27037]; rfl) (by decide) rfl (fun ls hl => ?_)
        refine lv_goto (tgt := 2) hx hb dX10_pass_48 (by decide) ?_
        exact ih2 z27037 _ _ _ _ (by omega) (by omega) hT hfr  (lv_sub hl [1, 2, 3, 0] rfl)
      refine lv_iload_n hx hb dX10_pass_2 rfl (lv_at hl 3 rfl) ?_
      refine lv_aload_n hx hb dX10_pass_3 rfl (lv_at hl 0 rfl) ?_
      refine t_get (C := RX1) (T := TX1) (N := 20) X hT m0 g0 rfl rfl 10 (by decide) qw_1100 inlX1 rfl dX10_pass_4 (fun v27038 hv27038 ov27038 => ?_)
      obtain ⟨z27039, rfl, rz27039⟩ := okV_i ov27038
      refine lv_icmp_ge (tgt := 51) hx hb dX10_pass_7 (by decide) (fun c27040 => ?_) (fun c27040 => ?_)
      · have w27041 := cv_le (rfl : z27039.toInt = z27039.toInt) (rfl : z27033.toInt = z27033.toInt) c27040
        exact K51 z27033 z27039 _ _ _ _ (by omega) (by omega) hT hfr hv27038 (lv_sub hl [0, 1, 2, 3] rfl)
      · have w27042 := cv_nle (rfl : z27039.toInt = z27039.toInt) (rfl : z27033.toInt = z27033.toInt) c27040
        refine lv_iload_n hx hb dX10_pass_10 rfl (lv_at hl 3 rfl) ?_
        refine lv_aload_n hx hb dX10_pass_11 rfl (lv_at hl 2 rfl) ?_
        refine t_alen X hT m2 g2 rfl (by decide) dX10_pass_12 ?_
        refine lv_topi (fun z27043 ez27043 => ?_)
        obtain rfl : z27043 = 4 := ez27043.trans (by rfl)
        refine lv_icmp_ge (tgt := 51) hx hb dX10_pass_13 (by decide) (fun c27044 => ?_) (fun c27044 => ?_)
        · have w27045 := cv_le (by decide : (4 : Int32).toInt = 4) (rfl : z27033.toInt = z27033.toInt) c27044
          exfalso
          omega
        · have w27046 := cv_nle (by decide : (4 : Int32).toInt = 4) (rfl : z27033.toInt = z27033.toInt) c27044
          refine lv_aload_n hx hb dX10_pass_16 rfl (lv_at hl 2 rfl) ?_
          refine lv_iload_n hx hb dX10_pass_17 rfl (lv_at hl 3 rfl) ?_
          refine t_ild X hT m2 g2 rfl (by omega) dX10_pass_18 (fun z27047 vz27047 rz27047 => ?_)
          have rz27047 : 0 ≤ z27047.toInt ∧ z27047.toInt ≤ 3 := rz27047
          refine lv_istore (lv' := [(4, .int z27047), (0, .ref p0), (1, .ref p1), (2, .ref p2), (3, .int z27033)]) hx hb dX10_pass_19 hl (by decide) rfl (fun ls hl => ?_)
          refine lv_aload_n hx hb dX10_pass_21 rfl (lv_at hl 2 rfl) ?_
          refine t_get (C := RX7) (T := TX7) (N := 7) X hT m1 g1 rfl rfl 3 (by decide) qw_1101 inlX7 rfl dX10_pass_22 (fun v27048 hv27048 ov27048 => ?_)
          obtain ⟨b27049, rfl, mb27049, gb27049⟩ := okV_r ov27048
          have gb27049 : tag b27049 = 5 := tg_of gb27049
          refine lv_iload hx hb dX10_pass_25 (lv_at hl 0 rfl) ?_
          refine t_ild X hT mb27049 gb27049 rfl (by omega) dX10_pass_27 (fun z27050 vz27050 rz27050 => ?_)
          have rz27050 : (-2147483648) ≤ z27050.toInt ∧ z27050.toInt ≤ 2147483647 := rz27050
          refine lv_if_le (tgt := 45) hx hb dX10_pass_28 (by decide) (fun c27051 => ?_) (fun c27051 => ?_)
          · have w27052 := cv_le (rfl : z27050.toInt = z27050.toInt) (by decide : (0 : Int32).toInt = 0) c27051
            exact K45 z27047 z27039 _ _ _ _ (by omega) (by omega) (by omega) hT hfr hv27038 (lv_sub hl [1, 2, 3, 4, 0] rfl)
          · have w27053 := cv_nle (rfl : z27050.toInt = z27050.toInt) (by decide : (0 : Int32).toInt = 0) c27051
            refine lv_aload_n hx hb dX10_pass_31 rfl (lv_at hl 1 rfl) ?_
            refine lv_aload_n hx hb dX10_pass_32 rfl (lv_at hl 2 rfl) ?_
            refine lv_iload hx hb dX10_pass_33 (lv_at hl 0 rfl) ?_
            refine t_cSv (n := 3) (As := [.ref p0, .ref p1, .int z27047]) (rest := []) X hT (kt79_X10_liveOn l G tag L F hT.2.2.2 p0 p1 z27047 m0 g0 m1 g1 (by omega)) qw_1103 qw_1104 qw_32 qw_1105 ⟨by decide +kernel, by decide +kernel, by decide +kernel⟩ ⟨Nat.le_of_ble_eq_true rfl, Nat.le_of_ble_eq_true rfl⟩ hl rfl rfl (Nat.le_of_ble_eq_true rfl) dX10_pass_35 ⟨Nat.le_of_ble_eq_true rfl, Nat.le_of_ble_eq_true rfl⟩ (fun F H locs hT hz27054 => ?_)
            have yz27054 := hz27054
            have hv27038 := (yz27054 _ 10 (Or.inr (by decide))).trans hv27038
            have hv27048 := (yz27054 _ 3 (Or.inr (by decide))).trans hv27048
            have hfr : ∀ b j : Nat, (tag b ≠ 19 ∨ j ≠ 0) → (tag b ≠ 19 ∨ j ≠ 1) → fld F b j = fld Fo b j := fun b j n19_0 n19_1 => (yz27054 b j n19_1).trans (hfr b j n19_0 n19_1)
            refine lv_aload_n hx hb dX10_pass_38 rfl (lv_at hl 1 rfl) ?_
            refine lv_aload_n hx hb dX10_pass_39 rfl (lv_at hl 2 rfl) ?_
            refine lv_iload hx hb dX10_pass_40 (lv_at hl 0 rfl) ?_
            refine t_cSv (n := 3) (As := [.ref p0, .ref p1, .int z27047]) (rest := []) X hT (kt80_X10_grow l G tag L F hT.2.2.2 p0 p1 z27047 m0 g0 m1 g1 (by omega)) qw_1128 qw_1129 qw_32 qw_1130 ⟨by decide +kernel, by decide +kernel, by decide +kernel⟩ ⟨Nat.le_of_ble_eq_true rfl, Nat.le_of_ble_eq_true rfl⟩ hl rfl rfl (Nat.le_of_ble_eq_true rfl) dX10_pass_42 ⟨Nat.le_of_ble_eq_true rfl, Nat.le_of_ble_eq_true rfl⟩ (fun F H locs hT hz27055 => ?_)
            have yz27055 := hz27055
            have hv27038 := (yz27055 _ 10 ).trans hv27038
            have hv27048 := (yz27055 _ 3 ).trans hv27048
            have hfr : ∀ b j : Nat, (tag b ≠ 19 ∨ j ≠ 0) → (tag b ≠ 19 ∨ j ≠ 1) → fld F b j = fld Fo b j := fun b j n19_0 n19_1 => (yz27055 b j ).trans (hfr b j n19_0 n19_1)
            exact K45 z27047 z27039 _ _ _ _ (by omega) (by omega) (by omega) hT hfr hv27038 (lv_sub hl [1, 2, 3, 4, 0] rfl)
  refine lv_iconst (v := 0) hx hb dX10_pass_0 (by decide) ?_
  refine lv_istore_n (lv' := [(3, .int 0), (0, .ref p0), (1, .ref p1), (2, .ref p2)]) hx hb dX10_pass_1 rfl hl (by decide) rfl (fun ls hl => ?_)
  have kk27056 : (0 : Int32).toInt = 0 := by decide
  exact K2 5 0 _ _ _ _ (by omega) (by decide) hT hfr  (lv_sub hl [1, 2, 3, 0] rfl)
set_option maxHeartbeats 4000000 in
set_option maxRecDepth 100000 in
theorem kt82_X5_swap (l : Launch) (G : KG) (tag : Nat → Nat) (L : List Nat) (Fo : Nat → va_E) (ho : okT G ttC tag L Fo) (p0 : Nat) (p1 : Int32) (p2 : Int32) (m0 : p0 ∈ L) (g0 : tag p0 = 10) (h1 : 0 ≤ p1.toInt ∧ p1.toInt ≤ 3) (h2 : 0 ≤ p2.toInt ∧ p2.toInt ≤ 3) : TMv l yX5_swap cX5_swap 4 { frames := 0, cells := 0, slots := 0, locals := 0 } G ttC tag L Fo [.ref p0, .int p1, .int p2] (fun F1 => ∀ b j : Nat, fld F1 b j = fld Fo b j) := by
  refine t_bodyv (y := yX5_swap) (cd := cX5_swap) (mL := 4) (rm := { frames := 0, cells := 0, slots := 0, locals := 0 }) (av := [.ref p0, .int p1, .int p2]) (by decide) (Nat.le_of_ble_eq_true rfl) ho ?_
  intro p e s m args below meth c ls A Q hQ X hT hl
  have hx := X.1.1
  have hb := X.1.2.1
  have hl : lv_has ls 4 [(0, .ref p0), (1, .int p1), (2, .int p2)] := hl
  obtain ⟨F, hFo⟩ : ∃ F : Nat → va_E, F = Fo := ⟨_, rfl⟩
  rw [← hFo] at hT
  have hfr : ∀ b j : Nat, fld F b j = fld Fo b j := by
    rw [hFo]
    intros
    rfl
  refine lv_aload_n hx hb dX5_swap_0 rfl (lv_at hl 0 rfl) ?_
  refine lv_iload_n hx hb dX5_swap_1 rfl (lv_at hl 1 rfl) ?_
  refine t_ild X hT m0 g0 rfl (by omega) dX5_swap_2 (fun z27225 vz27225 rz27225 => ?_)
  have rz27225 : 0 ≤ z27225.toInt ∧ z27225.toInt ≤ 3 := rz27225
  refine lv_istore_n (lv' := [(3, .int z27225), (0, .ref p0), (1, .int p1), (2, .int p2)]) hx hb dX5_swap_3 rfl hl (by decide) rfl (fun ls hl => ?_)
  refine lv_aload_n hx hb dX5_swap_4 rfl (lv_at hl 1 rfl) ?_
  refine lv_iload_n hx hb dX5_swap_5 rfl (lv_at hl 2 rfl) ?_
  refine lv_aload_n hx hb dX5_swap_6 rfl (lv_at hl 1 rfl) ?_
  refine lv_iload_n hx hb dX5_swap_7 rfl (lv_at hl 3 rfl) ?_
  refine t_ild X hT m0 g0 rfl (by omega) dX5_swap_8 (fun z27226 vz27226 rz27226 => ?_)
  have rz27226 : 0 ≤ z27226.toInt ∧ z27226.toInt ≤ 3 := rz27226
  refine t_ist X hT m0 g0 rfl (by omega) (show 0 ≤ (z27226 : Int32).toInt ∧ (z27226 : Int32).toInt ≤ 3 from (by omega)) dX5_swap_9 (fun F H locs hT v27227 h1v27227 h2v27227 => ?_)
  have hfr : ∀ b j : Nat, fld F b j = fld Fo b j := fun b j  => (h2v27227 b j).trans (hfr b j )
  refine lv_aload_n hx hb dX5_swap_10 rfl (lv_at hl 1 rfl) ?_
  refine lv_iload_n hx hb dX5_swap_11 rfl (lv_at hl 3 rfl) ?_
  refine lv_iload_n hx hb dX5_swap_12 rfl (lv_at hl 0 rfl) ?_
  refine t_ist X hT m0 g0 rfl (by omega) (show 0 ≤ (z27225 : Int32).toInt ∧ (z27225 : Int32).toInt ≤ 3 from (by omega)) dX5_swap_13 (fun F H locs hT v27228 h1v27228 h2v27228 => ?_)
  have hfr : ∀ b j : Nat, fld F b j = fld Fo b j := fun b j  => (h2v27228 b j).trans (hfr b j )
  exact t_vret hQ X hT hfr (Nat.le_of_ble_eq_true rfl) (Nat.le_of_ble_eq_true rfl) dX5_swap_14
set_option maxHeartbeats 4000000 in
set_option maxRecDepth 100000 in
theorem kt83_X5_advance (l : Launch) (G : KG) (tag : Nat → Nat) (L : List Nat) (Fo : Nat → va_E) (ho : okT G ttC tag L Fo) (p0 : Nat) (p1 : Int32) (m0 : p0 ∈ L) (g0 : tag p0 = 10) (h1 : 2 ≤ p1.toInt ∧ p1.toInt ≤ 4) : TMv l yX5_advance cX5_advance 6 { frames := 1, cells := 0, slots := 0, locals := 23 } G ttC tag L Fo [.ref p0, .int p1] (fun F1 => ∀ b j : Nat, fld F1 b j = fld Fo b j) := by
  refine t_bodyv (y := yX5_advance) (cd := cX5_advance) (mL := 6) (rm := { frames := 1, cells := 0, slots := 0, locals := 23 }) (av := [.ref p0, .int p1]) (by decide) (Nat.le_of_ble_eq_true rfl) ho ?_
  intro p e s m args below meth c ls A Q hQ X hT hl
  have hx := X.1.1
  have hb := X.1.2.1
  have hl : lv_has ls 6 [(0, .ref p0), (1, .int p1)] := hl
  obtain ⟨F, hFo⟩ : ∃ F : Nat → va_E, F = Fo := ⟨_, rfl⟩
  rw [← hFo] at hT
  have hfr : ∀ b j : Nat, fld F b j = fld Fo b j := by
    rw [hFo]
    intros
    rfl
  have K77 : ∀ (n : Nat) (z27689 : Int32) (z27690 : Int32) (z27691 : Int32) (z27692 : Int32) (F : Nat → va_E) (H : Heap) (locs : List Loc) (ls : Array Slot), (3 - z27691.toInt < (n : Int)) → (0 ≤ z27689.toInt ∧ z27689.toInt ≤ 2) → (0 ≤ z27690.toInt ∧ z27690.toInt ≤ 3) → (1 ≤ z27691.toInt ∧ z27691.toInt ≤ 3) → (1 ≤ z27692.toInt ∧ z27692.toInt ≤ 3) → TH G ttC A s tag L F H locs → (∀ b j : Nat, fld F b j = fld Fo b j) → lv_has ls 6 [(0, .ref p0), (1, .int p1), (2, .int z27689), (3, .int z27690), (4, .int z27691), (5, .int z27692)] → W p l e { frames := 1, cells := 0, slots := 0, locals := 23 } s m args below meth c H locs 0 0 Q (F0 m 77 ls []) := by
    intro n
    induction n with
    | zero =>
      intro z27689 z27690 z27691 z27692 F H locs ls hn rz27689 rz27690 rz27691 rz27692 hT hfr hl
      exfalso
      omega
    | succ n ih77 =>
      intro z27689 z27690 z27691 z27692 F H locs ls hn rz27689 rz27690 rz27691 rz27692 hT hfr hl
      refine lv_iload hx hb dX5_advance_77 (lv_at hl 4 rfl) ?_
      refine lv_iload hx hb dX5_advance_79 (lv_at hl 5 rfl) ?_
      refine lv_icmp_ge (tgt := 101) hx hb dX5_advance_81 (by decide) (fun c27693 => ?_) (fun c27693 => ?_)
      · have w27694 := cv_le (rfl : z27692.toInt = z27692.toInt) (rfl : z27691.toInt = z27691.toInt) c27693
        exact t_vret hQ X hT hfr (Nat.le_of_ble_eq_true rfl) (Nat.le_of_ble_eq_true rfl) dX5_advance_101
      · have w27695 := cv_nle (rfl : z27692.toInt = z27692.toInt) (rfl : z27691.toInt = z27691.toInt) c27693
        refine lv_aload_n hx hb dX5_advance_84 rfl (lv_at hl 0 rfl) ?_
        refine lv_iload hx hb dX5_advance_85 (lv_at hl 4 rfl) ?_
        refine lv_iload hx hb dX5_advance_87 (lv_at hl 5 rfl) ?_
        refine t_cSv (n := 3) (As := [.ref p0, .int z27691, .int z27692]) (rest := []) X hT (kt82_X5_swap l G tag L F hT.2.2.2 p0 z27691 z27692 m0 g0 (by omega) (by omega)) qw_1250 qw_1251 qw_1242 qw_1252 ⟨by decide +kernel, by decide +kernel, by decide +kernel⟩ ⟨Nat.le_of_ble_eq_true rfl, Nat.le_of_ble_eq_true rfl⟩ hl rfl rfl (Nat.le_of_ble_eq_true rfl) dX5_advance_89 ⟨Nat.le_of_ble_eq_true rfl, Nat.le_of_ble_eq_true rfl⟩ (fun F H locs hT hz27696 => ?_)
        have yz27696 := hz27696
        have hfr : ∀ b j : Nat, fld F b j = fld Fo b j := fun b j  => (yz27696 b j ).trans (hfr b j )
        obtain ⟨z27697, ez27697⟩ : ∃ y : Int32, y = z27691 + 1 := ⟨_, rfl⟩
        have hz27697 : z27697.toInt = z27691.toInt + 1 := ar_add ez27697 rfl (by decide : (1 : Int32).toInt = 1) (by omega) (by omega)
        refine lv_iinc (v := z27697) (lv' := [(4, .int z27697), (0, .ref p0), (1, .int p1), (2, .int z27689), (3, .int z27690), (5, .int z27692)]) hx hb dX5_advance_92 hl (k := 4) rfl (by rw [ez27697]; rfl) (by decide) rfl (fun ls hl => ?_)
        obtain ⟨z27698, ez27698⟩ : ∃ y : Int32, y = z27692 + (-1) := ⟨_, rfl⟩
        have hz27698 : z27698.toInt = z27692.toInt + (-1) := ar_add ez27698 rfl (by decide : ((-1) : Int32).toInt = (-1)) (by omega) (by omega)
        refine lv_iinc (v := z27698) (lv' := [(5, .int z27698), (4, .int z27697), (0, .ref p0), (1, .int p1), (2, .int z27689), (3, .int z27690)]) hx hb dX5_advance_95 hl (k := 5) rfl (by rw [ez27698]; rfl) (by decide) rfl (fun ls hl => ?_)
        refine lv_goto (tgt := 77) hx hb dX5_advance_98 (by decide) ?_
        exact ih77 z27689 z27690 z27697 z27698 _ _ _ _ (by omega) (by omega) (by omega) (by omega) (by omega) hT hfr  (lv_sub hl [2, 3, 4, 5, 1, 0] rfl)
  have K61 : ∀ (z27699 : Int32) (z27700 : Int32) (F : Nat → va_E) (H : Heap) (locs : List Loc) (ls : Array Slot), (0 ≤ z27699.toInt ∧ z27699.toInt ≤ 2) → (0 ≤ z27700.toInt ∧ z27700.toInt ≤ 3) → TH G ttC A s tag L F H locs → (∀ b j : Nat, fld F b j = fld Fo b j) → lv_has ls 6 [(0, .ref p0), (1, .int p1), (2, .int z27699), (3, .int z27700)] → W p l e { frames := 1, cells := 0, slots := 0, locals := 23 } s m args below meth c H locs 0 0 Q (F0 m 61 ls []) := by
    intro z27699 z27700 F H locs ls rz27699 rz27700 hT hfr hl
    refine lv_aload_n hx hb dX5_advance_61 rfl (lv_at hl 0 rfl) ?_
    refine lv_iload_n hx hb dX5_advance_62 rfl (lv_at hl 2 rfl) ?_
    refine lv_iload_n hx hb dX5_advance_63 rfl (lv_at hl 3 rfl) ?_
    refine t_cSv (n := 3) (As := [.ref p0, .int z27699, .int z27700]) (rest := []) X hT (kt82_X5_swap l G tag L F hT.2.2.2 p0 z27699 z27700 m0 g0 (by omega) (by omega)) qw_1250 qw_1251 qw_1242 qw_1252 ⟨by decide +kernel, by decide +kernel, by decide +kernel⟩ ⟨Nat.le_of_ble_eq_true rfl, Nat.le_of_ble_eq_true rfl⟩ hl rfl rfl (Nat.le_of_ble_eq_true rfl) dX5_advance_64 ⟨Nat.le_of_ble_eq_true rfl, Nat.le_of_ble_eq_true rfl⟩ (fun F H locs hT hz27701 => ?_)
    have yz27701 := hz27701
    have hfr : ∀ b j : Nat, fld F b j = fld Fo b j := fun b j  => (yz27701 b j ).trans (hfr b j )
    refine lv_iload_n hx hb dX5_advance_67 rfl (lv_at hl 2 rfl) ?_
    refine lv_iconst (v := 1) hx hb dX5_advance_68 (by decide) ?_
    refine lv_iadd hx hb dX5_advance_69 ?_
    refine lv_topi (fun z27702 ez27702 => ?_)
    have hz27702 : z27702.toInt = z27699.toInt + 1 := ar_add ez27702 (rfl : z27699.toInt = z27699.toInt) (by decide : (1 : Int32).toInt = 1) (by omega) (by omega)
    have rz27702 : 1 ≤ z27702.toInt ∧ z27702.toInt ≤ 3 := by omega
    refine lv_istore (lv' := [(4, .int z27702), (0, .ref p0), (1, .int p1), (2, .int z27699), (3, .int z27700)]) hx hb dX5_advance_70 hl (by decide) rfl (fun ls hl => ?_)
    refine lv_iload_n hx hb dX5_advance_72 rfl (lv_at hl 2 rfl) ?_
    refine lv_iconst (v := 1) hx hb dX5_advance_73 (by decide) ?_
    refine lv_isub hx hb dX5_advance_74 ?_
    refine lv_topi (fun z27703 ez27703 => ?_)
    have hz27703 : z27703.toInt = p1.toInt - 1 := ar_sub ez27703 (rfl : p1.toInt = p1.toInt) (by decide : (1 : Int32).toInt = 1) (by omega) (by omega)
    have rz27703 : 1 ≤ z27703.toInt ∧ z27703.toInt ≤ 3 := by omega
    refine lv_istore (lv' := [(5, .int z27703), (4, .int z27702), (0, .ref p0), (1, .int p1), (2, .int z27699), (3, .int z27700)]) hx hb dX5_advance_75 hl (by decide) rfl (fun ls hl => ?_)
    exact K77 3 z27699 z27700 z27702 z27703 _ _ _ _ (by omega) (by omega) (by omega) (by omega) (by omega) hT hfr  (lv_sub hl [2, 3, 4, 5, 1, 0] rfl)
  have K41 : ∀ (n : Nat) (z27704 : Int32) (z27705 : Int32) (F : Nat → va_E) (H : Heap) (locs : List Loc) (ls : Array Slot), (z27705.toInt - 0 < (n : Int)) → (0 ≤ z27704.toInt ∧ z27704.toInt ≤ 2) → (0 ≤ z27705.toInt ∧ z27705.toInt ≤ 3) → TH G ttC A s tag L F H locs → (∀ b j : Nat, fld F b j = fld Fo b j) → lv_has ls 6 [(0, .ref p0), (1, .int p1), (2, .int z27704), (3, .int z27705)] → W p l e { frames := 1, cells := 0, slots := 0, locals := 23 } s m args below meth c H locs 0 0 Q (F0 m 41 ls []) := by
    intro n
    induction n with
    | zero =>
      intro z27704 z27705 F H locs ls hn rz27704 rz27705 hT hfr hl
      exfalso
      omega
    | succ n ih41 =>
      intro z27704 z27705 F H locs ls hn rz27704 rz27705 hT hfr hl
      refine lv_iload_n hx hb dX5_advance_41 rfl (lv_at hl 3 rfl) ?_
      refine lv_iload_n hx hb dX5_advance_42 rfl (lv_at hl 2 rfl) ?_
      refine lv_icmp_le (tgt := 61) hx hb dX5_advance_43 (by decide) (fun c27706 => ?_) (fun c27706 => ?_)
      · have w27707 := cv_le (rfl : z27705.toInt = z27705.toInt) (rfl : z27704.toInt = z27704.toInt) c27706
        exact K61 z27704 z27705 _ _ _ _ (by omega) (by omega) hT hfr  (lv_sub hl [0, 1, 2, 3] rfl)
      · have w27708 := cv_nle (rfl : z27705.toInt = z27705.toInt) (rfl : z27704.toInt = z27704.toInt) c27706
        refine lv_aload_n hx hb dX5_advance_46 rfl (lv_at hl 0 rfl) ?_
        refine lv_iload_n hx hb dX5_advance_47 rfl (lv_at hl 3 rfl) ?_
        refine t_ild X hT m0 g0 rfl (by omega) dX5_advance_48 (fun z27709 vz27709 rz27709 => ?_)
        have rz27709 : 0 ≤ z27709.toInt ∧ z27709.toInt ≤ 3 := rz27709
        refine lv_aload_n hx hb dX5_advance_49 rfl (lv_at hl 0 rfl) ?_
        refine lv_iload_n hx hb dX5_advance_50 rfl (lv_at hl 2 rfl) ?_
        refine t_ild X hT m0 g0 rfl (by omega) dX5_advance_51 (fun z27710 vz27710 rz27710 => ?_)
        have rz27710 : 0 ≤ z27710.toInt ∧ z27710.toInt ≤ 3 := rz27710
        refine lv_icmp_ge (tgt := 61) hx hb dX5_advance_52 (by decide) (fun c27711 => ?_) (fun c27711 => ?_)
        · have w27712 := cv_le (rfl : z27710.toInt = z27710.toInt) (rfl : z27709.toInt = z27709.toInt) c27711
          exact K61 z27704 z27705 _ _ _ _ (by omega) (by omega) hT hfr  (lv_sub hl [0, 1, 2, 3] rfl)
        · have w27713 := cv_nle (rfl : z27710.toInt = z27710.toInt) (rfl : z27709.toInt = z27709.toInt) c27711
          obtain ⟨z27714, ez27714⟩ : ∃ y : Int32, y = z27705 + (-1) := ⟨_, rfl⟩
          have hz27714 : z27714.toInt = z27705.toInt + (-1) := ar_add ez27714 rfl (by decide : ((-1) : Int32).toInt = (-1)) (by omega) (by omega)
          refine lv_iinc (v := z27714) (lv' := [(3, .int z27714), (0, .ref p0), (1, .int p1), (2, .int z27704)]) hx hb dX5_advance_55 hl (k := 3) rfl (by rw [ez27714]; rfl) (by decide) rfl (fun ls hl => ?_)
          refine lv_goto (tgt := 41) hx hb dX5_advance_58 (by decide) ?_
          exact ih41 z27704 z27714 _ _ _ _ (by omega) (by omega) (by omega) hT hfr  (lv_sub hl [1, 2, 3, 0] rfl)
  have K32 : ∀ (z27715 : Int32) (F : Nat → va_E) (H : Heap) (locs : List Loc) (ls : Array Slot), ((-1) ≤ z27715.toInt ∧ z27715.toInt ≤ 2) → TH G ttC A s tag L F H locs → (∀ b j : Nat, fld F b j = fld Fo b j) → lv_has ls 6 [(0, .ref p0), (1, .int p1), (2, .int z27715)] → W p l e { frames := 1, cells := 0, slots := 0, locals := 23 } s m args below meth c H locs 0 0 Q (F0 m 32 ls []) := by
    intro z27715 F H locs ls rz27715 hT hfr hl
    refine lv_iload_n hx hb dX5_advance_32 rfl (lv_at hl 2 rfl) ?_
    refine lv_if_ge (tgt := 37) hx hb dX5_advance_33 (by decide) (fun c27716 => ?_) (fun c27716 => ?_)
    · have w27717 := cv_le (by decide : (0 : Int32).toInt = 0) (rfl : z27715.toInt = z27715.toInt) c27716
      refine lv_iload_n hx hb dX5_advance_37 rfl (lv_at hl 1 rfl) ?_
      refine lv_iconst (v := 1) hx hb dX5_advance_38 (by decide) ?_
      refine lv_isub hx hb dX5_advance_39 ?_
      refine lv_topi (fun z27718 ez27718 => ?_)
      have hz27718 : z27718.toInt = p1.toInt - 1 := ar_sub ez27718 (rfl : p1.toInt = p1.toInt) (by decide : (1 : Int32).toInt = 1) (by omega) (by omega)
      have rz27718 : 1 ≤ z27718.toInt ∧ z27718.toInt ≤ 3 := by omega
      refine lv_istore_n (lv' := [(3, .int z27718), (0, .ref p0), (1, .int p1), (2, .int z27715)]) hx hb dX5_advance_40 rfl hl (by decide) rfl (fun ls hl => ?_)
      exact K41 4 z27715 z27718 _ _ _ _ (by omega) (by omega) (by omega) hT hfr  (lv_sub hl [1, 2, 3, 0] rfl)
    · have w27719 := cv_nle (by decide : (0 : Int32).toInt = 0) (rfl : z27715.toInt = z27715.toInt) c27716
      exact t_vret hQ X hT hfr (Nat.le_of_ble_eq_true rfl) (Nat.le_of_ble_eq_true rfl) dX5_advance_36
  have K11 : ∀ (n : Nat) (z27720 : Int32) (F : Nat → va_E) (H : Heap) (locs : List Loc) (ls : Array Slot), (z27720.toInt - (-1) < (n : Int)) → ((-1) ≤ z27720.toInt ∧ z27720.toInt ≤ 2) → TH G ttC A s tag L F H locs → (∀ b j : Nat, fld F b j = fld Fo b j) → lv_has ls 6 [(0, .ref p0), (1, .int p1), (2, .int z27720)] → W p l e { frames := 1, cells := 0, slots := 0, locals := 23 } s m args below meth c H locs 0 0 Q (F0 m 11 ls []) := by
    intro n
    induction n with
    | zero =>
      intro z27720 F H locs ls hn rz27720 hT hfr hl
      exfalso
      omega
    | succ n ih11 =>
      intro z27720 F H locs ls hn rz27720 hT hfr hl
      refine lv_iload_n hx hb dX5_advance_11 rfl (lv_at hl 2 rfl) ?_
      refine lv_if_lt (tgt := 32) hx hb dX5_advance_12 (by decide) (fun c27721 => ?_) (fun c27721 => ?_)
      · have w27722 := cv_lt (rfl : z27720.toInt = z27720.toInt) (by decide : (0 : Int32).toInt = 0) c27721
        exact K32 z27720 _ _ _ _ (by omega) hT hfr  (lv_sub hl [0, 1, 2] rfl)
      · have w27723 := cv_nlt (rfl : z27720.toInt = z27720.toInt) (by decide : (0 : Int32).toInt = 0) c27721
        refine lv_aload_n hx hb dX5_advance_15 rfl (lv_at hl 0 rfl) ?_
        refine lv_iload_n hx hb dX5_advance_16 rfl (lv_at hl 2 rfl) ?_
        refine t_ild X hT m0 g0 rfl (by omega) dX5_advance_17 (fun z27724 vz27724 rz27724 => ?_)
        have rz27724 : 0 ≤ z27724.toInt ∧ z27724.toInt ≤ 3 := rz27724
        refine lv_aload_n hx hb dX5_advance_18 rfl (lv_at hl 0 rfl) ?_
        refine lv_iload_n hx hb dX5_advance_19 rfl (lv_at hl 2 rfl) ?_
        refine lv_iconst (v := 1) hx hb dX5_advance_20 (by decide) ?_
        refine lv_iadd hx hb dX5_advance_21 ?_
        refine lv_topi (fun z27725 ez27725 => ?_)
        have hz27725 : z27725.toInt = z27720.toInt + 1 := ar_add ez27725 (rfl : z27720.toInt = z27720.toInt) (by decide : (1 : Int32).toInt = 1) (by omega) (by omega)
        have rz27725 : 1 ≤ z27725.toInt ∧ z27725.toInt ≤ 3 := by omega
        refine t_ild X hT m0 g0 rfl (by omega) dX5_advance_22 (fun z27726 vz27726 rz27726 => ?_)
        have rz27726 : 0 ≤ z27726.toInt ∧ z27726.toInt ≤ 3 := rz27726
        refine lv_icmp_le (tgt := 32) hx hb dX5_advance_23 (by decide) (fun c27727 => ?_) (fun c27727 => ?_)
        · have w27728 := cv_le (rfl : z27724.toInt = z27724.toInt) (rfl : z27726.toInt = z27726.toInt) c27727
          exact K32 z27720 _ _ _ _ (by omega) hT hfr  (lv_sub hl [0, 1, 2] rfl)
        · have w27729 := cv_nle (rfl : z27724.toInt = z27724.toInt) (rfl : z27726.toInt = z27726.toInt) c27727
          obtain ⟨z27730, ez27730⟩ : ∃ y : Int32, y = z27720 + (-1) := ⟨_, rfl⟩
          have hz27730 : z27730.toInt = z27720.toInt + (-1) := ar_add ez27730 rfl (by decide : ((-1) : Int32).toInt = (-1)) (by omega) (by omega)
          refine lv_iinc (v := z27730) (lv' := [(2, .int z27730), (0, .ref p0), (1, .int p1)]) hx hb dX5_advance_26 hl (k := 2) rfl (by rw [ez27730]; rfl) (by decide) rfl (fun ls hl => ?_)
          refine lv_goto (tgt := 11) hx hb dX5_advance_29 (by decide) ?_
          exact ih11 z27730 _ _ _ _ (by omega) (by omega) hT hfr  (lv_sub hl [1, 2, 0] rfl)
  refine lv_iload_n hx hb dX5_advance_0 rfl (lv_at hl 1 rfl) ?_
  refine lv_aload_n hx hb dX5_advance_1 rfl (lv_at hl 0 rfl) ?_
  refine t_alen X hT m0 g0 rfl (by decide) dX5_advance_2 ?_
  refine lv_topi (fun z27731 ez27731 => ?_)
  obtain rfl : z27731 = 4 := ez27731.trans (by rfl)
  refine lv_icmp_le (tgt := 7) hx hb dX5_advance_3 (by decide) (fun c27732 => ?_) (fun c27732 => ?_)
  · have w27733 := cv_le (rfl : p1.toInt = p1.toInt) (by decide : (4 : Int32).toInt = 4) c27732
    refine lv_iload_n hx hb dX5_advance_7 rfl (lv_at hl 1 rfl) ?_
    refine lv_iconst (v := 2) hx hb dX5_advance_8 (by decide) ?_
    refine lv_isub hx hb dX5_advance_9 ?_
    refine lv_topi (fun z27734 ez27734 => ?_)
    have hz27734 : z27734.toInt = p1.toInt - 2 := ar_sub ez27734 (rfl : p1.toInt = p1.toInt) (by decide : (2 : Int32).toInt = 2) (by omega) (by omega)
    have rz27734 : 0 ≤ z27734.toInt ∧ z27734.toInt ≤ 2 := by omega
    refine lv_istore_n (lv' := [(2, .int z27734), (0, .ref p0), (1, .int p1)]) hx hb dX5_advance_10 rfl hl (by decide) rfl (fun ls hl => ?_)
    exact K11 4 z27734 _ _ _ _ (by omega) (by omega) hT hfr  (lv_sub hl [1, 2, 0] rfl)
  · have w27735 := cv_nle (rfl : p1.toInt = p1.toInt) (by decide : (4 : Int32).toInt = 4) c27732
    exfalso
    omega
set_option maxHeartbeats 4000000 in
set_option maxRecDepth 100000 in
theorem kt84_X5_advance (l : Launch) (G : KG) (tag : Nat → Nat) (L : List Nat) (Fo : Nat → va_E) (ho : okT G ttC tag L Fo) (p0 : Nat) (p1 : Int32) (m0 : p0 ∈ L) (g0 : tag p0 = 10) (h1 : 0 ≤ p1.toInt ∧ p1.toInt ≤ 1) : TMv l yX5_advance cX5_advance 6 { frames := 1, cells := 0, slots := 0, locals := 23 } G ttC tag L Fo [.ref p0, .int p1] (fun F1 => ∀ b j : Nat, fld F1 b j = fld Fo b j) := by
  refine t_bodyv (y := yX5_advance) (cd := cX5_advance) (mL := 6) (rm := { frames := 1, cells := 0, slots := 0, locals := 23 }) (av := [.ref p0, .int p1]) (by decide) (Nat.le_of_ble_eq_true rfl) ho ?_
  intro p e s m args below meth c ls A Q hQ X hT hl
  have hx := X.1.1
  have hb := X.1.2.1
  have hl : lv_has ls 6 [(0, .ref p0), (1, .int p1)] := hl
  obtain ⟨F, hFo⟩ : ∃ F : Nat → va_E, F = Fo := ⟨_, rfl⟩
  rw [← hFo] at hT
  have hfr : ∀ b j : Nat, fld F b j = fld Fo b j := by
    rw [hFo]
    intros
    rfl
  have K32 : ∀ (z27883 : Int32) (F : Nat → va_E) (H : Heap) (locs : List Loc) (ls : Array Slot), ((-2) ≤ z27883.toInt ∧ z27883.toInt ≤ (-1)) → TH G ttC A s tag L F H locs → (∀ b j : Nat, fld F b j = fld Fo b j) → lv_has ls 6 [(0, .ref p0), (1, .int p1), (2, .int z27883)] → W p l e { frames := 1, cells := 0, slots := 0, locals := 23 } s m args below meth c H locs 0 0 Q (F0 m 32 ls []) := by
    intro z27883 F H locs ls rz27883 hT hfr hl
    refine lv_iload_n hx hb dX5_advance_32 rfl (lv_at hl 2 rfl) ?_
    refine lv_if_ge (tgt := 37) hx hb dX5_advance_33 (by decide) (fun c27884 => ?_) (fun c27884 => ?_)
    · have w27885 := cv_le (by decide : (0 : Int32).toInt = 0) (rfl : z27883.toInt = z27883.toInt) c27884
      exfalso
      omega
    · have w27886 := cv_nle (by decide : (0 : Int32).toInt = 0) (rfl : z27883.toInt = z27883.toInt) c27884
      exact t_vret hQ X hT hfr (Nat.le_of_ble_eq_true rfl) (Nat.le_of_ble_eq_true rfl) dX5_advance_36
  have K11 : ∀ (z27887 : Int32) (F : Nat → va_E) (H : Heap) (locs : List Loc) (ls : Array Slot), ((-2) ≤ z27887.toInt ∧ z27887.toInt ≤ (-1)) → TH G ttC A s tag L F H locs → (∀ b j : Nat, fld F b j = fld Fo b j) → lv_has ls 6 [(0, .ref p0), (1, .int p1), (2, .int z27887)] → W p l e { frames := 1, cells := 0, slots := 0, locals := 23 } s m args below meth c H locs 0 0 Q (F0 m 11 ls []) := by
    intro z27887 F H locs ls rz27887 hT hfr hl
    refine lv_iload_n hx hb dX5_advance_11 rfl (lv_at hl 2 rfl) ?_
    refine lv_if_lt (tgt := 32) hx hb dX5_advance_12 (by decide) (fun c27888 => ?_) (fun c27888 => ?_)
    · have w27889 := cv_lt (rfl : z27887.toInt = z27887.toInt) (by decide : (0 : Int32).toInt = 0) c27888
      exact K32 z27887 _ _ _ _ (by omega) hT hfr  (lv_sub hl [0, 1, 2] rfl)
    · have w27890 := cv_nlt (rfl : z27887.toInt = z27887.toInt) (by decide : (0 : Int32).toInt = 0) c27888
      exfalso
      omega
  refine lv_iload_n hx hb dX5_advance_0 rfl (lv_at hl 1 rfl) ?_
  refine lv_aload_n hx hb dX5_advance_1 rfl (lv_at hl 0 rfl) ?_
  refine t_alen X hT m0 g0 rfl (by decide) dX5_advance_2 ?_
  refine lv_topi (fun z27891 ez27891 => ?_)
  obtain rfl : z27891 = 4 := ez27891.trans (by rfl)
  refine lv_icmp_le (tgt := 7) hx hb dX5_advance_3 (by decide) (fun c27892 => ?_) (fun c27892 => ?_)
  · have w27893 := cv_le (rfl : p1.toInt = p1.toInt) (by decide : (4 : Int32).toInt = 4) c27892
    refine lv_iload_n hx hb dX5_advance_7 rfl (lv_at hl 1 rfl) ?_
    refine lv_iconst (v := 2) hx hb dX5_advance_8 (by decide) ?_
    refine lv_isub hx hb dX5_advance_9 ?_
    refine lv_topi (fun z27894 ez27894 => ?_)
    have hz27894 : z27894.toInt = p1.toInt - 2 := ar_sub ez27894 (rfl : p1.toInt = p1.toInt) (by decide : (2 : Int32).toInt = 2) (by omega) (by omega)
    have rz27894 : (-2) ≤ z27894.toInt ∧ z27894.toInt ≤ (-1) := by omega
    refine lv_istore_n (lv' := [(2, .int z27894), (0, .ref p0), (1, .int p1)]) hx hb dX5_advance_10 rfl hl (by decide) rfl (fun ls hl => ?_)
    exact K11 z27894 _ _ _ _ (by omega) hT hfr  (lv_sub hl [1, 2, 0] rfl)
  · have w27895 := cv_nle (rfl : p1.toInt = p1.toInt) (by decide : (4 : Int32).toInt = 4) c27892
    exfalso
    omega
theorem kt85_X5_advance (l : Launch) (G : KG) (tag : Nat → Nat) (L : List Nat) (Fo : Nat → va_E) (ho : okT G ttC tag L Fo) (p0 : Nat) (p1 : Int32) (m0 : p0 ∈ L) (g0 : tag p0 = 10) (h1 : 0 ≤ p1.toInt ∧ p1.toInt ≤ 4) : TMv l yX5_advance cX5_advance 6 { frames := 1, cells := 0, slots := 0, locals := 23 } G ttC tag L Fo [.ref p0, .int p1] (fun F1 => ∀ b j : Nat, fld F1 b j = fld Fo b j) := by
  by_cases h9 : p1.toInt < 2
  · exact kt84_X5_advance l G tag L Fo ho p0 p1 m0 g0 (by omega)
  · exact kt83_X5_advance l G tag L Fo ho p0 p1 m0 g0 (by omega)
set_option maxHeartbeats 4000000 in
set_option maxRecDepth 100000 in
theorem kt86_X10_mostSkins (l : Launch) (G : KG) (tag : Nat → Nat) (L : List Nat) (Fo : Nat → va_E) (ho : okT G ttC tag L Fo) (p0 : Nat) (p1 : Nat) (p2 : Nat) (p3 : Nat) (p4 : Int32) (m0 : p0 ∈ L) (g0 : tag p0 = 20) (m1 : p1 ∈ L) (g1 : tag p1 = 18) (m2 : p2 ∈ L) (g2 : tag p2 = 19) (m3 : p3 ∈ L) (g3 : tag p3 = 19) (h4 : 0 ≤ p4.toInt ∧ p4.toInt ≤ 30) : TMi l yX10_mostSkins cX10_mostSkins 8 (some .int) { frames := 6, cells := 0, slots := 0, locals := 157 } G ttC tag L Fo [.ref p0, .ref p1, .ref p2, .ref p3, .int p4] (fun r F1 => ((-1) ≤ r.toInt ∧ r.toInt ≤ 2147483647) ∧ (∀ b j : Nat, (tag b ≠ 19 ∨ j ≠ 0) → (tag b ≠ 19 ∨ j ≠ 1) → fld F1 b j = fld Fo b j)) := by
  refine t_bodyi (y := yX10_mostSkins) (cd := cX10_mostSkins) (mL := 8) (rt := (some .int)) (rm := { frames := 6, cells := 0, slots := 0, locals := 157 }) (av := [.ref p0, .ref p1, .ref p2, .ref p3, .int p4]) (by decide) (Nat.le_of_ble_eq_true rfl) ho ?_
  intro p e s m args below meth c ls A Q hQ X hT hl
  have hx := X.1.1
  have hb := X.1.2.1
  have hl : lv_has ls 8 [(0, .ref p0), (1, .ref p1), (2, .ref p2), (3, .ref p3), (4, .int p4)] := hl
  obtain ⟨F, hFo⟩ : ∃ F : Nat → va_E, F = Fo := ⟨_, rfl⟩
  rw [← hFo] at hT
  have hfr : ∀ b j : Nat, (tag b ≠ 19 ∨ j ≠ 0) → (tag b ≠ 19 ∨ j ≠ 1) → fld F b j = fld Fo b j := by
    rw [hFo]
    intros
    rfl
  have K17 : ∀ (n : Nat) (z29196 : Int32) (z29197 : Int32) (z29198 : Int32) (F : Nat → va_E) (H : Heap) (locs : List Loc) (ls : Array Slot), (901 - z29197.toInt < (n : Int)) → ((-1) ≤ z29196.toInt ∧ z29196.toInt ≤ 2147483647) → (0 ≤ z29197.toInt ∧ z29197.toInt ≤ 901) → (0 ≤ z29198.toInt ∧ z29198.toInt ≤ 4) → TH G ttC A s tag L F H locs → (∀ b j : Nat, (tag b ≠ 19 ∨ j ≠ 0) → (tag b ≠ 19 ∨ j ≠ 1) → fld F b j = fld Fo b j) → fld F p1 10 = .int z29198 → lv_has ls 8 [(0, .ref p0), (1, .ref p1), (2, .ref p2), (3, .ref p3), (4, .int p4), (5, .int z29196), (6, .int z29197)] → W p l e { frames := 6, cells := 0, slots := 0, locals := 157 } s m args below meth c H locs 0 0 Q (F0 m 17 ls []) := by
    intro n
    induction n with
    | zero =>
      intro z29196 z29197 z29198 F H locs ls hn rz29196 rz29197 rz29198 hT hfr qz29198 hl
      exfalso
      omega
    | succ n ih17 =>
      intro z29196 z29197 z29198 F H locs ls hn rz29196 rz29197 rz29198 hT hfr qz29198 hl
      have K91 : ∀ (z29199 : Int32) (z29201 : Int32) (z29202 : Int32) (F : Nat → va_E) (H : Heap) (locs : List Loc) (ls : Array Slot), ((-1) ≤ z29199.toInt ∧ z29199.toInt ≤ 2147483647) → (0 ≤ z29202.toInt ∧ z29202.toInt ≤ 4) → (0 ≤ z29197.toInt ∧ z29197.toInt ≤ 900) → TH G ttC A s tag L F H locs → (∀ b j : Nat, (tag b ≠ 19 ∨ j ≠ 0) → (tag b ≠ 19 ∨ j ≠ 1) → fld F b j = fld Fo b j) → fld F p1 10 = .int z29202 → lv_has ls 8 [(0, .ref p0), (1, .ref p1), (2, .ref p2), (3, .ref p3), (4, .int p4), (5, .int z29199), (6, .int z29197), (7, .int z29201)] → W p l e { frames := 6, cells := 0, slots := 0, locals := 157 } s m args below meth c H locs 0 0 Q (F0 m 91 ls []) := by
        intro z29199 z29201 z29202 F H locs ls rz29199 rz29202 r9s29200 hT hfr qz29202 hl
        have rz29201 := rg_all z29201
        refine lv_aload_n hx hb dX10_mostSkins_91 rfl (lv_at hl 0 rfl) ?_
        refine t_get (C := RX10) (T := TX10) (N := 2) X hT m0 g0 rfl rfl 0 (by decide) qw_83 inlX10 rfl dX10_mostSkins_92 (fun v29203 hv29203 ov29203 => ?_)
        obtain ⟨b29204, rfl, mb29204, gb29204⟩ := okV_r ov29203
        have gb29204 : tag b29204 = 10 := tg_of gb29204
        refine lv_aload_n hx hb dX10_mostSkins_95 rfl (lv_at hl 1 rfl) ?_
        refine t_get (C := RX1) (T := TX1) (N := 20) X hT m1 g1 rfl rfl 10 (by decide) qw_1100 inlX1 rfl dX10_mostSkins_96 (fun v29205 hv29205 ov29205 => ?_)
        obtain rfl : v29205 = .int z29202 := hv29205.symm.trans qz29202
        refine t_cSv (n := 2) (As := [.ref b29204, .int z29202]) (rest := []) X hT (kt85_X5_advance l G tag L F hT.2.2.2 b29204 z29202 mb29204 gb29204 (by omega)) qw_1247 qw_1248 qw_1242 qw_1249 ⟨by decide +kernel, by decide +kernel, by decide +kernel⟩ ⟨Nat.le_of_ble_eq_true rfl, Nat.le_of_ble_eq_true rfl⟩ hl rfl rfl (Nat.le_of_ble_eq_true rfl) dX10_mostSkins_99 ⟨Nat.le_of_ble_eq_true rfl, Nat.le_of_ble_eq_true rfl⟩ (fun F H locs hT hz29206 => ?_)
        have yz29206 := hz29206
        have qz29202 := (yz29206 _ 10 ).trans qz29202
        have hv29203 := (yz29206 _ 0 ).trans hv29203
        have hfr : ∀ b j : Nat, (tag b ≠ 19 ∨ j ≠ 0) → (tag b ≠ 19 ∨ j ≠ 1) → fld F b j = fld Fo b j := fun b j n19_0 n19_1 => (yz29206 b j ).trans (hfr b j n19_0 n19_1)
        obtain ⟨z29207, ez29207⟩ : ∃ y : Int32, y = z29197 + 1 := ⟨_, rfl⟩
        have hz29207 : z29207.toInt = z29197.toInt + 1 := ar_add ez29207 rfl (by decide : (1 : Int32).toInt = 1) (by omega) (by omega)
        refine lv_iinc (v := z29207) (lv' := [(6, .int z29207), (0, .ref p0), (1, .ref p1), (2, .ref p2), (3, .ref p3), (4, .int p4), (5, .int z29199), (7, .int z29201)]) hx hb dX10_mostSkins_102 hl (k := 6) rfl (by rw [ez29207]; rfl) (by decide) rfl (fun ls hl => ?_)
        refine lv_goto (tgt := 17) hx hb dX10_mostSkins_105 (by decide) ?_
        exact ih17 z29199 z29207 z29202 _ _ _ _ (by omega) (by omega) (by omega) (by omega) hT hfr qz29202 (lv_sub hl [1, 2, 3, 4, 5, 6, 0] rfl)
      have K38 : ∀ (n : Nat) (z29209 : Int32) (z29210 : Int32) (F : Nat → va_E) (H : Heap) (locs : List Loc) (ls : Array Slot), (30 - z29209.toInt < (n : Int)) → (0 ≤ z29209.toInt ∧ z29209.toInt ≤ 30) → (0 ≤ z29210.toInt ∧ z29210.toInt ≤ 4) → (0 ≤ z29197.toInt ∧ z29197.toInt ≤ 900) → TH G ttC A s tag L F H locs → (∀ b j : Nat, (tag b ≠ 19 ∨ j ≠ 0) → (tag b ≠ 19 ∨ j ≠ 1) → fld F b j = fld Fo b j) → fld F p1 10 = .int z29210 → lv_has ls 8 [(0, .ref p0), (1, .ref p1), (2, .ref p2), (3, .ref p3), (4, .int p4), (5, .int z29196), (6, .int z29197), (7, .int z29209)] → W p l e { frames := 6, cells := 0, slots := 0, locals := 157 } s m args below meth c H locs 0 0 Q (F0 m 38 ls []) := by
        intro n
        induction n with
        | zero =>
          intro z29209 z29210 F H locs ls hn rz29209 rz29210 r9s29208 hT hfr qz29210 hl
          exfalso
          omega
        | succ n ih38 =>
          intro z29209 z29210 F H locs ls hn rz29209 rz29210 r9s29208 hT hfr qz29210 hl
          refine lv_iload hx hb dX10_mostSkins_38 (lv_at hl 7 rfl) ?_
          refine lv_iload hx hb dX10_mostSkins_40 (lv_at hl 4 rfl) ?_
          refine lv_icmp_ge (tgt := 60) hx hb dX10_mostSkins_42 (by decide) (fun c29211 => ?_) (fun c29211 => ?_)
          · have w29212 := cv_le (rfl : p4.toInt = p4.toInt) (rfl : z29209.toInt = z29209.toInt) c29211
            refine lv_aload_n hx hb dX10_mostSkins_60 rfl (lv_at hl 3 rfl) ?_
            refine t_cVi (n := 0) (C := RX7) (T := TX7) (N := 7) (As := []) (rest := []) X hT (kt78_X7_skinsOfAll l G tag L F hT.2.2.2 p3 m3 g3) m3 g3 rfl rfl qw_1246 qw_1183 qw_1184 qw_22 qw_1185 ⟨rfl, by decide +kernel, by decide +kernel, by decide +kernel⟩ ⟨Nat.le_of_ble_eq_true rfl, Nat.le_of_ble_eq_true rfl⟩ hl rfl rfl (Nat.le_of_ble_eq_true rfl) dX10_mostSkins_61 ⟨Nat.le_of_ble_eq_true rfl, Nat.le_of_ble_eq_true rfl⟩ (fun z29213 F9 H locs hT hz29213 => ?_)
            obtain ⟨fz29213, hz29213⟩ := hz29213
            rw [fz29213] at hT
            refine lv_istore (lv' := [(7, .int z29213), (0, .ref p0), (1, .ref p1), (2, .ref p2), (3, .ref p3), (4, .int p4), (5, .int z29196), (6, .int z29197)]) hx hb dX10_mostSkins_64 hl (by decide) rfl (fun ls hl => ?_)
            refine lv_iload hx hb dX10_mostSkins_66 (lv_at hl 0 rfl) ?_
            refine lv_iload hx hb dX10_mostSkins_68 (lv_at hl 6 rfl) ?_
            refine lv_icmp_le (tgt := 91) hx hb dX10_mostSkins_70 (by decide) (fun c29214 => ?_) (fun c29214 => ?_)
            · have w29215 := cv_le (rfl : z29213.toInt = z29213.toInt) (rfl : z29196.toInt = z29196.toInt) c29214
              exact K91 z29196 z29213 z29210 _ _ _ _ (by omega) (by omega) (by omega) hT hfr qz29210 (lv_sub hl [1, 2, 3, 4, 5, 6, 7, 0] rfl)
            · have w29216 := cv_nle (rfl : z29213.toInt = z29213.toInt) (rfl : z29196.toInt = z29196.toInt) c29214
              refine lv_iload hx hb dX10_mostSkins_73 (lv_at hl 0 rfl) ?_
              refine lv_istore (lv' := [(5, .int z29213), (7, .int z29213), (0, .ref p0), (1, .ref p1), (2, .ref p2), (3, .ref p3), (4, .int p4), (6, .int z29197)]) hx hb dX10_mostSkins_75 hl (by decide) rfl (fun ls hl => ?_)
              refine lv_aload_n hx hb dX10_mostSkins_77 rfl (lv_at hl 2 rfl) ?_
              refine t_get (C := RX10) (T := TX10) (N := 2) X hT m0 g0 rfl rfl 0 (by decide) qw_83 inlX10 rfl dX10_mostSkins_78 (fun v29217 hv29217 ov29217 => ?_)
              obtain ⟨b29218, rfl, mb29218, gb29218⟩ := okV_r ov29217
              have gb29218 : tag b29218 = 10 := tg_of gb29218
              refine lv_iconst (v := 0) hx hb dX10_mostSkins_81 (by decide) ?_
              refine lv_aload_n hx hb dX10_mostSkins_82 rfl (lv_at hl 2 rfl) ?_
              refine t_get (C := RX10) (T := TX10) (N := 2) X hT m0 g0 rfl rfl 1 (by decide) qw_84 inlX10 rfl dX10_mostSkins_83 (fun v29219 hv29219 ov29219 => ?_)
              obtain ⟨b29220, rfl, mb29220, gb29220⟩ := okV_r ov29219
              have gb29220 : tag b29220 = 5 := tg_of gb29220
              refine lv_iconst (v := 0) hx hb dX10_mostSkins_86 (by decide) ?_
              refine lv_iconst (v := 4) hx hb dX10_mostSkins_87 (by decide) ?_
              refine t_copy X hT hl mb29218 gb29218 mb29220 gb29220 rfl rfl (by decide) (by decide) (by decide) (by decide) (by decide) (fun _ _ => ⟨by decide, by decide⟩) qw_1239 qw_454 qw_455 qw_456 (Nat.le_of_ble_eq_true rfl) (Nat.le_of_ble_eq_true rfl) dX10_mostSkins_88 (fun F H locs hT h2v29221 => ?_)
              have qz29210 := (h2v29221 _ _).trans qz29210
              have hv29217 := (h2v29221 _ _).trans hv29217
              have hv29219 := (h2v29221 _ _).trans hv29219
              have hfr : ∀ b j : Nat, (tag b ≠ 19 ∨ j ≠ 0) → (tag b ≠ 19 ∨ j ≠ 1) → fld F b j = fld Fo b j := fun b j n19_0 n19_1 => (h2v29221 b j).trans (hfr b j n19_0 n19_1)
              exact K91 z29213 z29213 z29210 _ _ _ _ (by omega) (by omega) (by omega) hT hfr qz29210 (lv_sub hl [2, 3, 4, 5, 6, 0, 7, 1] rfl)
          · have w29222 := cv_nle (rfl : p4.toInt = p4.toInt) (rfl : z29209.toInt = z29209.toInt) c29211
            refine lv_aload_n hx hb dX10_mostSkins_45 rfl (lv_at hl 1 rfl) ?_
            refine lv_aload_n hx hb dX10_mostSkins_46 rfl (lv_at hl 3 rfl) ?_
            refine lv_aload_n hx hb dX10_mostSkins_47 rfl (lv_at hl 0 rfl) ?_
            refine t_get (C := RX10) (T := TX10) (N := 2) X hT m0 g0 rfl rfl 0 (by decide) qw_83 inlX10 rfl dX10_mostSkins_48 (fun v29223 hv29223 ov29223 => ?_)
            obtain ⟨b29224, rfl, mb29224, gb29224⟩ := okV_r ov29223
            have gb29224 : tag b29224 = 10 := tg_of gb29224
            refine t_cSv (n := 3) (As := [.ref p1, .ref p3, .ref b29224]) (rest := []) X hT (kt81_X10_pass l G tag L F hT.2.2.2 p1 p3 b29224 m1 g1 m3 g3 mb29224 gb29224) qw_1245 qw_1098 qw_32 qw_1099 ⟨by decide +kernel, by decide +kernel, by decide +kernel⟩ ⟨Nat.le_of_ble_eq_true rfl, Nat.le_of_ble_eq_true rfl⟩ hl rfl rfl (Nat.le_of_ble_eq_true rfl) dX10_mostSkins_51 ⟨Nat.le_of_ble_eq_true rfl, Nat.le_of_ble_eq_true rfl⟩ (fun F H locs hT hz29225 => ?_)
            have yz29225 := hz29225
            have qz29210 := (yz29225 _ 10 (Or.inr (by decide)) (Or.inr (by decide))).trans qz29210
            have hv29223 := (yz29225 _ 0 (Or.inl (by rw [g0]; decide)) (Or.inr (by decide))).trans hv29223
            have hfr : ∀ b j : Nat, (tag b ≠ 19 ∨ j ≠ 0) → (tag b ≠ 19 ∨ j ≠ 1) → fld F b j = fld Fo b j := fun b j n19_0 n19_1 => (yz29225 b j n19_0 n19_1).trans (hfr b j n19_0 n19_1)
            obtain ⟨z29226, ez29226⟩ : ∃ y : Int32, y = z29209 + 1 := ⟨_, rfl⟩
            have hz29226 : z29226.toInt = z29209.toInt + 1 := ar_add ez29226 rfl (by decide : (1 : Int32).toInt = 1) (by omega) (by omega)
            refine lv_iinc (v := z29226) (lv' := [(7, .int z29226), (0, .ref p0), (1, .ref p1), (2, .ref p2), (3, .ref p3), (4, .int p4), (5, .int z29196), (6, .int z29197)]) hx hb dX10_mostSkins_54 hl (k := 7) rfl (by rw [ez29226]; rfl) (by decide) rfl (fun ls hl => ?_)
            refine lv_goto (tgt := 38) hx hb dX10_mostSkins_57 (by decide) ?_
            exact ih38 z29226 z29210 _ _ _ _ (by omega) (by omega) (by omega) (by omega) hT hfr qz29210 (lv_sub hl [1, 2, 3, 4, 5, 6, 7, 0] rfl)
      refine lv_iload hx hb dX10_mostSkins_17 (lv_at hl 6 rfl) ?_
      refine t_getsN X hT X.2.2.2.1.2.2.2.1 (List.mem_of_getElem? (i := 2) rfl) dX10_mostSkins_19 ?_
      refine lv_aload_n hx hb dX10_mostSkins_22 rfl (lv_at hl 1 rfl) ?_
      refine t_get (C := RX1) (T := TX1) (N := 20) X hT m1 g1 rfl rfl 10 (by decide) qw_1100 inlX1 rfl dX10_mostSkins_23 (fun v29227 hv29227 ov29227 => ?_)
      obtain rfl : v29227 = .int z29198 := hv29227.symm.trans qz29198
      refine t_tild X hT X.2.2.2.1.2.2.2.1 (by omega) dX10_mostSkins_26 (fun z29228 ez29228 => ?_)
      have rz29228 : 1 ≤ z29228.toInt ∧ z29228.toInt ≤ 720 := by rw [ez29228]; exact gRows_r _
      refine lv_icmp_ge (tgt := 108) hx hb dX10_mostSkins_27 (by decide) (fun c29229 => ?_) (fun c29229 => ?_)
      · have w29230 := cv_le (rfl : z29228.toInt = z29228.toInt) (rfl : z29197.toInt = z29197.toInt) c29229
        refine lv_iload hx hb dX10_mostSkins_108 (lv_at hl 5 rfl) ?_
        exact t_iret hQ X hT (⟨(by omega), hfr⟩) (Nat.le_of_ble_eq_true rfl) (Nat.le_of_ble_eq_true rfl) dX10_mostSkins_110
      · have w29231 := cv_nle (rfl : z29228.toInt = z29228.toInt) (rfl : z29197.toInt = z29197.toInt) c29229
        refine lv_aload_n hx hb dX10_mostSkins_30 rfl (lv_at hl 3 rfl) ?_
        refine lv_aload_n hx hb dX10_mostSkins_31 rfl (lv_at hl 2 rfl) ?_
        refine t_cVv (n := 1) (C := RX7) (T := TX7) (N := 7) (As := [.ref p2]) (rest := []) X hT (kt77_X7_copyFrom l G tag L F hT.2.2.2 p3 p2 m3 g3 m2 g2) m3 g3 rfl rfl qw_1244 qw_450 qw_451 qw_22 qw_452 ⟨rfl, by decide +kernel, by decide +kernel, by decide +kernel⟩ ⟨Nat.le_of_ble_eq_true rfl, Nat.le_of_ble_eq_true rfl⟩ hl rfl rfl (Nat.le_of_ble_eq_true rfl) dX10_mostSkins_32 ⟨Nat.le_of_ble_eq_true rfl, Nat.le_of_ble_eq_true rfl⟩ (fun F H locs hT hz29232 => ?_)
        have yz29232 := hz29232
        have qz29198 := (yz29232 _ 10 (Or.inr (by decide)) (Or.inr (by decide))).trans qz29198
        have hfr : ∀ b j : Nat, (tag b ≠ 19 ∨ j ≠ 0) → (tag b ≠ 19 ∨ j ≠ 1) → fld F b j = fld Fo b j := fun b j n19_0 n19_1 => (yz29232 b j n19_0 n19_1).trans (hfr b j n19_0 n19_1)
        refine lv_iconst (v := 0) hx hb dX10_mostSkins_35 (by decide) ?_
        refine lv_istore (lv' := [(7, .int 0), (0, .ref p0), (1, .ref p1), (2, .ref p2), (3, .ref p3), (4, .int p4), (5, .int z29196), (6, .int z29197)]) hx hb dX10_mostSkins_36 hl (by decide) rfl (fun ls hl => ?_)
        have kk29233 : (0 : Int32).toInt = 0 := by decide
        exact K38 31 0 z29198 _ _ _ _ (by omega) (by decide) (by omega) (by omega) hT hfr qz29198 (lv_sub hl [1, 2, 3, 4, 5, 6, 7, 0] rfl)
  refine lv_iconst (v := (-1)) hx hb dX10_mostSkins_0 (by decide) ?_
  refine lv_istore (lv' := [(5, .int (-1)), (0, .ref p0), (1, .ref p1), (2, .ref p2), (3, .ref p3), (4, .int p4)]) hx hb dX10_mostSkins_1 hl (by decide) rfl (fun ls hl => ?_)
  refine lv_aload_n hx hb dX10_mostSkins_3 rfl (lv_at hl 1 rfl) ?_
  refine t_get (C := RX10) (T := TX10) (N := 2) X hT m0 g0 rfl rfl 0 (by decide) qw_83 inlX10 rfl dX10_mostSkins_4 (fun v29234 hv29234 ov29234 => ?_)
  obtain ⟨b29235, rfl, mb29235, gb29235⟩ := okV_r ov29234
  have gb29235 : tag b29235 = 10 := tg_of gb29235
  refine lv_aload_n hx hb dX10_mostSkins_7 rfl (lv_at hl 2 rfl) ?_
  refine t_get (C := RX1) (T := TX1) (N := 20) X hT m1 g1 rfl rfl 10 (by decide) qw_1100 inlX1 rfl dX10_mostSkins_8 (fun v29236 hv29236 ov29236 => ?_)
  obtain ⟨z29237, rfl, rz29237⟩ := okV_i ov29236
  refine t_cSv (n := 2) (As := [.ref b29235, .int z29237]) (rest := []) X hT (kt76_X5_begin l G tag L F hT.2.2.2 b29235 z29237 mb29235 gb29235 (by omega)) qw_1240 qw_1241 qw_1242 qw_1243 ⟨by decide +kernel, by decide +kernel, by decide +kernel⟩ ⟨Nat.le_of_ble_eq_true rfl, Nat.le_of_ble_eq_true rfl⟩ hl rfl rfl (Nat.le_of_ble_eq_true rfl) dX10_mostSkins_11 ⟨Nat.le_of_ble_eq_true rfl, Nat.le_of_ble_eq_true rfl⟩ (fun F H locs hT hz29238 => ?_)
  have yz29238 := hz29238
  have hv29234 := (yz29238 _ 0 ).trans hv29234
  have hv29236 := (yz29238 _ 10 ).trans hv29236
  have hfr : ∀ b j : Nat, (tag b ≠ 19 ∨ j ≠ 0) → (tag b ≠ 19 ∨ j ≠ 1) → fld F b j = fld Fo b j := fun b j n19_0 n19_1 => (yz29238 b j ).trans (hfr b j n19_0 n19_1)
  refine lv_iconst (v := 0) hx hb dX10_mostSkins_14 (by decide) ?_
  refine lv_istore (lv' := [(6, .int 0), (5, .int (-1)), (0, .ref p0), (1, .ref p1), (2, .ref p2), (3, .ref p3), (4, .int p4)]) hx hb dX10_mostSkins_15 hl (by decide) rfl (fun ls hl => ?_)
  have kk29239 : ((-1) : Int32).toInt = (-1) := by decide
  have kk29240 : (0 : Int32).toInt = 0 := by decide
  exact K17 902 (-1) 0 z29237 _ _ _ _ (by omega) (by decide) (by decide) (by omega) hT hfr hv29236 (lv_sub hl [2, 3, 4, 5, 6, 1, 0] rfl)
set_option maxHeartbeats 4000000 in
set_option maxRecDepth 100000 in
theorem kt87_X10_rotAll (l : Launch) (G : KG) (tag : Nat → Nat) (L : List Nat) (Fo : Nat → va_E) (ho : okT G ttC tag L Fo) (p0 : Nat) (p1 : Nat) (p2 : Int32) (m0 : p0 ∈ L) (g0 : tag p0 = 18) (m1 : p1 ∈ L) (g1 : tag p1 = 19) (h2 : 0 ≤ p2.toInt ∧ p2.toInt ≤ 3) : TMv l yX10_rotAll cX10_rotAll 6 { frames := 3, cells := 0, slots := 0, locals := 68 } G ttC tag L Fo [.ref p0, .ref p1, .int p2] (fun F1 => ∀ b j : Nat, fld F1 b j = fld Fo b j) := by
  refine t_bodyv (y := yX10_rotAll) (cd := cX10_rotAll) (mL := 6) (rm := { frames := 3, cells := 0, slots := 0, locals := 68 }) (av := [.ref p0, .ref p1, .int p2]) (by decide) (Nat.le_of_ble_eq_true rfl) ho ?_
  intro p e s m args below meth c ls A Q hQ X hT hl
  have hx := X.1.1
  have hb := X.1.2.1
  have hl : lv_has ls 6 [(0, .ref p0), (1, .ref p1), (2, .int p2)] := hl
  obtain ⟨F, hFo⟩ : ∃ F : Nat → va_E, F = Fo := ⟨_, rfl⟩
  rw [← hFo] at hT
  have hfr : ∀ b j : Nat, fld F b j = fld Fo b j := by
    rw [hFo]
    intros
    rfl
  have K2 : ∀ (n : Nat) (z29959 : Int32) (F : Nat → va_E) (H : Heap) (locs : List Loc) (ls : Array Slot), (7 - z29959.toInt < (n : Int)) → (1 ≤ z29959.toInt ∧ z29959.toInt ≤ 7) → TH G ttC A s tag L F H locs → (∀ b j : Nat, fld F b j = fld Fo b j) → lv_has ls 6 [(0, .ref p0), (1, .ref p1), (2, .int p2), (3, .int z29959)] → W p l e { frames := 3, cells := 0, slots := 0, locals := 68 } s m args below meth c H locs 0 0 Q (F0 m 2 ls []) := by
    intro n
    induction n with
    | zero =>
      intro z29959 F H locs ls hn rz29959 hT hfr hl
      exfalso
      omega
    | succ n ih2 =>
      intro z29959 F H locs ls hn rz29959 hT hfr hl
      have K113 : ∀  (F : Nat → va_E) (H : Heap) (locs : List Loc) (ls : Array Slot), (1 ≤ z29959.toInt ∧ z29959.toInt ≤ 6) → TH G ttC A s tag L F H locs → (∀ b j : Nat, fld F b j = fld Fo b j) → lv_has ls 6 [(0, .ref p0), (1, .ref p1), (2, .int p2), (3, .int z29959)] → W p l e { frames := 3, cells := 0, slots := 0, locals := 68 } s m args below meth c H locs 0 0 Q (F0 m 113 ls []) := by
        intro F H locs ls r9s29960 hT hfr hl
        obtain ⟨z29961, ez29961⟩ : ∃ y : Int32, y = z29959 + 1 := ⟨_, rfl⟩
        have hz29961 : z29961.toInt = z29959.toInt + 1 := ar_add ez29961 rfl (by decide : (1 : Int32).toInt = 1) (by omega) (by omega)
        refine lv_iinc (v := z29961) (lv' := [(3, .int z29961), (0, .ref p0), (1, .ref p1), (2, .int p2)]) hx hb dX10_rotAll_113 hl (k := 3) rfl (by rw [ez29961]; rfl) (by decide) rfl (fun ls hl => ?_)
        refine lv_goto (tgt := 2) hx hb dX10_rotAll_116 (by decide) ?_
        exact ih2 z29961 _ _ _ _ (by omega) (by omega) hT hfr  (lv_sub hl [1, 2, 3, 0] rfl)
      have K84 : ∀ (z29963 : Int32) (z29964 : Int32) (F : Nat → va_E) (H : Heap) (locs : List Loc) (ls : Array Slot), (1 ≤ z29959.toInt ∧ z29959.toInt ≤ 6) → TH G ttC A s tag L F H locs → (∀ b j : Nat, fld F b j = fld Fo b j) → lv_has ls 6 [(0, .ref p0), (1, .ref p1), (2, .int p2), (3, .int z29959), (4, .int z29963), (5, .int z29964)] → W p l e { frames := 3, cells := 0, slots := 0, locals := 68 } s m args below meth c H locs 0 0 Q (F0 m 84 ls []) := by
        intro z29963 z29964 F H locs ls r9s29962 hT hfr hl
        have rz29963 := rg_all z29963
        have rz29964 := rg_all z29964
        refine lv_aload_n hx hb dX10_rotAll_84 rfl (lv_at hl 1 rfl) ?_
        refine lv_iload_n hx hb dX10_rotAll_85 rfl (lv_at hl 2 rfl) ?_
        refine lv_iload_n hx hb dX10_rotAll_86 rfl (lv_at hl 3 rfl) ?_
        refine lv_iconst (v := 4) hx hb dX10_rotAll_87 (by decide) ?_
        refine lv_iload hx hb dX10_rotAll_88 (lv_at hl 5 rfl) ?_
        refine t_cVv (n := 4) (C := RX7) (T := TX7) (N := 7) (As := [.int p2, .int z29959, .int 4, .int z29964]) (rest := []) X hT (kt17_X7_setPart l G tag L F hT.2.2.2 p1 p2 z29959 4 z29964 m1 g1) m1 g1 rfl rfl qw_1124 qw_423 qw_424 qw_22 qw_425 ⟨rfl, by decide +kernel, by decide +kernel, by decide +kernel⟩ ⟨Nat.le_of_ble_eq_true rfl, Nat.le_of_ble_eq_true rfl⟩ hl rfl rfl (Nat.le_of_ble_eq_true rfl) dX10_rotAll_90 ⟨Nat.le_of_ble_eq_true rfl, Nat.le_of_ble_eq_true rfl⟩ (fun F H locs hT hz29965 => ?_)
        have yz29965 := hz29965
        have hfr : ∀ b j : Nat, fld F b j = fld Fo b j := fun b j  => (yz29965 b j ).trans (hfr b j )
        refine lv_iload hx hb dX10_rotAll_93 (lv_at hl 5 rfl) ?_
        refine lv_aload_n hx hb dX10_rotAll_95 rfl (lv_at hl 0 rfl) ?_
        refine lv_iload hx hb dX10_rotAll_96 (lv_at hl 4 rfl) ?_
        refine lv_iconst (v := 4) hx hb dX10_rotAll_98 (by decide) ?_
        refine t_cVi (n := 2) (C := RX1) (T := TX1) (N := 20) (As := [.int z29963, .int 4]) (rest := [.int z29964]) X hT (kt48_X1_stonePart l G tag L F hT.2.2.2 p0 z29963 4 m0 g0) m0 g0 rfl rfl qw_1122 qw_858 qw_859 qw_17 qw_860 ⟨rfl, by decide +kernel, by decide +kernel, by decide +kernel⟩ ⟨Nat.le_of_ble_eq_true rfl, Nat.le_of_ble_eq_true rfl⟩ hl rfl rfl (Nat.le_of_ble_eq_true rfl) dX10_rotAll_99 ⟨Nat.le_of_ble_eq_true rfl, Nat.le_of_ble_eq_true rfl⟩ (fun z29966 F9 H locs hT hz29966 => ?_)
        obtain ⟨fz29966, hz29966⟩ := hz29966
        rw [fz29966] at hT
        refine lv_icmp_lt (tgt := 113) hx hb dX10_rotAll_102 (by decide) (fun c29967 => ?_) (fun c29967 => ?_)
        · have w29968 := cv_lt (rfl : z29964.toInt = z29964.toInt) (rfl : z29966.toInt = z29966.toInt) c29967
          exact K113  _ _ _ _ (by omega) hT hfr  (lv_sub hl [0, 1, 2, 3] rfl)
        · have w29969 := cv_nlt (rfl : z29964.toInt = z29964.toInt) (rfl : z29966.toInt = z29966.toInt) c29967
          refine lv_aload_n hx hb dX10_rotAll_105 rfl (lv_at hl 1 rfl) ?_
          refine lv_iload_n hx hb dX10_rotAll_106 rfl (lv_at hl 2 rfl) ?_
          refine lv_iload_n hx hb dX10_rotAll_107 rfl (lv_at hl 3 rfl) ?_
          refine lv_iconst (v := 5) hx hb dX10_rotAll_108 (by decide) ?_
          refine lv_iconst (v := 1) hx hb dX10_rotAll_109 (by decide) ?_
          refine t_cVv (n := 4) (C := RX7) (T := TX7) (N := 7) (As := [.int p2, .int z29959, .int 5, .int 1]) (rest := []) X hT (kt17_X7_setPart l G tag L F hT.2.2.2 p1 p2 z29959 5 1 m1 g1) m1 g1 rfl rfl qw_1124 qw_423 qw_424 qw_22 qw_425 ⟨rfl, by decide +kernel, by decide +kernel, by decide +kernel⟩ ⟨Nat.le_of_ble_eq_true rfl, Nat.le_of_ble_eq_true rfl⟩ hl rfl rfl (Nat.le_of_ble_eq_true rfl) dX10_rotAll_110 ⟨Nat.le_of_ble_eq_true rfl, Nat.le_of_ble_eq_true rfl⟩ (fun F H locs hT hz29970 => ?_)
          have yz29970 := hz29970
          have hfr : ∀ b j : Nat, fld F b j = fld Fo b j := fun b j  => (yz29970 b j ).trans (hfr b j )
          exact K113  _ _ _ _ (by omega) hT hfr  (lv_sub hl [0, 1, 2, 3] rfl)
      have K81 : ∀ (z29972 : Int32) (z29973 : Int32) (z29974 : Int32) (z29975 : Int32) (F : Nat → va_E) (H : Heap) (locs : List Loc) (ls : Array Slot), (1 ≤ z29974.toInt ∧ z29974.toInt ≤ 2) → (2 ≤ z29959.toInt ∧ z29959.toInt ≤ 6) → TH G ttC A s tag L F H locs → (∀ b j : Nat, fld F b j = fld Fo b j) → lv_has ls 6 [(0, .ref p0), (1, .ref p1), (2, .int p2), (3, .int z29959), (4, .int z29972), (5, .int z29973)] → W p l e { frames := 3, cells := 0, slots := 0, locals := 68 } s m args below meth c H locs 0 0 Q (F0 m 81 ls [.int z29974, .int z29975]) := by
        intro z29972 z29973 z29974 z29975 F H locs ls rz29974 r9s29971 hT hfr hl
        have rz29972 := rg_all z29972
        have rz29973 := rg_all z29973
        have rz29975 := rg_all z29975
        refine lv_iadd hx hb dX10_rotAll_81 ?_
        refine lv_topi (fun z29976 ez29976 => ?_)
        have rz29976 := rg_all z29976
        refine lv_istore (lv' := [(5, .int z29976), (0, .ref p0), (1, .ref p1), (2, .int p2), (3, .int z29959), (4, .int z29972)]) hx hb dX10_rotAll_82 hl (by decide) rfl (fun ls hl => ?_)
        exact K84 z29972 z29976 _ _ _ _ (by omega) hT hfr  (lv_sub hl [1, 2, 3, 4, 5, 0] rfl)
      refine lv_iload_n hx hb dX10_rotAll_2 rfl (lv_at hl 3 rfl) ?_
      refine lv_aload_n hx hb dX10_rotAll_3 rfl (lv_at hl 1 rfl) ?_
      refine t_get (C := RX7) (T := TX7) (N := 7) X hT m1 g1 rfl rfl 2 (by decide) qw_1119 inlX7 rfl dX10_rotAll_4 (fun v29977 hv29977 ov29977 => ?_)
      obtain ⟨b29978, rfl, mb29978, gb29978⟩ := okV_r ov29977
      have gb29978 : tag b29978 = 8 := tg_of gb29978
      refine lv_iload_n hx hb dX10_rotAll_7 rfl (lv_at hl 2 rfl) ?_
      refine t_ild X hT mb29978 gb29978 rfl (by omega) dX10_rotAll_8 (fun z29979 vz29979 rz29979 => ?_)
      have rz29979 : 0 ≤ z29979.toInt ∧ z29979.toInt ≤ 6 := rz29979
      refine lv_icmp_gt (tgt := 119) hx hb dX10_rotAll_9 (by decide) (fun c29980 => ?_) (fun c29980 => ?_)
      · have w29981 := cv_lt (rfl : z29979.toInt = z29979.toInt) (rfl : z29959.toInt = z29959.toInt) c29980
        exact t_vret hQ X hT hfr (Nat.le_of_ble_eq_true rfl) (Nat.le_of_ble_eq_true rfl) dX10_rotAll_119
      · have w29982 := cv_nlt (rfl : z29979.toInt = z29979.toInt) (rfl : z29959.toInt = z29959.toInt) c29980
        refine lv_aload_n hx hb dX10_rotAll_12 rfl (lv_at hl 1 rfl) ?_
        refine lv_iload_n hx hb dX10_rotAll_13 rfl (lv_at hl 2 rfl) ?_
        refine lv_iload_n hx hb dX10_rotAll_14 rfl (lv_at hl 3 rfl) ?_
        refine t_cVi (n := 2) (C := RX7) (T := TX7) (N := 7) (As := [.int p2, .int z29959]) (rest := []) X hT (kt33_X7_isOpen l G tag L F hT.2.2.2 p1 p2 z29959 m1 g1) m1 g1 rfl rfl qw_1120 qw_984 qw_985 qw_22 qw_986 ⟨rfl, by decide +kernel, by decide +kernel, by decide +kernel⟩ ⟨Nat.le_of_ble_eq_true rfl, Nat.le_of_ble_eq_true rfl⟩ hl rfl rfl (Nat.le_of_ble_eq_true rfl) dX10_rotAll_15 ⟨Nat.le_of_ble_eq_true rfl, Nat.le_of_ble_eq_true rfl⟩ (fun z29983 F9 H locs hT hz29983 => ?_)
        obtain ⟨fz29983, hz29983⟩ := hz29983
        rw [fz29983] at hT
        refine lv_if_eq (tgt := 113) hx hb dX10_rotAll_18 (by decide) (fun c29984 => ?_) (fun c29984 => ?_)
        · have w29985 := cv_eq (rfl : z29983.toInt = z29983.toInt) (by decide : (0 : Int32).toInt = 0) c29984
          exact K113  _ _ _ _ (by omega) hT hfr  (lv_sub hl [0, 1, 2, 3] rfl)
        · have w29986 := cv_ne (rfl : z29983.toInt = z29983.toInt) (by decide : (0 : Int32).toInt = 0) c29984
          refine lv_aload_n hx hb dX10_rotAll_21 rfl (lv_at hl 1 rfl) ?_
          refine lv_iload_n hx hb dX10_rotAll_22 rfl (lv_at hl 2 rfl) ?_
          refine lv_iload_n hx hb dX10_rotAll_23 rfl (lv_at hl 3 rfl) ?_
          refine lv_iconst (v := 0) hx hb dX10_rotAll_24 (by decide) ?_
          refine t_cVi (n := 3) (C := RX7) (T := TX7) (N := 7) (As := [.int p2, .int z29959, .int 0]) (rest := []) X hT (kt19_X7_partOf l G tag L F hT.2.2.2 p1 p2 z29959 0 m1 g1) m1 g1 rfl rfl qw_1121 qw_778 qw_779 qw_22 qw_780 ⟨rfl, by decide +kernel, by decide +kernel, by decide +kernel⟩ ⟨Nat.le_of_ble_eq_true rfl, Nat.le_of_ble_eq_true rfl⟩ hl rfl rfl (Nat.le_of_ble_eq_true rfl) dX10_rotAll_25 ⟨Nat.le_of_ble_eq_true rfl, Nat.le_of_ble_eq_true rfl⟩ (fun z29987 F9 H locs hT hz29987 => ?_)
          obtain ⟨fz29987, hz29987⟩ := hz29987
          rw [fz29987] at hT
          refine lv_istore (lv' := [(4, .int z29987), (0, .ref p0), (1, .ref p1), (2, .int p2), (3, .int z29959)]) hx hb dX10_rotAll_28 hl (by decide) rfl (fun ls hl => ?_)
          refine lv_aload_n hx hb dX10_rotAll_30 rfl (lv_at hl 2 rfl) ?_
          refine lv_iload_n hx hb dX10_rotAll_31 rfl (lv_at hl 3 rfl) ?_
          refine lv_iload_n hx hb dX10_rotAll_32 rfl (lv_at hl 4 rfl) ?_
          refine lv_iconst (v := 4) hx hb dX10_rotAll_33 (by decide) ?_
          refine t_cVi (n := 3) (C := RX7) (T := TX7) (N := 7) (As := [.int p2, .int z29959, .int 4]) (rest := []) X hT (kt19_X7_partOf l G tag L F hT.2.2.2 p1 p2 z29959 4 m1 g1) m1 g1 rfl rfl qw_1121 qw_778 qw_779 qw_22 qw_780 ⟨rfl, by decide +kernel, by decide +kernel, by decide +kernel⟩ ⟨Nat.le_of_ble_eq_true rfl, Nat.le_of_ble_eq_true rfl⟩ hl rfl rfl (Nat.le_of_ble_eq_true rfl) dX10_rotAll_34 ⟨Nat.le_of_ble_eq_true rfl, Nat.le_of_ble_eq_true rfl⟩ (fun z29988 F9 H locs hT hz29988 => ?_)
          obtain ⟨fz29988, hz29988⟩ := hz29988
          rw [fz29988] at hT
          refine lv_aload_n hx hb dX10_rotAll_37 rfl (lv_at hl 1 rfl) ?_
          refine lv_iload hx hb dX10_rotAll_38 (lv_at hl 0 rfl) ?_
          refine lv_iconst (v := 3) hx hb dX10_rotAll_40 (by decide) ?_
          refine t_cVi (n := 2) (C := RX1) (T := TX1) (N := 20) (As := [.int z29987, .int 3]) (rest := [.int z29988]) X hT (kt48_X1_stonePart l G tag L F hT.2.2.2 p0 z29987 3 m0 g0) m0 g0 rfl rfl qw_1122 qw_858 qw_859 qw_17 qw_860 ⟨rfl, by decide +kernel, by decide +kernel, by decide +kernel⟩ ⟨Nat.le_of_ble_eq_true rfl, Nat.le_of_ble_eq_true rfl⟩ hl rfl rfl (Nat.le_of_ble_eq_true rfl) dX10_rotAll_41 ⟨Nat.le_of_ble_eq_true rfl, Nat.le_of_ble_eq_true rfl⟩ (fun z29989 F9 H locs hT hz29989 => ?_)
          obtain ⟨fz29989, hz29989⟩ := hz29989
          rw [fz29989] at hT
          refine lv_iadd hx hb dX10_rotAll_44 ?_
          refine lv_topi (fun z29990 ez29990 => ?_)
          have rz29990 := rg_all z29990
          refine lv_istore (lv' := [(5, .int z29990), (4, .int z29987), (0, .ref p0), (1, .ref p1), (2, .int p2), (3, .int z29959)]) hx hb dX10_rotAll_45 hl (by decide) rfl (fun ls hl => ?_)
          refine lv_iload_n hx hb dX10_rotAll_47 rfl (lv_at hl 5 rfl) ?_
          refine lv_iconst (v := 1) hx hb dX10_rotAll_48 (by decide) ?_
          refine lv_icmp_le (tgt := 84) hx hb dX10_rotAll_49 (by decide) (fun c29991 => ?_) (fun c29991 => ?_)
          · have w29992 := cv_le (rfl : z29959.toInt = z29959.toInt) (by decide : (1 : Int32).toInt = 1) c29991
            exact K84 z29987 z29990 _ _ _ _ (by omega) hT hfr  (lv_sub hl [2, 3, 4, 5, 1, 0] rfl)
          · have w29993 := cv_nle (rfl : z29959.toInt = z29959.toInt) (by decide : (1 : Int32).toInt = 1) c29991
            refine lv_aload_n hx hb dX10_rotAll_52 rfl (lv_at hl 3 rfl) ?_
            refine lv_iload_n hx hb dX10_rotAll_53 rfl (lv_at hl 4 rfl) ?_
            refine lv_iload_n hx hb dX10_rotAll_54 rfl (lv_at hl 5 rfl) ?_
            refine lv_iconst (v := 1) hx hb dX10_rotAll_55 (by decide) ?_
            refine lv_isub hx hb dX10_rotAll_56 ?_
            refine lv_topi (fun z29994 ez29994 => ?_)
            have hz29994 : z29994.toInt = z29959.toInt - 1 := ar_sub ez29994 (rfl : z29959.toInt = z29959.toInt) (by decide : (1 : Int32).toInt = 1) (by omega) (by omega)
            have rz29994 : 1 ≤ z29994.toInt ∧ z29994.toInt ≤ 5 := by omega
            refine t_cVi (n := 2) (C := RX7) (T := TX7) (N := 7) (As := [.int p2, .int z29994]) (rest := []) X hT (kt21_X7_stands l G tag L F hT.2.2.2 p1 p2 z29994 m1 g1) m1 g1 rfl rfl qw_1123 qw_853 qw_854 qw_22 qw_855 ⟨rfl, by decide +kernel, by decide +kernel, by decide +kernel⟩ ⟨Nat.le_of_ble_eq_true rfl, Nat.le_of_ble_eq_true rfl⟩ hl rfl rfl (Nat.le_of_ble_eq_true rfl) dX10_rotAll_57 ⟨Nat.le_of_ble_eq_true rfl, Nat.le_of_ble_eq_true rfl⟩ (fun z29995 F9 H locs hT hz29995 => ?_)
            obtain ⟨fz29995, hz29995⟩ := hz29995
            rw [fz29995] at hT
            refine lv_if_ne (tgt := 84) hx hb dX10_rotAll_60 (by decide) (fun c29996 => ?_) (fun c29996 => ?_)
            · have w29997 := cv_ne (rfl : z29995.toInt = z29995.toInt) (by decide : (0 : Int32).toInt = 0) c29996
              exact K84 z29987 z29990 _ _ _ _ (by omega) hT hfr  (lv_sub hl [2, 3, 4, 5, 1, 0] rfl)
            · have w29998 := cv_eq (rfl : z29995.toInt = z29995.toInt) (by decide : (0 : Int32).toInt = 0) c29996
              refine lv_iload hx hb dX10_rotAll_63 (lv_at hl 0 rfl) ?_
              refine lv_aload_n hx hb dX10_rotAll_65 rfl (lv_at hl 2 rfl) ?_
              refine lv_iload hx hb dX10_rotAll_66 (lv_at hl 1 rfl) ?_
              refine lv_iconst (v := 0) hx hb dX10_rotAll_68 (by decide) ?_
              refine t_cVi (n := 2) (C := RX1) (T := TX1) (N := 20) (As := [.int z29987, .int 0]) (rest := [.int z29990]) X hT (kt48_X1_stonePart l G tag L F hT.2.2.2 p0 z29987 0 m0 g0) m0 g0 rfl rfl qw_1122 qw_858 qw_859 qw_17 qw_860 ⟨rfl, by decide +kernel, by decide +kernel, by decide +kernel⟩ ⟨Nat.le_of_ble_eq_true rfl, Nat.le_of_ble_eq_true rfl⟩ hl rfl rfl (Nat.le_of_ble_eq_true rfl) dX10_rotAll_69 ⟨Nat.le_of_ble_eq_true rfl, Nat.le_of_ble_eq_true rfl⟩ (fun z29999 F9 H locs hT hz29999 => ?_)
              obtain ⟨fz29999, hz29999⟩ := hz29999
              rw [fz29999] at hT
              refine lv_iconst (v := 1) hx hb dX10_rotAll_72 (by decide) ?_
              refine lv_icmp_ne (tgt := 80) hx hb dX10_rotAll_73 (by decide) (fun c30000 => ?_) (fun c30000 => ?_)
              · have w30001 := cv_ne (rfl : z29999.toInt = z29999.toInt) (by decide : (1 : Int32).toInt = 1) c30000
                refine lv_iconst (v := 1) hx hb dX10_rotAll_80 (by decide) ?_
                exact K81 z29987 z29990 1 z29990 _ _ _ _ (by decide) (by omega) hT hfr  (lv_sub hl [2, 3, 4, 5, 1, 0] rfl)
              · have w30002 := cv_eq (rfl : z29999.toInt = z29999.toInt) (by decide : (1 : Int32).toInt = 1) c30000
                refine lv_iconst (v := 2) hx hb dX10_rotAll_76 (by decide) ?_
                refine lv_goto (tgt := 81) hx hb dX10_rotAll_77 (by decide) ?_
                exact K81 z29987 z29990 2 z29990 _ _ _ _ (by decide) (by omega) hT hfr  (lv_sub hl [2, 3, 4, 5, 1, 0] rfl)
  refine lv_iconst (v := 1) hx hb dX10_rotAll_0 (by decide) ?_
  refine lv_istore_n (lv' := [(3, .int 1), (0, .ref p0), (1, .ref p1), (2, .int p2)]) hx hb dX10_rotAll_1 rfl hl (by decide) rfl (fun ls hl => ?_)
  have kk30003 : (1 : Int32).toInt = 1 := by decide
  exact K2 7 1 _ _ _ _ (by omega) (by decide) hT hfr  (lv_sub hl [1, 2, 3, 0] rfl)
