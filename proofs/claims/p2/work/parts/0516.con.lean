set_option maxHeartbeats 4000000 in
set_option maxRecDepth 100000 in
theorem kt131_X11_isHouse (l : Launch) (G : KG) (tag : Nat → Nat) (L : List Nat) (F : Nat → va_E) (ho : okT G ttC tag L F) (p0 : Nat) (p1 : Int32) (m0 : p0 ∈ L) (g0 : tag p0 = 26) : TMi l yX11_isHouse cX11_isHouse 2 (some .boolean) { frames := 0, cells := 0, slots := 0, locals := 0 } G ttC tag L F [.ref p0, .int p1] (fun r F1 => F1 = F ∧ ((0 ≤ r.toInt ∧ r.toInt ≤ 1) ∧ (r.toInt ≠ 0 → (0 ≤ p1.toInt ∧ p1.toInt ≤ 3)))) := by
  refine t_bodyi (y := yX11_isHouse) (cd := cX11_isHouse) (mL := 2) (rt := (some .boolean)) (rm := { frames := 0, cells := 0, slots := 0, locals := 0 }) (av := [.ref p0, .int p1]) (by decide) (Nat.le_of_ble_eq_true rfl) ho ?_
  intro p e s m args below meth c ls A Q hQ X hT hl
  have hx := X.1.1
  have hb := X.1.2.1
  have hl : lv_has ls 2 [(0, .ref p0), (1, .int p1)] := hl
  have rp1 := rg_all p1
  refine lv_aload_n hx hb dX11_isHouse_0 rfl (lv_at hl 0 rfl) ?_
  refine t_get (C := RX11) (T := TX11) (N := 16) X hT m0 g0 rfl rfl 2 (by decide) qw_150 inlX11 rfl dX11_isHouse_1 (fun v46390 hv46390 ov46390 => ?_)
  obtain ⟨z46391, rfl, rz46391⟩ := okV_i ov46390
  refine lv_if_eq (tgt := 26) hx hb dX11_isHouse_4 (by decide) (fun c46392 => ?_) (fun c46392 => ?_)
  · have w46393 := cv_eq (rfl : z46391.toInt = z46391.toInt) (by decide : (0 : Int32).toInt = 0) c46392
    refine lv_iconst (v := 0) hx hb dX11_isHouse_26 (by decide) ?_
    exact t_zret hQ X hT (by decide) (⟨rfl, ⟨(by decide), fun h => absurd (by decide) h⟩⟩) (Nat.le_of_ble_eq_true rfl) (Nat.le_of_ble_eq_true rfl) dX11_isHouse_27
  · have w46394 := cv_ne (rfl : z46391.toInt = z46391.toInt) (by decide : (0 : Int32).toInt = 0) c46392
    refine lv_iload_n hx hb dX11_isHouse_7 rfl (lv_at hl 1 rfl) ?_
    refine lv_if_lt (tgt := 26) hx hb dX11_isHouse_8 (by decide) (fun c46395 => ?_) (fun c46395 => ?_)
    · have w46396 := cv_lt (rfl : p1.toInt = p1.toInt) (by decide : (0 : Int32).toInt = 0) c46395
      refine lv_iconst (v := 0) hx hb dX11_isHouse_26 (by decide) ?_
      exact t_zret hQ X hT (by decide) (⟨rfl, ⟨(by decide), fun h => absurd (by decide) h⟩⟩) (Nat.le_of_ble_eq_true rfl) (Nat.le_of_ble_eq_true rfl) dX11_isHouse_27
    · have w46397 := cv_nlt (rfl : p1.toInt = p1.toInt) (by decide : (0 : Int32).toInt = 0) c46395
      refine lv_iload_n hx hb dX11_isHouse_11 rfl (lv_at hl 1 rfl) ?_
      refine lv_aload_n hx hb dX11_isHouse_12 rfl (lv_at hl 0 rfl) ?_
      refine t_get (C := RX11) (T := TX11) (N := 16) X hT m0 g0 rfl rfl 3 (by decide) qw_18 inlX11 rfl dX11_isHouse_13 (fun v46398 hv46398 ov46398 => ?_)
      obtain ⟨b46399, rfl, mb46399, gb46399⟩ := okV_r ov46398
      have gb46399 : tag b46399 = 18 := tg_of gb46399
      refine t_get (C := RX1) (T := TX1) (N := 20) X hT mb46399 gb46399 rfl rfl 10 (by decide) qw_151 inlX1 rfl dX11_isHouse_16 (fun v46400 hv46400 ov46400 => ?_)
      obtain ⟨z46401, rfl, rz46401⟩ := okV_i ov46400
      refine lv_icmp_ge (tgt := 26) hx hb dX11_isHouse_19 (by decide) (fun c46402 => ?_) (fun c46402 => ?_)
      · have w46403 := cv_le (rfl : z46401.toInt = z46401.toInt) (rfl : p1.toInt = p1.toInt) c46402
        refine lv_iconst (v := 0) hx hb dX11_isHouse_26 (by decide) ?_
        exact t_zret hQ X hT (by decide) (⟨rfl, ⟨(by decide), fun h => absurd (by decide) h⟩⟩) (Nat.le_of_ble_eq_true rfl) (Nat.le_of_ble_eq_true rfl) dX11_isHouse_27
      · have w46404 := cv_nle (rfl : z46401.toInt = z46401.toInt) (rfl : p1.toInt = p1.toInt) c46402
        refine lv_iconst (v := 1) hx hb dX11_isHouse_22 (by decide) ?_
        refine lv_goto (tgt := 27) hx hb dX11_isHouse_23 (by decide) ?_
        exact t_zret hQ X hT (by decide) (⟨rfl, ⟨(by decide), fun _ => by omega⟩⟩) (Nat.le_of_ble_eq_true rfl) (Nat.le_of_ble_eq_true rfl) dX11_isHouse_27
set_option maxHeartbeats 4000000 in
set_option maxRecDepth 100000 in
theorem kt132_X11_isLivedIn (l : Launch) (G : KG) (tag : Nat → Nat) (L : List Nat) (F : Nat → va_E) (ho : okT G ttC tag L F) (p0 : Nat) (p1 : Int32) (p2 : Int32) (m0 : p0 ∈ L) (g0 : tag p0 = 26) : TMi l yX11_isLivedIn cX11_isLivedIn 4 (some .boolean) { frames := 0, cells := 0, slots := 0, locals := 0 } G ttC tag L F [.ref p0, .int p1, .int p2] (fun r F1 => F1 = F ∧ (0 ≤ r.toInt ∧ r.toInt ≤ 1)) := by
  refine t_bodyi (y := yX11_isLivedIn) (cd := cX11_isLivedIn) (mL := 4) (rt := (some .boolean)) (rm := { frames := 0, cells := 0, slots := 0, locals := 0 }) (av := [.ref p0, .int p1, .int p2]) (by decide) (Nat.le_of_ble_eq_true rfl) ho ?_
  intro p e s m args below meth c ls A Q hQ X hT hl
  have hx := X.1.1
  have hb := X.1.2.1
  have hl : lv_has ls 4 [(0, .ref p0), (1, .int p1), (2, .int p2)] := hl
  have rp1 := rg_all p1
  have rp2 := rg_all p2
  have K2 : ∀ (n : Nat) (z46853 : Int32) (H : Heap) (locs : List Loc) (ls : Array Slot), (6 - z46853.toInt < (n : Int)) → (0 ≤ z46853.toInt ∧ z46853.toInt ≤ 6) → TH G ttC A s tag L F H locs → lv_has ls 4 [(0, .ref p0), (1, .int p1), (2, .int p2), (3, .int z46853)] → W p l e { frames := 0, cells := 0, slots := 0, locals := 0 } s m args below meth c H locs 0 0 Q (F0 m 2 ls []) := by
    intro n
    induction n with
    | zero =>
      intro z46853 H locs ls hn rz46853 hT hl
      exfalso
      omega
    | succ n ih2 =>
      intro z46853 H locs ls hn rz46853 hT hl
      have K41 : ∀  (H : Heap) (locs : List Loc) (ls : Array Slot), (0 ≤ z46853.toInt ∧ z46853.toInt ≤ 5) → TH G ttC A s tag L F H locs → lv_has ls 4 [(0, .ref p0), (1, .int p1), (2, .int p2), (3, .int z46853)] → W p l e { frames := 0, cells := 0, slots := 0, locals := 0 } s m args below meth c H locs 0 0 Q (F0 m 41 ls []) := by
        intro H locs ls r9s46854 hT hl
        obtain ⟨z46855, ez46855⟩ : ∃ y : Int32, y = z46853 + 1 := ⟨_, rfl⟩
        have hz46855 : z46855.toInt = z46853.toInt + 1 := ar_add ez46855 rfl (by decide : (1 : Int32).toInt = 1) (by omega) (by omega)
        refine lv_iinc (v := z46855) (lv' := [(3, .int z46855), (0, .ref p0), (1, .int p1), (2, .int p2)]) hx hb dX11_isLivedIn_41 hl (k := 3) rfl (by rw [ez46855]; rfl) (by decide) rfl (fun ls hl => ?_)
        refine lv_goto (tgt := 2) hx hb dX11_isLivedIn_44 (by decide) ?_
        exact ih2 z46855 _ _ _ (by omega) (by omega) hT  (lv_sub hl [1, 2, 3, 0] rfl)
      refine lv_iload_n hx hb dX11_isLivedIn_2 rfl (lv_at hl 3 rfl) ?_
      refine lv_aload_n hx hb dX11_isLivedIn_3 rfl (lv_at hl 0 rfl) ?_
      refine t_get (C := RX11) (T := TX11) (N := 16) X hT m0 g0 rfl rfl 3 (by decide) qw_18 inlX11 rfl dX11_isLivedIn_4 (fun v46856 hv46856 ov46856 => ?_)
      obtain ⟨b46857, rfl, mb46857, gb46857⟩ := okV_r ov46856
      have gb46857 : tag b46857 = 18 := tg_of gb46857
      refine t_get (C := RX1) (T := TX1) (N := 20) X hT mb46857 gb46857 rfl rfl 14 (by decide) qw_891 inlX1 rfl dX11_isLivedIn_7 (fun v46858 hv46858 ov46858 => ?_)
      obtain ⟨z46859, rfl, rz46859⟩ := okV_i ov46858
      refine lv_icmp_ge (tgt := 47) hx hb dX11_isLivedIn_10 (by decide) (fun c46860 => ?_) (fun c46860 => ?_)
      · have w46861 := cv_le (rfl : z46859.toInt = z46859.toInt) (rfl : z46853.toInt = z46853.toInt) c46860
        refine lv_iconst (v := 0) hx hb dX11_isLivedIn_47 (by decide) ?_
        exact t_zret hQ X hT (by decide) (⟨rfl, (by decide)⟩) (Nat.le_of_ble_eq_true rfl) (Nat.le_of_ble_eq_true rfl) dX11_isLivedIn_48
      · have w46862 := cv_nle (rfl : z46859.toInt = z46859.toInt) (rfl : z46853.toInt = z46853.toInt) c46860
        refine lv_aload_n hx hb dX11_isLivedIn_13 rfl (lv_at hl 0 rfl) ?_
        refine t_get (C := RX11) (T := TX11) (N := 16) X hT m0 g0 rfl rfl 3 (by decide) qw_18 inlX11 rfl dX11_isLivedIn_14 (fun v46863 hv46863 ov46863 => ?_)
        obtain rfl : v46863 = .ref b46857 := hv46863.symm.trans hv46856
        refine t_get (C := RX1) (T := TX1) (N := 20) X hT mb46857 gb46857 rfl rfl 15 (by decide) qw_885 inlX1 rfl dX11_isLivedIn_17 (fun v46864 hv46864 ov46864 => ?_)
        obtain ⟨b46865, rfl, mb46865, gb46865⟩ := okV_r ov46864
        have gb46865 : tag b46865 = 6 := tg_of gb46865
        refine lv_iload_n hx hb dX11_isLivedIn_20 rfl (lv_at hl 3 rfl) ?_
        refine t_ild X hT mb46865 gb46865 rfl (by omega) dX11_isLivedIn_21 (fun z46866 vz46866 rz46866 => ?_)
        have rz46866 : 0 ≤ z46866.toInt ∧ z46866.toInt ≤ 3 := rz46866
        refine lv_iload_n hx hb dX11_isLivedIn_22 rfl (lv_at hl 1 rfl) ?_
        refine lv_icmp_ne (tgt := 41) hx hb dX11_isLivedIn_23 (by decide) (fun c46867 => ?_) (fun c46867 => ?_)
        · have w46868 := cv_ne (rfl : z46866.toInt = z46866.toInt) (rfl : p1.toInt = p1.toInt) c46867
          exact K41  _ _ _ (by omega) hT  (lv_sub hl [0, 1, 2, 3] rfl)
        · have w46869 := cv_eq (rfl : z46866.toInt = z46866.toInt) (rfl : p1.toInt = p1.toInt) c46867
          refine lv_aload_n hx hb dX11_isLivedIn_26 rfl (lv_at hl 0 rfl) ?_
          refine t_get (C := RX11) (T := TX11) (N := 16) X hT m0 g0 rfl rfl 5 (by decide) qw_23 inlX11 rfl dX11_isLivedIn_27 (fun v46870 hv46870 ov46870 => ?_)
          obtain ⟨b46871, rfl, mb46871, gb46871⟩ := okV_r ov46870
          have gb46871 : tag b46871 = 19 := tg_of gb46871
          refine t_get (C := RX7) (T := TX7) (N := 7) X hT mb46871 gb46871 rfl rfl 5 (by decide) qw_886 inlX7 rfl dX11_isLivedIn_30 (fun v46872 hv46872 ov46872 => ?_)
          obtain ⟨b46873, rfl, mb46873, gb46873⟩ := okV_r ov46872
          have gb46873 : tag b46873 = 7 := tg_of gb46873
          refine lv_iload_n hx hb dX11_isLivedIn_33 rfl (lv_at hl 3 rfl) ?_
          refine t_ild X hT mb46873 gb46873 rfl (by omega) dX11_isLivedIn_34 (fun z46874 vz46874 rz46874 => ?_)
          have rz46874 : (-2147483648) ≤ z46874.toInt ∧ z46874.toInt ≤ 2147483647 := rz46874
          refine lv_iload_n hx hb dX11_isLivedIn_35 rfl (lv_at hl 2 rfl) ?_
          refine lv_icmp_ne (tgt := 41) hx hb dX11_isLivedIn_36 (by decide) (fun c46875 => ?_) (fun c46875 => ?_)
          · have w46876 := cv_ne (rfl : z46874.toInt = z46874.toInt) (rfl : p2.toInt = p2.toInt) c46875
            exact K41  _ _ _ (by omega) hT  (lv_sub hl [0, 1, 2, 3] rfl)
          · have w46877 := cv_eq (rfl : z46874.toInt = z46874.toInt) (rfl : p2.toInt = p2.toInt) c46875
            refine lv_iconst (v := 1) hx hb dX11_isLivedIn_39 (by decide) ?_
            exact t_zret hQ X hT (by decide) (⟨rfl, (by decide)⟩) (Nat.le_of_ble_eq_true rfl) (Nat.le_of_ble_eq_true rfl) dX11_isLivedIn_40
  refine lv_iconst (v := 0) hx hb dX11_isLivedIn_0 (by decide) ?_
  refine lv_istore_n (lv' := [(3, .int 0), (0, .ref p0), (1, .int p1), (2, .int p2)]) hx hb dX11_isLivedIn_1 rfl hl (by decide) rfl (fun ls hl => ?_)
  have kk46878 : (0 : Int32).toInt = 0 := by decide
  exact K2 7 0 _ _ _ (by omega) (by decide) hT  (lv_sub hl [1, 2, 3, 0] rfl)
set_option maxHeartbeats 4000000 in
set_option maxRecDepth 100000 in
theorem kt133_X11_isRoom (l : Launch) (G : KG) (tag : Nat → Nat) (L : List Nat) (F : Nat → va_E) (ho : okT G ttC tag L F) (p0 : Nat) (p1 : Int32) (p2 : Int32) (m0 : p0 ∈ L) (g0 : tag p0 = 26) : TMi l yX11_isRoom cX11_isRoom 3 (some .boolean) { frames := 1, cells := 0, slots := 0, locals := 21 } G ttC tag L F [.ref p0, .int p1, .int p2] (fun r F1 => F1 = F ∧ ((0 ≤ r.toInt ∧ r.toInt ≤ 1) ∧ (r.toInt ≠ 0 → (0 ≤ p1.toInt ∧ p1.toInt ≤ 3) ∧ (0 ≤ p2.toInt ∧ p2.toInt ≤ 6)))) := by
  refine t_bodyi (y := yX11_isRoom) (cd := cX11_isRoom) (mL := 3) (rt := (some .boolean)) (rm := { frames := 1, cells := 0, slots := 0, locals := 21 }) (av := [.ref p0, .int p1, .int p2]) (by decide) (Nat.le_of_ble_eq_true rfl) ho ?_
  intro p e s m args below meth c ls A Q hQ X hT hl
  have hx := X.1.1
  have hb := X.1.2.1
  have hl : lv_has ls 3 [(0, .ref p0), (1, .int p1), (2, .int p2)] := hl
  have rp1 := rg_all p1
  have rp2 := rg_all p2
  refine lv_aload_n hx hb dX11_isRoom_0 rfl (lv_at hl 0 rfl) ?_
  refine lv_iload_n hx hb dX11_isRoom_1 rfl (lv_at hl 1 rfl) ?_
  refine t_cVi (n := 1) (C := RX11) (T := TX11) (N := 16) (As := [.int p1]) (rest := []) X hT (kt93_X11_isHouse l G tag L F hT.2.2.2 p0 p1 m0 g0) m0 g0 rfl rfl qw_770 qw_771 qw_772 qw_2 qw_773 ⟨rfl, by decide +kernel, by decide +kernel, by decide +kernel⟩ ⟨Nat.le_of_ble_eq_true rfl, Nat.le_of_ble_eq_true rfl⟩ hl rfl rfl (Nat.le_of_ble_eq_true rfl) dX11_isRoom_2 ⟨Nat.le_of_ble_eq_true rfl, Nat.le_of_ble_eq_true rfl⟩ (fun z47055 F9 H locs hT hz47055 => ?_)
  obtain ⟨fz47055, hz47055⟩ := hz47055
  rw [fz47055] at hT
  obtain ⟨hz47055, iz47055⟩ := hz47055
  refine lv_if_eq (tgt := 29) hx hb dX11_isRoom_5 (by decide) (fun c47056 => ?_) (fun c47056 => ?_)
  · have w47057 := cv_eq (rfl : z47055.toInt = z47055.toInt) (by decide : (0 : Int32).toInt = 0) c47056
    refine lv_iconst (v := 0) hx hb dX11_isRoom_29 (by decide) ?_
    exact t_zret hQ X hT (by decide) (⟨rfl, ⟨(by decide), fun h => absurd (by decide) h⟩⟩) (Nat.le_of_ble_eq_true rfl) (Nat.le_of_ble_eq_true rfl) dX11_isRoom_30
  · have w47058 := cv_ne (rfl : z47055.toInt = z47055.toInt) (by decide : (0 : Int32).toInt = 0) c47056
    have w47059 := (fun h => (iz47055 h)) (by omega)
    refine lv_iload_n hx hb dX11_isRoom_8 rfl (lv_at hl 2 rfl) ?_
    refine lv_if_lt (tgt := 29) hx hb dX11_isRoom_9 (by decide) (fun c47060 => ?_) (fun c47060 => ?_)
    · have w47061 := cv_lt (rfl : p2.toInt = p2.toInt) (by decide : (0 : Int32).toInt = 0) c47060
      refine lv_iconst (v := 0) hx hb dX11_isRoom_29 (by decide) ?_
      exact t_zret hQ X hT (by decide) (⟨rfl, ⟨(by decide), fun h => absurd (by decide) h⟩⟩) (Nat.le_of_ble_eq_true rfl) (Nat.le_of_ble_eq_true rfl) dX11_isRoom_30
    · have w47062 := cv_nlt (rfl : p2.toInt = p2.toInt) (by decide : (0 : Int32).toInt = 0) c47060
      refine lv_iload_n hx hb dX11_isRoom_12 rfl (lv_at hl 2 rfl) ?_
      refine lv_aload_n hx hb dX11_isRoom_13 rfl (lv_at hl 0 rfl) ?_
      refine t_get (C := RX11) (T := TX11) (N := 16) X hT m0 g0 rfl rfl 5 (by decide) qw_23 inlX11 rfl dX11_isRoom_14 (fun v47063 hv47063 ov47063 => ?_)
      obtain ⟨b47064, rfl, mb47064, gb47064⟩ := okV_r ov47063
      have gb47064 : tag b47064 = 19 := tg_of gb47064
      refine t_get (C := RX7) (T := TX7) (N := 7) X hT mb47064 gb47064 rfl rfl 2 (by decide) qw_766 inlX7 rfl dX11_isRoom_17 (fun v47065 hv47065 ov47065 => ?_)
      obtain ⟨b47066, rfl, mb47066, gb47066⟩ := okV_r ov47065
      have gb47066 : tag b47066 = 8 := tg_of gb47066
      refine lv_iload_n hx hb dX11_isRoom_20 rfl (lv_at hl 1 rfl) ?_
      refine t_ild X hT mb47066 gb47066 rfl (by omega) dX11_isRoom_21 (fun z47067 vz47067 rz47067 => ?_)
      have rz47067 : 0 ≤ z47067.toInt ∧ z47067.toInt ≤ 6 := rz47067
      refine lv_icmp_gt (tgt := 29) hx hb dX11_isRoom_22 (by decide) (fun c47068 => ?_) (fun c47068 => ?_)
      · have w47069 := cv_lt (rfl : z47067.toInt = z47067.toInt) (rfl : p2.toInt = p2.toInt) c47068
        refine lv_iconst (v := 0) hx hb dX11_isRoom_29 (by decide) ?_
        exact t_zret hQ X hT (by decide) (⟨rfl, ⟨(by decide), fun h => absurd (by decide) h⟩⟩) (Nat.le_of_ble_eq_true rfl) (Nat.le_of_ble_eq_true rfl) dX11_isRoom_30
      · have w47070 := cv_nlt (rfl : z47067.toInt = z47067.toInt) (rfl : p2.toInt = p2.toInt) c47068
        refine lv_iconst (v := 1) hx hb dX11_isRoom_25 (by decide) ?_
        refine lv_goto (tgt := 30) hx hb dX11_isRoom_26 (by decide) ?_
        exact t_zret hQ X hT (by decide) (⟨rfl, ⟨(by decide), fun _ => ⟨by omega, by omega⟩⟩⟩) (Nat.le_of_ble_eq_true rfl) (Nat.le_of_ble_eq_true rfl) dX11_isRoom_30
set_option maxHeartbeats 4000000 in
set_option maxRecDepth 100000 in
theorem kt134_X11_isSkin (l : Launch) (G : KG) (tag : Nat → Nat) (L : List Nat) (F : Nat → va_E) (ho : okT G ttC tag L F) (p0 : Nat) (p1 : Int32) (p2 : Int32) (m0 : p0 ∈ L) (g0 : tag p0 = 26) : TMi l yX11_isSkin cX11_isSkin 3 (some .boolean) { frames := 2, cells := 0, slots := 0, locals := 43 } G ttC tag L F [.ref p0, .int p1, .int p2] (fun r F1 => F1 = F ∧ ((0 ≤ r.toInt ∧ r.toInt ≤ 1) ∧ (r.toInt ≠ 0 → (0 ≤ p1.toInt ∧ p1.toInt ≤ 3) ∧ (1 ≤ p2.toInt ∧ p2.toInt ≤ 6)))) := by
  refine t_bodyi (y := yX11_isSkin) (cd := cX11_isSkin) (mL := 3) (rt := (some .boolean)) (rm := { frames := 2, cells := 0, slots := 0, locals := 43 }) (av := [.ref p0, .int p1, .int p2]) (by decide) (Nat.le_of_ble_eq_true rfl) ho ?_
  intro p e s m args below meth c ls A Q hQ X hT hl
  have hx := X.1.1
  have hb := X.1.2.1
  have hl : lv_has ls 3 [(0, .ref p0), (1, .int p1), (2, .int p2)] := hl
  have rp1 := rg_all p1
  have rp2 := rg_all p2
  refine lv_iload_n hx hb dX11_isSkin_0 rfl (lv_at hl 2 rfl) ?_
  refine lv_if_le (tgt := 17) hx hb dX11_isSkin_1 (by decide) (fun c47170 => ?_) (fun c47170 => ?_)
  · have w47171 := cv_le (rfl : p2.toInt = p2.toInt) (by decide : (0 : Int32).toInt = 0) c47170
    refine lv_iconst (v := 0) hx hb dX11_isSkin_17 (by decide) ?_
    exact t_zret hQ X hT (by decide) (⟨rfl, ⟨(by decide), fun h => absurd (by decide) h⟩⟩) (Nat.le_of_ble_eq_true rfl) (Nat.le_of_ble_eq_true rfl) dX11_isSkin_18
  · have w47172 := cv_nle (rfl : p2.toInt = p2.toInt) (by decide : (0 : Int32).toInt = 0) c47170
    refine lv_aload_n hx hb dX11_isSkin_4 rfl (lv_at hl 0 rfl) ?_
    refine lv_iload_n hx hb dX11_isSkin_5 rfl (lv_at hl 1 rfl) ?_
    refine lv_iload_n hx hb dX11_isSkin_6 rfl (lv_at hl 2 rfl) ?_
    refine t_cVi (n := 2) (C := RX11) (T := TX11) (N := 16) (As := [.int p1, .int p2]) (rest := []) X hT (kt94_X11_isRoom l G tag L F hT.2.2.2 p0 p1 p2 m0 g0) m0 g0 rfl rfl qw_827 qw_828 qw_829 qw_2 qw_830 ⟨rfl, by decide +kernel, by decide +kernel, by decide +kernel⟩ ⟨Nat.le_of_ble_eq_true rfl, Nat.le_of_ble_eq_true rfl⟩ hl rfl rfl (Nat.le_of_ble_eq_true rfl) dX11_isSkin_7 ⟨Nat.le_of_ble_eq_true rfl, Nat.le_of_ble_eq_true rfl⟩ (fun z47173 F9 H locs hT hz47173 => ?_)
    obtain ⟨fz47173, hz47173⟩ := hz47173
    rw [fz47173] at hT
    obtain ⟨hz47173, iz47173⟩ := hz47173
    refine lv_if_eq (tgt := 17) hx hb dX11_isSkin_10 (by decide) (fun c47174 => ?_) (fun c47174 => ?_)
    · have w47175 := cv_eq (rfl : z47173.toInt = z47173.toInt) (by decide : (0 : Int32).toInt = 0) c47174
      refine lv_iconst (v := 0) hx hb dX11_isSkin_17 (by decide) ?_
      exact t_zret hQ X hT (by decide) (⟨rfl, ⟨(by decide), fun h => absurd (by decide) h⟩⟩) (Nat.le_of_ble_eq_true rfl) (Nat.le_of_ble_eq_true rfl) dX11_isSkin_18
    · have w47176 := cv_ne (rfl : z47173.toInt = z47173.toInt) (by decide : (0 : Int32).toInt = 0) c47174
      have w47177 := (fun h => (iz47173 h).1) (by omega)
      have w47178 := (fun h => (iz47173 h).2) (by omega)
      refine lv_iconst (v := 1) hx hb dX11_isSkin_13 (by decide) ?_
      refine lv_goto (tgt := 18) hx hb dX11_isSkin_14 (by decide) ?_
      exact t_zret hQ X hT (by decide) (⟨rfl, ⟨(by decide), fun _ => ⟨by omega, by omega⟩⟩⟩) (Nat.le_of_ble_eq_true rfl) (Nat.le_of_ble_eq_true rfl) dX11_isSkin_18
set_option maxHeartbeats 4000000 in
set_option maxRecDepth 100000 in
theorem kt135_X11_isStone (l : Launch) (G : KG) (tag : Nat → Nat) (L : List Nat) (F : Nat → va_E) (ho : okT G ttC tag L F) (p0 : Nat) (p1 : Int32) (m0 : p0 ∈ L) (g0 : tag p0 = 26) : TMi l yX11_isStone cX11_isStone 2 (some .boolean) { frames := 0, cells := 0, slots := 0, locals := 0 } G ttC tag L F [.ref p0, .int p1] (fun r F1 => F1 = F ∧ (0 ≤ r.toInt ∧ r.toInt ≤ 1)) := by
  refine t_bodyi (y := yX11_isStone) (cd := cX11_isStone) (mL := 2) (rt := (some .boolean)) (rm := { frames := 0, cells := 0, slots := 0, locals := 0 }) (av := [.ref p0, .int p1]) (by decide) (Nat.le_of_ble_eq_true rfl) ho ?_
  intro p e s m args below meth c ls A Q hQ X hT hl
  have hx := X.1.1
  have hb := X.1.2.1
  have hl : lv_has ls 2 [(0, .ref p0), (1, .int p1)] := hl
  have rp1 := rg_all p1
  refine lv_aload_n hx hb dX11_isStone_0 rfl (lv_at hl 0 rfl) ?_
  refine t_get (C := RX11) (T := TX11) (N := 16) X hT m0 g0 rfl rfl 2 (by decide) qw_150 inlX11 rfl dX11_isStone_1 (fun v47344 hv47344 ov47344 => ?_)
  obtain ⟨z47345, rfl, rz47345⟩ := okV_i ov47344
  refine lv_if_eq (tgt := 26) hx hb dX11_isStone_4 (by decide) (fun c47346 => ?_) (fun c47346 => ?_)
  · have w47347 := cv_eq (rfl : z47345.toInt = z47345.toInt) (by decide : (0 : Int32).toInt = 0) c47346
    refine lv_iconst (v := 0) hx hb dX11_isStone_26 (by decide) ?_
    exact t_zret hQ X hT (by decide) (⟨rfl, (by decide)⟩) (Nat.le_of_ble_eq_true rfl) (Nat.le_of_ble_eq_true rfl) dX11_isStone_27
  · have w47348 := cv_ne (rfl : z47345.toInt = z47345.toInt) (by decide : (0 : Int32).toInt = 0) c47346
    refine lv_iload_n hx hb dX11_isStone_7 rfl (lv_at hl 1 rfl) ?_
    refine lv_if_lt (tgt := 26) hx hb dX11_isStone_8 (by decide) (fun c47349 => ?_) (fun c47349 => ?_)
    · have w47350 := cv_lt (rfl : p1.toInt = p1.toInt) (by decide : (0 : Int32).toInt = 0) c47349
      refine lv_iconst (v := 0) hx hb dX11_isStone_26 (by decide) ?_
      exact t_zret hQ X hT (by decide) (⟨rfl, (by decide)⟩) (Nat.le_of_ble_eq_true rfl) (Nat.le_of_ble_eq_true rfl) dX11_isStone_27
    · have w47351 := cv_nlt (rfl : p1.toInt = p1.toInt) (by decide : (0 : Int32).toInt = 0) c47349
      refine lv_iload_n hx hb dX11_isStone_11 rfl (lv_at hl 1 rfl) ?_
      refine lv_aload_n hx hb dX11_isStone_12 rfl (lv_at hl 0 rfl) ?_
      refine t_get (C := RX11) (T := TX11) (N := 16) X hT m0 g0 rfl rfl 3 (by decide) qw_18 inlX11 rfl dX11_isStone_13 (fun v47352 hv47352 ov47352 => ?_)
      obtain ⟨b47353, rfl, mb47353, gb47353⟩ := okV_r ov47352
      have gb47353 : tag b47353 = 18 := tg_of gb47353
      refine t_get (C := RX1) (T := TX1) (N := 20) X hT mb47353 gb47353 rfl rfl 8 (by decide) qw_958 inlX1 rfl dX11_isStone_16 (fun v47354 hv47354 ov47354 => ?_)
      obtain ⟨z47355, rfl, rz47355⟩ := okV_i ov47354
      refine lv_icmp_ge (tgt := 26) hx hb dX11_isStone_19 (by decide) (fun c47356 => ?_) (fun c47356 => ?_)
      · have w47357 := cv_le (rfl : z47355.toInt = z47355.toInt) (rfl : p1.toInt = p1.toInt) c47356
        refine lv_iconst (v := 0) hx hb dX11_isStone_26 (by decide) ?_
        exact t_zret hQ X hT (by decide) (⟨rfl, (by decide)⟩) (Nat.le_of_ble_eq_true rfl) (Nat.le_of_ble_eq_true rfl) dX11_isStone_27
      · have w47358 := cv_nle (rfl : z47355.toInt = z47355.toInt) (rfl : p1.toInt = p1.toInt) c47356
        refine lv_iconst (v := 1) hx hb dX11_isStone_22 (by decide) ?_
        refine lv_goto (tgt := 27) hx hb dX11_isStone_23 (by decide) ?_
        exact t_zret hQ X hT (by decide) (⟨rfl, (by decide)⟩) (Nat.le_of_ble_eq_true rfl) (Nat.le_of_ble_eq_true rfl) dX11_isStone_27
set_option maxHeartbeats 4000000 in
set_option maxRecDepth 100000 in
theorem kt136_X11_isWall (l : Launch) (G : KG) (tag : Nat → Nat) (L : List Nat) (F : Nat → va_E) (ho : okT G ttC tag L F) (p0 : Nat) (p1 : Int32) (m0 : p0 ∈ L) (g0 : tag p0 = 26) : TMi l yX11_isWall cX11_isWall 2 (some .boolean) { frames := 0, cells := 0, slots := 0, locals := 0 } G ttC tag L F [.ref p0, .int p1] (fun r F1 => F1 = F ∧ ((0 ≤ r.toInt ∧ r.toInt ≤ 1) ∧ (r.toInt ≠ 0 → (0 ≤ p1.toInt ∧ p1.toInt ≤ 5)))) := by
  refine t_bodyi (y := yX11_isWall) (cd := cX11_isWall) (mL := 2) (rt := (some .boolean)) (rm := { frames := 0, cells := 0, slots := 0, locals := 0 }) (av := [.ref p0, .int p1]) (by decide) (Nat.le_of_ble_eq_true rfl) ho ?_
  intro p e s m args below meth c ls A Q hQ X hT hl
  have hx := X.1.1
  have hb := X.1.2.1
  have hl : lv_has ls 2 [(0, .ref p0), (1, .int p1)] := hl
  have rp1 := rg_all p1
  refine lv_aload_n hx hb dX11_isWall_0 rfl (lv_at hl 0 rfl) ?_
  refine t_get (C := RX11) (T := TX11) (N := 16) X hT m0 g0 rfl rfl 2 (by decide) qw_150 inlX11 rfl dX11_isWall_1 (fun v47524 hv47524 ov47524 => ?_)
  obtain ⟨z47525, rfl, rz47525⟩ := okV_i ov47524
  refine lv_if_eq (tgt := 26) hx hb dX11_isWall_4 (by decide) (fun c47526 => ?_) (fun c47526 => ?_)
  · have w47527 := cv_eq (rfl : z47525.toInt = z47525.toInt) (by decide : (0 : Int32).toInt = 0) c47526
    refine lv_iconst (v := 0) hx hb dX11_isWall_26 (by decide) ?_
    exact t_zret hQ X hT (by decide) (⟨rfl, ⟨(by decide), fun h => absurd (by decide) h⟩⟩) (Nat.le_of_ble_eq_true rfl) (Nat.le_of_ble_eq_true rfl) dX11_isWall_27
  · have w47528 := cv_ne (rfl : z47525.toInt = z47525.toInt) (by decide : (0 : Int32).toInt = 0) c47526
    refine lv_iload_n hx hb dX11_isWall_7 rfl (lv_at hl 1 rfl) ?_
    refine lv_if_lt (tgt := 26) hx hb dX11_isWall_8 (by decide) (fun c47529 => ?_) (fun c47529 => ?_)
    · have w47530 := cv_lt (rfl : p1.toInt = p1.toInt) (by decide : (0 : Int32).toInt = 0) c47529
      refine lv_iconst (v := 0) hx hb dX11_isWall_26 (by decide) ?_
      exact t_zret hQ X hT (by decide) (⟨rfl, ⟨(by decide), fun h => absurd (by decide) h⟩⟩) (Nat.le_of_ble_eq_true rfl) (Nat.le_of_ble_eq_true rfl) dX11_isWall_27
    · have w47531 := cv_nlt (rfl : p1.toInt = p1.toInt) (by decide : (0 : Int32).toInt = 0) c47529
      refine lv_iload_n hx hb dX11_isWall_11 rfl (lv_at hl 1 rfl) ?_
      refine lv_aload_n hx hb dX11_isWall_12 rfl (lv_at hl 0 rfl) ?_
      refine t_get (C := RX11) (T := TX11) (N := 16) X hT m0 g0 rfl rfl 3 (by decide) qw_18 inlX11 rfl dX11_isWall_13 (fun v47532 hv47532 ov47532 => ?_)
      obtain ⟨b47533, rfl, mb47533, gb47533⟩ := okV_r ov47532
      have gb47533 : tag b47533 = 18 := tg_of gb47533
      refine t_get (C := RX1) (T := TX1) (N := 20) X hT mb47533 gb47533 rfl rfl 16 (by decide) qw_1383 inlX1 rfl dX11_isWall_16 (fun v47534 hv47534 ov47534 => ?_)
      obtain ⟨z47535, rfl, rz47535⟩ := okV_i ov47534
      refine lv_icmp_ge (tgt := 26) hx hb dX11_isWall_19 (by decide) (fun c47536 => ?_) (fun c47536 => ?_)
      · have w47537 := cv_le (rfl : z47535.toInt = z47535.toInt) (rfl : p1.toInt = p1.toInt) c47536
        refine lv_iconst (v := 0) hx hb dX11_isWall_26 (by decide) ?_
        exact t_zret hQ X hT (by decide) (⟨rfl, ⟨(by decide), fun h => absurd (by decide) h⟩⟩) (Nat.le_of_ble_eq_true rfl) (Nat.le_of_ble_eq_true rfl) dX11_isWall_27
      · have w47538 := cv_nle (rfl : z47535.toInt = z47535.toInt) (rfl : p1.toInt = p1.toInt) c47536
        refine lv_iconst (v := 1) hx hb dX11_isWall_22 (by decide) ?_
        refine lv_goto (tgt := 27) hx hb dX11_isWall_23 (by decide) ?_
        exact t_zret hQ X hT (by decide) (⟨rfl, ⟨(by decide), fun _ => by omega⟩⟩) (Nat.le_of_ble_eq_true rfl) (Nat.le_of_ble_eq_true rfl) dX11_isWall_27
set_option maxHeartbeats 4000000 in
set_option maxRecDepth 100000 in
theorem kt137_X1_clear (l : Launch) (G : KG) (tag : Nat → Nat) (L : List Nat) (Fo : Nat → va_E) (ho : okT G ttC tag L Fo) (p0 : Nat) (m0 : p0 ∈ L) (g0 : tag p0 = 18) : TMv l yX1_clear cX1_clear 2 { frames := 0, cells := 0, slots := 0, locals := 0 } G ttC tag L Fo [.ref p0] (fun F1 => ∀ b j : Nat, (tag b ≠ 18 ∨ j ≠ 0) → (tag b ≠ 18 ∨ j ≠ 1) → (tag b ≠ 18 ∨ j ≠ 8) → (tag b ≠ 18 ∨ j ≠ 10) → (tag b ≠ 18 ∨ j ≠ 14) → (tag b ≠ 18 ∨ j ≠ 16) → fld F1 b j = fld Fo b j) := by
  refine t_bodyv (y := yX1_clear) (cd := cX1_clear) (mL := 2) (rm := { frames := 0, cells := 0, slots := 0, locals := 0 }) (av := [.ref p0]) (by decide) (Nat.le_of_ble_eq_true rfl) ho ?_
  intro p e s m args below meth c ls A Q hQ X hT hl
  have hx := X.1.1
  have hb := X.1.2.1
  have hl : lv_has ls 2 [(0, .ref p0)] := hl
  obtain ⟨F, hFo⟩ : ∃ F : Nat → va_E, F = Fo := ⟨_, rfl⟩
  rw [← hFo] at hT
  have hfr : ∀ b j : Nat, (tag b ≠ 18 ∨ j ≠ 0) → (tag b ≠ 18 ∨ j ≠ 1) → (tag b ≠ 18 ∨ j ≠ 8) → (tag b ≠ 18 ∨ j ≠ 10) → (tag b ≠ 18 ∨ j ≠ 14) → (tag b ≠ 18 ∨ j ≠ 16) → fld F b j = fld Fo b j := by
    rw [hFo]
    intros
    rfl
  have K56 : ∀ (n : Nat) (z48222 : Int32) (z48223 : Int32) (z48224 : Int32) (z48225 : Int32) (z48226 : Int32) (z48227 : Int32) (z48228 : Int32) (F : Nat → va_E) (H : Heap) (locs : List Loc) (ls : Array Slot), (6 - z48222.toInt < (n : Int)) → (0 ≤ z48222.toInt ∧ z48222.toInt ≤ 6) → (0 ≤ z48223.toInt ∧ z48223.toInt ≤ 0) → (0 ≤ z48224.toInt ∧ z48224.toInt ≤ 0) → (0 ≤ z48225.toInt ∧ z48225.toInt ≤ 0) → (0 ≤ z48226.toInt ∧ z48226.toInt ≤ 0) → (0 ≤ z48227.toInt ∧ z48227.toInt ≤ 0) → (0 ≤ z48228.toInt ∧ z48228.toInt ≤ 0) → TH G ttC A s tag L F H locs → (∀ b j : Nat, (tag b ≠ 18 ∨ j ≠ 0) → (tag b ≠ 18 ∨ j ≠ 1) → (tag b ≠ 18 ∨ j ≠ 8) → (tag b ≠ 18 ∨ j ≠ 10) → (tag b ≠ 18 ∨ j ≠ 14) → (tag b ≠ 18 ∨ j ≠ 16) → fld F b j = fld Fo b j) → fld F p0 0 = .int z48223 → fld F p0 1 = .int z48224 → fld F p0 8 = .int z48225 → fld F p0 10 = .int z48226 → fld F p0 14 = .int z48227 → fld F p0 16 = .int z48228 → lv_has ls 2 [(0, .ref p0), (1, .int z48222)] → W p l e { frames := 0, cells := 0, slots := 0, locals := 0 } s m args below meth c H locs 0 0 Q (F0 m 56 ls []) := by
    intro n
    induction n with
    | zero =>
      intro z48222 z48223 z48224 z48225 z48226 z48227 z48228 F H locs ls hn rz48222 rz48223 rz48224 rz48225 rz48226 rz48227 rz48228 hT hfr qz48223 qz48224 qz48225 qz48226 qz48227 qz48228 hl
      exfalso
      omega
    | succ n ih56 =>
      intro z48222 z48223 z48224 z48225 z48226 z48227 z48228 F H locs ls hn rz48222 rz48223 rz48224 rz48225 rz48226 rz48227 rz48228 hT hfr qz48223 qz48224 qz48225 qz48226 qz48227 qz48228 hl
      refine lv_iload_n hx hb dX1_clear_56 rfl (lv_at hl 1 rfl) ?_
      refine lv_bipush (v := 6) hx hb dX1_clear_57 (by decide) ?_
      refine lv_icmp_ge (tgt := 89) hx hb dX1_clear_59 (by decide) (fun c48229 => ?_) (fun c48229 => ?_)
      · have w48230 := cv_le (by decide : (6 : Int32).toInt = 6) (rfl : z48222.toInt = z48222.toInt) c48229
        exact t_vret hQ X hT hfr (Nat.le_of_ble_eq_true rfl) (Nat.le_of_ble_eq_true rfl) dX1_clear_89
      · have w48231 := cv_nle (by decide : (6 : Int32).toInt = 6) (rfl : z48222.toInt = z48222.toInt) c48229
        refine lv_aload_n hx hb dX1_clear_62 rfl (lv_at hl 0 rfl) ?_
        refine t_get (C := RX1) (T := TX1) (N := 20) X hT m0 g0 rfl rfl 17 (by decide) qw_56 inlX1 rfl dX1_clear_63 (fun v48232 hv48232 ov48232 => ?_)
        obtain ⟨b48233, rfl, mb48233, gb48233⟩ := okV_r ov48232
        have gb48233 : tag b48233 = 7 := tg_of gb48233
        refine lv_iload_n hx hb dX1_clear_66 rfl (lv_at hl 1 rfl) ?_
        refine lv_iconst (v := 0) hx hb dX1_clear_67 (by decide) ?_
        refine t_ist X hT mb48233 gb48233 rfl (by omega) (show (-2147483648) ≤ (0 : Int32).toInt ∧ (0 : Int32).toInt ≤ 2147483647 from (by decide)) dX1_clear_68 (fun F H locs hT v48234 h1v48234 h2v48234 => ?_)
        have qz48223 := (h2v48234 _ _).trans qz48223
        have qz48224 := (h2v48234 _ _).trans qz48224
        have qz48225 := (h2v48234 _ _).trans qz48225
        have qz48226 := (h2v48234 _ _).trans qz48226
        have qz48227 := (h2v48234 _ _).trans qz48227
        have qz48228 := (h2v48234 _ _).trans qz48228
        have hv48232 := (h2v48234 _ _).trans hv48232
        have hfr : ∀ b j : Nat, (tag b ≠ 18 ∨ j ≠ 0) → (tag b ≠ 18 ∨ j ≠ 1) → (tag b ≠ 18 ∨ j ≠ 8) → (tag b ≠ 18 ∨ j ≠ 10) → (tag b ≠ 18 ∨ j ≠ 14) → (tag b ≠ 18 ∨ j ≠ 16) → fld F b j = fld Fo b j := fun b j n18_0 n18_1 n18_8 n18_10 n18_14 n18_16 => (h2v48234 b j).trans (hfr b j n18_0 n18_1 n18_8 n18_10 n18_14 n18_16)
        refine lv_aload_n hx hb dX1_clear_69 rfl (lv_at hl 0 rfl) ?_
        refine t_get (C := RX1) (T := TX1) (N := 20) X hT m0 g0 rfl rfl 18 (by decide) qw_57 inlX1 rfl dX1_clear_70 (fun v48235 hv48235 ov48235 => ?_)
        obtain ⟨b48236, rfl, mb48236, gb48236⟩ := okV_r ov48235
        have gb48236 : tag b48236 = 7 := tg_of gb48236
        refine lv_iload_n hx hb dX1_clear_73 rfl (lv_at hl 1 rfl) ?_
        refine lv_iconst (v := (-1)) hx hb dX1_clear_74 (by decide) ?_
        refine t_ist X hT mb48236 gb48236 rfl (by omega) (show (-2147483648) ≤ ((-1) : Int32).toInt ∧ ((-1) : Int32).toInt ≤ 2147483647 from (by decide)) dX1_clear_75 (fun F H locs hT v48237 h1v48237 h2v48237 => ?_)
        have qz48223 := (h2v48237 _ _).trans qz48223
        have qz48224 := (h2v48237 _ _).trans qz48224
        have qz48225 := (h2v48237 _ _).trans qz48225
        have qz48226 := (h2v48237 _ _).trans qz48226
        have qz48227 := (h2v48237 _ _).trans qz48227
        have qz48228 := (h2v48237 _ _).trans qz48228
        have hv48232 := (h2v48237 _ _).trans hv48232
        have hv48235 := (h2v48237 _ _).trans hv48235
        have hfr : ∀ b j : Nat, (tag b ≠ 18 ∨ j ≠ 0) → (tag b ≠ 18 ∨ j ≠ 1) → (tag b ≠ 18 ∨ j ≠ 8) → (tag b ≠ 18 ∨ j ≠ 10) → (tag b ≠ 18 ∨ j ≠ 14) → (tag b ≠ 18 ∨ j ≠ 16) → fld F b j = fld Fo b j := fun b j n18_0 n18_1 n18_8 n18_10 n18_14 n18_16 => (h2v48237 b j).trans (hfr b j n18_0 n18_1 n18_8 n18_10 n18_14 n18_16)
        refine lv_aload_n hx hb dX1_clear_76 rfl (lv_at hl 0 rfl) ?_
        refine t_get (C := RX1) (T := TX1) (N := 20) X hT m0 g0 rfl rfl 19 (by decide) qw_58 inlX1 rfl dX1_clear_77 (fun v48238 hv48238 ov48238 => ?_)
        obtain ⟨b48239, rfl, mb48239, gb48239⟩ := okV_r ov48238
        have gb48239 : tag b48239 = 7 := tg_of gb48239
        refine lv_iload_n hx hb dX1_clear_80 rfl (lv_at hl 1 rfl) ?_
        refine lv_iconst (v := (-1)) hx hb dX1_clear_81 (by decide) ?_
        refine t_ist X hT mb48239 gb48239 rfl (by omega) (show (-2147483648) ≤ ((-1) : Int32).toInt ∧ ((-1) : Int32).toInt ≤ 2147483647 from (by decide)) dX1_clear_82 (fun F H locs hT v48240 h1v48240 h2v48240 => ?_)
        have qz48223 := (h2v48240 _ _).trans qz48223
        have qz48224 := (h2v48240 _ _).trans qz48224
        have qz48225 := (h2v48240 _ _).trans qz48225
        have qz48226 := (h2v48240 _ _).trans qz48226
        have qz48227 := (h2v48240 _ _).trans qz48227
        have qz48228 := (h2v48240 _ _).trans qz48228
        have hv48232 := (h2v48240 _ _).trans hv48232
        have hv48235 := (h2v48240 _ _).trans hv48235
        have hv48238 := (h2v48240 _ _).trans hv48238
        have hfr : ∀ b j : Nat, (tag b ≠ 18 ∨ j ≠ 0) → (tag b ≠ 18 ∨ j ≠ 1) → (tag b ≠ 18 ∨ j ≠ 8) → (tag b ≠ 18 ∨ j ≠ 10) → (tag b ≠ 18 ∨ j ≠ 14) → (tag b ≠ 18 ∨ j ≠ 16) → fld F b j = fld Fo b j := fun b j n18_0 n18_1 n18_8 n18_10 n18_14 n18_16 => (h2v48240 b j).trans (hfr b j n18_0 n18_1 n18_8 n18_10 n18_14 n18_16)
        obtain ⟨z48241, ez48241⟩ : ∃ y : Int32, y = z48222 + 1 := ⟨_, rfl⟩
        have hz48241 : z48241.toInt = z48222.toInt + 1 := ar_add ez48241 rfl (by decide : (1 : Int32).toInt = 1) (by omega) (by omega)
        refine lv_iinc (v := z48241) (lv' := [(1, .int z48241), (0, .ref p0)]) hx hb dX1_clear_83 hl (k := 1) rfl (by rw [ez48241]; rfl) (by decide) rfl (fun ls hl => ?_)
        refine lv_goto (tgt := 56) hx hb dX1_clear_86 (by decide) ?_
        exact ih56 z48241 z48223 z48224 z48225 z48226 z48227 z48228 _ _ _ _ (by omega) (by omega) (by omega) (by omega) (by omega) (by omega) (by omega) (by omega) hT hfr qz48223 qz48224 qz48225 qz48226 qz48227 qz48228 (lv_sub hl [1, 0] rfl)
  have K32 : ∀ (n : Nat) (z48242 : Int32) (z48243 : Int32) (z48244 : Int32) (z48245 : Int32) (z48246 : Int32) (z48247 : Int32) (z48248 : Int32) (F : Nat → va_E) (H : Heap) (locs : List Loc) (ls : Array Slot), (144 - z48242.toInt < (n : Int)) → (0 ≤ z48242.toInt ∧ z48242.toInt ≤ 144) → (0 ≤ z48243.toInt ∧ z48243.toInt ≤ 0) → (0 ≤ z48244.toInt ∧ z48244.toInt ≤ 0) → (0 ≤ z48245.toInt ∧ z48245.toInt ≤ 0) → (0 ≤ z48246.toInt ∧ z48246.toInt ≤ 0) → (0 ≤ z48247.toInt ∧ z48247.toInt ≤ 0) → (0 ≤ z48248.toInt ∧ z48248.toInt ≤ 0) → TH G ttC A s tag L F H locs → (∀ b j : Nat, (tag b ≠ 18 ∨ j ≠ 0) → (tag b ≠ 18 ∨ j ≠ 1) → (tag b ≠ 18 ∨ j ≠ 8) → (tag b ≠ 18 ∨ j ≠ 10) → (tag b ≠ 18 ∨ j ≠ 14) → (tag b ≠ 18 ∨ j ≠ 16) → fld F b j = fld Fo b j) → fld F p0 0 = .int z48243 → fld F p0 1 = .int z48244 → fld F p0 8 = .int z48245 → fld F p0 10 = .int z48246 → fld F p0 14 = .int z48247 → fld F p0 16 = .int z48248 → lv_has ls 2 [(0, .ref p0), (1, .int z48242)] → W p l e { frames := 0, cells := 0, slots := 0, locals := 0 } s m args below meth c H locs 0 0 Q (F0 m 32 ls []) := by
    intro n
    induction n with
    | zero =>
      intro z48242 z48243 z48244 z48245 z48246 z48247 z48248 F H locs ls hn rz48242 rz48243 rz48244 rz48245 rz48246 rz48247 rz48248 hT hfr qz48243 qz48244 qz48245 qz48246 qz48247 qz48248 hl
      exfalso
      omega
    | succ n ih32 =>
      intro z48242 z48243 z48244 z48245 z48246 z48247 z48248 F H locs ls hn rz48242 rz48243 rz48244 rz48245 rz48246 rz48247 rz48248 hT hfr qz48243 qz48244 qz48245 qz48246 qz48247 qz48248 hl
      refine lv_iload_n hx hb dX1_clear_32 rfl (lv_at hl 1 rfl) ?_
      refine lv_aload_n hx hb dX1_clear_33 rfl (lv_at hl 0 rfl) ?_
      refine t_get (C := RX1) (T := TX1) (N := 20) X hT m0 g0 rfl rfl 7 (by decide) qw_50 inlX1 rfl dX1_clear_34 (fun v48249 hv48249 ov48249 => ?_)
      obtain ⟨b48250, rfl, mb48250, gb48250⟩ := okV_r ov48249
      have gb48250 : tag b48250 = 2 := tg_of gb48250
      refine t_alen X hT mb48250 gb48250 rfl (by decide) dX1_clear_37 ?_
      refine lv_topi (fun z48251 ez48251 => ?_)
      obtain rfl : z48251 = 144 := ez48251.trans (by rfl)
      refine lv_icmp_ge (tgt := 54) hx hb dX1_clear_38 (by decide) (fun c48252 => ?_) (fun c48252 => ?_)
      · have w48253 := cv_le (by decide : (144 : Int32).toInt = 144) (rfl : z48242.toInt = z48242.toInt) c48252
        refine lv_iconst (v := 0) hx hb dX1_clear_54 (by decide) ?_
        refine lv_istore_n (lv' := [(1, .int 0), (0, .ref p0)]) hx hb dX1_clear_55 rfl hl (by decide) rfl (fun ls hl => ?_)
        have kk48254 : (0 : Int32).toInt = 0 := by decide
        exact K56 7 0 z48243 z48244 z48245 z48246 z48247 z48248 _ _ _ _ (by omega) (by decide) (by omega) (by omega) (by omega) (by omega) (by omega) (by omega) hT hfr qz48243 qz48244 qz48245 qz48246 qz48247 qz48248 (lv_sub hl [1, 0] rfl)
      · have w48255 := cv_nle (by decide : (144 : Int32).toInt = 144) (rfl : z48242.toInt = z48242.toInt) c48252
        refine lv_aload_n hx hb dX1_clear_41 rfl (lv_at hl 0 rfl) ?_
        refine t_get (C := RX1) (T := TX1) (N := 20) X hT m0 g0 rfl rfl 7 (by decide) qw_50 inlX1 rfl dX1_clear_42 (fun v48256 hv48256 ov48256 => ?_)
        obtain rfl : v48256 = .ref b48250 := hv48256.symm.trans hv48249
        refine lv_iload_n hx hb dX1_clear_45 rfl (lv_at hl 1 rfl) ?_
        refine lv_iconst (v := 0) hx hb dX1_clear_46 (by decide) ?_
        refine t_zst X hT mb48250 gb48250 rfl (by omega) (show 0 ≤ (vp_nar .boolean 0).toInt ∧ (vp_nar .boolean 0).toInt ≤ 1 from (by decide)) dX1_clear_47 (fun F H locs hT v48257 h1v48257 h2v48257 => ?_)
        have qz48243 := (h2v48257 _ _).trans qz48243
        have qz48244 := (h2v48257 _ _).trans qz48244
        have qz48245 := (h2v48257 _ _).trans qz48245
        have qz48246 := (h2v48257 _ _).trans qz48246
        have qz48247 := (h2v48257 _ _).trans qz48247
        have qz48248 := (h2v48257 _ _).trans qz48248
        have hv48249 := (h2v48257 _ _).trans hv48249
        have hfr : ∀ b j : Nat, (tag b ≠ 18 ∨ j ≠ 0) → (tag b ≠ 18 ∨ j ≠ 1) → (tag b ≠ 18 ∨ j ≠ 8) → (tag b ≠ 18 ∨ j ≠ 10) → (tag b ≠ 18 ∨ j ≠ 14) → (tag b ≠ 18 ∨ j ≠ 16) → fld F b j = fld Fo b j := fun b j n18_0 n18_1 n18_8 n18_10 n18_14 n18_16 => (h2v48257 b j).trans (hfr b j n18_0 n18_1 n18_8 n18_10 n18_14 n18_16)
        obtain ⟨z48258, ez48258⟩ : ∃ y : Int32, y = z48242 + 1 := ⟨_, rfl⟩
        have hz48258 : z48258.toInt = z48242.toInt + 1 := ar_add ez48258 rfl (by decide : (1 : Int32).toInt = 1) (by omega) (by omega)
        refine lv_iinc (v := z48258) (lv' := [(1, .int z48258), (0, .ref p0)]) hx hb dX1_clear_48 hl (k := 1) rfl (by rw [ez48258]; rfl) (by decide) rfl (fun ls hl => ?_)
        refine lv_goto (tgt := 32) hx hb dX1_clear_51 (by decide) ?_
        exact ih32 z48258 z48243 z48244 z48245 z48246 z48247 z48248 _ _ _ _ (by omega) (by omega) (by omega) (by omega) (by omega) (by omega) (by omega) (by omega) hT hfr qz48243 qz48244 qz48245 qz48246 qz48247 qz48248 (lv_sub hl [1, 0] rfl)
  refine lv_aload_n hx hb dX1_clear_0 rfl (lv_at hl 0 rfl) ?_
  refine lv_iconst (v := 0) hx hb dX1_clear_1 (by decide) ?_
  refine t_put (C := RX1) (T := TX1) (N := 20) (v := .int 0) X hT m0 g0 rfl tyX1 tyX1_ok nmX1 rfl 0 (by decide) qw_177 inlX1 rfl (by first | rfl | decide) (by first | rfl | decide) rfl (⟨_, rfl, (by decide), (by decide)⟩) dX1_clear_2 (fun F H locs hT v48259 h1v48259 h2v48259 => ?_)
  have hfr : ∀ b j : Nat, (tag b ≠ 18 ∨ j ≠ 0) → (tag b ≠ 18 ∨ j ≠ 1) → (tag b ≠ 18 ∨ j ≠ 8) → (tag b ≠ 18 ∨ j ≠ 10) → (tag b ≠ 18 ∨ j ≠ 14) → (tag b ≠ 18 ∨ j ≠ 16) → fld F b j = fld Fo b j := fun b j n18_0 n18_1 n18_8 n18_10 n18_14 n18_16 => (h1v48259 b j (fr_ne g0 n18_0)).trans (hfr b j n18_0 n18_1 n18_8 n18_10 n18_14 n18_16)
  refine lv_aload_n hx hb dX1_clear_5 rfl (lv_at hl 0 rfl) ?_
  refine lv_iconst (v := 0) hx hb dX1_clear_6 (by decide) ?_
  refine t_put (C := RX1) (T := TX1) (N := 20) (v := .int 0) X hT m0 g0 rfl tyX1 tyX1_ok nmX1 rfl 1 (by decide) qw_178 inlX1 rfl (by first | rfl | decide) (by first | rfl | decide) rfl (⟨_, rfl, (by decide), (by decide)⟩) dX1_clear_7 (fun F H locs hT v48260 h1v48260 h2v48260 => ?_)
  have v48259 := (h1v48260 _ _ (Or.inr (by decide))).trans v48259
  have hfr : ∀ b j : Nat, (tag b ≠ 18 ∨ j ≠ 0) → (tag b ≠ 18 ∨ j ≠ 1) → (tag b ≠ 18 ∨ j ≠ 8) → (tag b ≠ 18 ∨ j ≠ 10) → (tag b ≠ 18 ∨ j ≠ 14) → (tag b ≠ 18 ∨ j ≠ 16) → fld F b j = fld Fo b j := fun b j n18_0 n18_1 n18_8 n18_10 n18_14 n18_16 => (h1v48260 b j (fr_ne g0 n18_1)).trans (hfr b j n18_0 n18_1 n18_8 n18_10 n18_14 n18_16)
  refine lv_aload_n hx hb dX1_clear_10 rfl (lv_at hl 0 rfl) ?_
  refine lv_iconst (v := 0) hx hb dX1_clear_11 (by decide) ?_
  refine t_put (C := RX1) (T := TX1) (N := 20) (v := .int 0) X hT m0 g0 rfl tyX1 tyX1_ok nmX1 rfl 8 (by decide) qw_179 inlX1 rfl (by first | rfl | decide) (by first | rfl | decide) rfl (⟨_, rfl, (by decide), (by decide)⟩) dX1_clear_12 (fun F H locs hT v48261 h1v48261 h2v48261 => ?_)
  have v48259 := (h1v48261 _ _ (Or.inr (by decide))).trans v48259
  have v48260 := (h1v48261 _ _ (Or.inr (by decide))).trans v48260
  have hfr : ∀ b j : Nat, (tag b ≠ 18 ∨ j ≠ 0) → (tag b ≠ 18 ∨ j ≠ 1) → (tag b ≠ 18 ∨ j ≠ 8) → (tag b ≠ 18 ∨ j ≠ 10) → (tag b ≠ 18 ∨ j ≠ 14) → (tag b ≠ 18 ∨ j ≠ 16) → fld F b j = fld Fo b j := fun b j n18_0 n18_1 n18_8 n18_10 n18_14 n18_16 => (h1v48261 b j (fr_ne g0 n18_8)).trans (hfr b j n18_0 n18_1 n18_8 n18_10 n18_14 n18_16)
  refine lv_aload_n hx hb dX1_clear_15 rfl (lv_at hl 0 rfl) ?_
  refine lv_iconst (v := 0) hx hb dX1_clear_16 (by decide) ?_
  refine t_put (C := RX1) (T := TX1) (N := 20) (v := .int 0) X hT m0 g0 rfl tyX1 tyX1_ok nmX1 rfl 10 (by decide) qw_180 inlX1 rfl (by first | rfl | decide) (by first | rfl | decide) rfl (⟨_, rfl, (by decide), (by decide)⟩) dX1_clear_17 (fun F H locs hT v48262 h1v48262 h2v48262 => ?_)
  have v48259 := (h1v48262 _ _ (Or.inr (by decide))).trans v48259
  have v48260 := (h1v48262 _ _ (Or.inr (by decide))).trans v48260
  have v48261 := (h1v48262 _ _ (Or.inr (by decide))).trans v48261
  have hfr : ∀ b j : Nat, (tag b ≠ 18 ∨ j ≠ 0) → (tag b ≠ 18 ∨ j ≠ 1) → (tag b ≠ 18 ∨ j ≠ 8) → (tag b ≠ 18 ∨ j ≠ 10) → (tag b ≠ 18 ∨ j ≠ 14) → (tag b ≠ 18 ∨ j ≠ 16) → fld F b j = fld Fo b j := fun b j n18_0 n18_1 n18_8 n18_10 n18_14 n18_16 => (h1v48262 b j (fr_ne g0 n18_10)).trans (hfr b j n18_0 n18_1 n18_8 n18_10 n18_14 n18_16)
  refine lv_aload_n hx hb dX1_clear_20 rfl (lv_at hl 0 rfl) ?_
  refine lv_iconst (v := 0) hx hb dX1_clear_21 (by decide) ?_
  refine t_put (C := RX1) (T := TX1) (N := 20) (v := .int 0) X hT m0 g0 rfl tyX1 tyX1_ok nmX1 rfl 14 (by decide) qw_181 inlX1 rfl (by first | rfl | decide) (by first | rfl | decide) rfl (⟨_, rfl, (by decide), (by decide)⟩) dX1_clear_22 (fun F H locs hT v48263 h1v48263 h2v48263 => ?_)
  have v48259 := (h1v48263 _ _ (Or.inr (by decide))).trans v48259
  have v48260 := (h1v48263 _ _ (Or.inr (by decide))).trans v48260
  have v48261 := (h1v48263 _ _ (Or.inr (by decide))).trans v48261
  have v48262 := (h1v48263 _ _ (Or.inr (by decide))).trans v48262
  have hfr : ∀ b j : Nat, (tag b ≠ 18 ∨ j ≠ 0) → (tag b ≠ 18 ∨ j ≠ 1) → (tag b ≠ 18 ∨ j ≠ 8) → (tag b ≠ 18 ∨ j ≠ 10) → (tag b ≠ 18 ∨ j ≠ 14) → (tag b ≠ 18 ∨ j ≠ 16) → fld F b j = fld Fo b j := fun b j n18_0 n18_1 n18_8 n18_10 n18_14 n18_16 => (h1v48263 b j (fr_ne g0 n18_14)).trans (hfr b j n18_0 n18_1 n18_8 n18_10 n18_14 n18_16)
  refine lv_aload_n hx hb dX1_clear_25 rfl (lv_at hl 0 rfl) ?_
  refine lv_iconst (v := 0) hx hb dX1_clear_26 (by decide) ?_
  refine t_put (C := RX1) (T := TX1) (N := 20) (v := .int 0) X hT m0 g0 rfl tyX1 tyX1_ok nmX1 rfl 16 (by decide) qw_182 inlX1 rfl (by first | rfl | decide) (by first | rfl | decide) rfl (⟨_, rfl, (by decide), (by decide)⟩) dX1_clear_27 (fun F H locs hT v48264 h1v48264 h2v48264 => ?_)
  have v48259 := (h1v48264 _ _ (Or.inr (by decide))).trans v48259
  have v48260 := (h1v48264 _ _ (Or.inr (by decide))).trans v48260
  have v48261 := (h1v48264 _ _ (Or.inr (by decide))).trans v48261
  have v48262 := (h1v48264 _ _ (Or.inr (by decide))).trans v48262
  have v48263 := (h1v48264 _ _ (Or.inr (by decide))).trans v48263
  have hfr : ∀ b j : Nat, (tag b ≠ 18 ∨ j ≠ 0) → (tag b ≠ 18 ∨ j ≠ 1) → (tag b ≠ 18 ∨ j ≠ 8) → (tag b ≠ 18 ∨ j ≠ 10) → (tag b ≠ 18 ∨ j ≠ 14) → (tag b ≠ 18 ∨ j ≠ 16) → fld F b j = fld Fo b j := fun b j n18_0 n18_1 n18_8 n18_10 n18_14 n18_16 => (h1v48264 b j (fr_ne g0 n18_16)).trans (hfr b j n18_0 n18_1 n18_8 n18_10 n18_14 n18_16)
  refine lv_iconst (v := 0) hx hb dX1_clear_30 (by decide) ?_
  refine lv_istore_n (lv' := [(1, .int 0), (0, .ref p0)]) hx hb dX1_clear_31 rfl hl (by decide) rfl (fun ls hl => ?_)
  have kk48265 : (0 : Int32).toInt = 0 := by decide
  exact K32 145 0 0 0 0 0 0 0 _ _ _ _ (by omega) (by decide) (by decide) (by decide) (by decide) (by decide) (by decide) (by decide) hT hfr v48259 v48260 v48261 v48262 v48263 v48264 (lv_sub hl [1, 0] rfl)
set_option maxHeartbeats 4000000 in
set_option maxRecDepth 100000 in
theorem kt138_X7_clear (l : Launch) (G : KG) (tag : Nat → Nat) (L : List Nat) (Fo : Nat → va_E) (ho : okT G ttC tag L Fo) (p0 : Nat) (m0 : p0 ∈ L) (g0 : tag p0 = 19) : TMv l yX7_clear cX7_clear 2 { frames := 0, cells := 0, slots := 0, locals := 0 } G ttC tag L Fo [.ref p0] (fun F1 => ∀ b j : Nat, (tag b ≠ 19 ∨ j ≠ 0) → (tag b ≠ 19 ∨ j ≠ 1) → fld F1 b j = fld Fo b j) := by
  refine t_bodyv (y := yX7_clear) (cd := cX7_clear) (mL := 2) (rm := { frames := 0, cells := 0, slots := 0, locals := 0 }) (av := [.ref p0]) (by decide) (Nat.le_of_ble_eq_true rfl) ho ?_
  intro p e s m args below meth c ls A Q hQ X hT hl
  have hx := X.1.1
  have hb := X.1.2.1
  have hl : lv_has ls 2 [(0, .ref p0)] := hl
  obtain ⟨F, hFo⟩ : ∃ F : Nat → va_E, F = Fo := ⟨_, rfl⟩
  rw [← hFo] at hT
  have hfr : ∀ b j : Nat, (tag b ≠ 19 ∨ j ≠ 0) → (tag b ≠ 19 ∨ j ≠ 1) → fld F b j = fld Fo b j := by
    rw [hFo]
    intros
    rfl
  have K12 : ∀ (n : Nat) (z48410 : Int32) (z48411 : Int32) (z48412 : Int32) (F : Nat → va_E) (H : Heap) (locs : List Loc) (ls : Array Slot), (4 - z48410.toInt < (n : Int)) → (0 ≤ z48410.toInt ∧ z48410.toInt ≤ 4) → (0 ≤ z48411.toInt ∧ z48411.toInt ≤ 0) → (0 ≤ z48412.toInt ∧ z48412.toInt ≤ 0) → TH G ttC A s tag L F H locs → (∀ b j : Nat, (tag b ≠ 19 ∨ j ≠ 0) → (tag b ≠ 19 ∨ j ≠ 1) → fld F b j = fld Fo b j) → fld F p0 0 = .int z48411 → fld F p0 1 = .int z48412 → lv_has ls 2 [(0, .ref p0), (1, .int z48410)] → W p l e { frames := 0, cells := 0, slots := 0, locals := 0 } s m args below meth c H locs 0 0 Q (F0 m 12 ls []) := by
    intro n
    induction n with
    | zero =>
      intro z48410 z48411 z48412 F H locs ls hn rz48410 rz48411 rz48412 hT hfr qz48411 qz48412 hl
      exfalso
      omega
    | succ n ih12 =>
      intro z48410 z48411 z48412 F H locs ls hn rz48410 rz48411 rz48412 hT hfr qz48411 qz48412 hl
      refine lv_iload_n hx hb dX7_clear_12 rfl (lv_at hl 1 rfl) ?_
      refine lv_iconst (v := 4) hx hb dX7_clear_13 (by decide) ?_
      refine lv_icmp_ge (tgt := 30) hx hb dX7_clear_14 (by decide) (fun c48413 => ?_) (fun c48413 => ?_)
      · have w48414 := cv_le (by decide : (4 : Int32).toInt = 4) (rfl : z48410.toInt = z48410.toInt) c48413
        exact t_vret hQ X hT hfr (Nat.le_of_ble_eq_true rfl) (Nat.le_of_ble_eq_true rfl) dX7_clear_30
      · have w48415 := cv_nle (by decide : (4 : Int32).toInt = 4) (rfl : z48410.toInt = z48410.toInt) c48413
        refine lv_aload_n hx hb dX7_clear_17 rfl (lv_at hl 0 rfl) ?_
        refine t_get (C := RX7) (T := TX7) (N := 7) X hT m0 g0 rfl rfl 2 (by decide) qw_62 inlX7 rfl dX7_clear_18 (fun v48416 hv48416 ov48416 => ?_)
        obtain ⟨b48417, rfl, mb48417, gb48417⟩ := okV_r ov48416
        have gb48417 : tag b48417 = 8 := tg_of gb48417
        refine lv_iload_n hx hb dX7_clear_21 rfl (lv_at hl 1 rfl) ?_
        refine lv_iconst (v := 0) hx hb dX7_clear_22 (by decide) ?_
        refine t_ist X hT mb48417 gb48417 rfl (by omega) (show 0 ≤ (0 : Int32).toInt ∧ (0 : Int32).toInt ≤ 6 from (by decide)) dX7_clear_23 (fun F H locs hT v48418 h1v48418 h2v48418 => ?_)
        have qz48411 := (h2v48418 _ _).trans qz48411
        have qz48412 := (h2v48418 _ _).trans qz48412
        have hv48416 := (h2v48418 _ _).trans hv48416
        have hfr : ∀ b j : Nat, (tag b ≠ 19 ∨ j ≠ 0) → (tag b ≠ 19 ∨ j ≠ 1) → fld F b j = fld Fo b j := fun b j n19_0 n19_1 => (h2v48418 b j).trans (hfr b j n19_0 n19_1)
        obtain ⟨z48419, ez48419⟩ : ∃ y : Int32, y = z48410 + 1 := ⟨_, rfl⟩
        have hz48419 : z48419.toInt = z48410.toInt + 1 := ar_add ez48419 rfl (by decide : (1 : Int32).toInt = 1) (by omega) (by omega)
        refine lv_iinc (v := z48419) (lv' := [(1, .int z48419), (0, .ref p0)]) hx hb dX7_clear_24 hl (k := 1) rfl (by rw [ez48419]; rfl) (by decide) rfl (fun ls hl => ?_)
        refine lv_goto (tgt := 12) hx hb dX7_clear_27 (by decide) ?_
        exact ih12 z48419 z48411 z48412 _ _ _ _ (by omega) (by omega) (by omega) (by omega) hT hfr qz48411 qz48412 (lv_sub hl [1, 0] rfl)
  refine lv_aload_n hx hb dX7_clear_0 rfl (lv_at hl 0 rfl) ?_
  refine lv_iconst (v := 0) hx hb dX7_clear_1 (by decide) ?_
  refine t_put (C := RX7) (T := TX7) (N := 7) (v := .int 0) X hT m0 g0 rfl tyX7 tyX7_ok nmX7 rfl 0 (by decide) qw_187 inlX7 rfl (by first | rfl | decide) (by first | rfl | decide) rfl (⟨_, rfl, (by decide), (by decide)⟩) dX7_clear_2 (fun F H locs hT v48420 h1v48420 h2v48420 => ?_)
  have hfr : ∀ b j : Nat, (tag b ≠ 19 ∨ j ≠ 0) → (tag b ≠ 19 ∨ j ≠ 1) → fld F b j = fld Fo b j := fun b j n19_0 n19_1 => (h1v48420 b j (fr_ne g0 n19_0)).trans (hfr b j n19_0 n19_1)
  refine lv_aload_n hx hb dX7_clear_5 rfl (lv_at hl 0 rfl) ?_
  refine lv_iconst (v := 0) hx hb dX7_clear_6 (by decide) ?_
  refine t_put (C := RX7) (T := TX7) (N := 7) (v := .int 0) X hT m0 g0 rfl tyX7 tyX7_ok nmX7 rfl 1 (by decide) qw_188 inlX7 rfl (by first | rfl | decide) (by first | rfl | decide) rfl (⟨_, rfl, (by decide), (by decide)⟩) dX7_clear_7 (fun F H locs hT v48421 h1v48421 h2v48421 => ?_)
  have v48420 := (h1v48421 _ _ (Or.inr (by decide))).trans v48420
  have hfr : ∀ b j : Nat, (tag b ≠ 19 ∨ j ≠ 0) → (tag b ≠ 19 ∨ j ≠ 1) → fld F b j = fld Fo b j := fun b j n19_0 n19_1 => (h1v48421 b j (fr_ne g0 n19_1)).trans (hfr b j n19_0 n19_1)
  refine lv_iconst (v := 0) hx hb dX7_clear_10 (by decide) ?_
  refine lv_istore_n (lv' := [(1, .int 0), (0, .ref p0)]) hx hb dX7_clear_11 rfl hl (by decide) rfl (fun ls hl => ?_)
  have kk48422 : (0 : Int32).toInt = 0 := by decide
  exact K12 5 0 0 0 _ _ _ _ (by omega) (by decide) (by decide) (by decide) hT hfr v48420 v48421 (lv_sub hl [1, 0] rfl)
set_option maxHeartbeats 4000000 in
set_option maxRecDepth 100000 in
theorem kt139_X8_byteAt (l : Launch) (G : KG) (tag : Nat → Nat) (L : List Nat) (F : Nat → va_E) (ho : okT G ttC tag L F) (p0 : Nat) (p1 : Int32) (x0 : Nat) (m0 : p0 ∈ L) (g0 : tag p0 = 24) (mx0 : x0 ∈ L) (gx0 : tag x0 = 1) (pf0 : fld F p0 0 = .ref x0) : TMi l yX8_byteAt cX8_byteAt 2 (some .int) { frames := 0, cells := 0, slots := 0, locals := 0 } G ttC tag L F [.ref p0, .int p1] (fun r F1 => F1 = F ∧ (((-1) ≤ r.toInt ∧ r.toInt ≤ 255) ∧ (r.toInt ≠ (-1) → (0 ≤ p1.toInt ∧ p1.toInt ≤ 999)))) := by
  refine t_bodyi (y := yX8_byteAt) (cd := cX8_byteAt) (mL := 2) (rt := (some .int)) (rm := { frames := 0, cells := 0, slots := 0, locals := 0 }) (av := [.ref p0, .int p1]) (by decide) (Nat.le_of_ble_eq_true rfl) ho ?_
  intro p e s m args below meth c ls A Q hQ X hT hl
  have hx := X.1.1
  have hb := X.1.2.1
  have hl : lv_has ls 2 [(0, .ref p0), (1, .int p1)] := hl
  have rp1 := rg_all p1
  refine lv_iload_n hx hb dX8_byteAt_0 rfl (lv_at hl 1 rfl) ?_
  refine lv_if_lt (tgt := 30) hx hb dX8_byteAt_1 (by decide) (fun c48613 => ?_) (fun c48613 => ?_)
  · have w48614 := cv_lt (rfl : p1.toInt = p1.toInt) (by decide : (0 : Int32).toInt = 0) c48613
    refine lv_iconst (v := (-1)) hx hb dX8_byteAt_30 (by decide) ?_
    exact t_iret hQ X hT (⟨rfl, ⟨(by decide), fun h => absurd (by decide) h⟩⟩) (Nat.le_of_ble_eq_true rfl) (Nat.le_of_ble_eq_true rfl) dX8_byteAt_31
  · have w48615 := cv_nlt (rfl : p1.toInt = p1.toInt) (by decide : (0 : Int32).toInt = 0) c48613
    refine lv_iload_n hx hb dX8_byteAt_4 rfl (lv_at hl 1 rfl) ?_
    refine lv_aload_n hx hb dX8_byteAt_5 rfl (lv_at hl 0 rfl) ?_
    refine t_get (C := RX8) (T := TX8) (N := 8) X hT m0 g0 rfl rfl 1 (by decide) qw_194 inlX8 rfl dX8_byteAt_6 (fun v48616 hv48616 ov48616 => ?_)
    obtain ⟨z48617, rfl, rz48617⟩ := okV_i ov48616
    refine lv_icmp_ge (tgt := 30) hx hb dX8_byteAt_9 (by decide) (fun c48618 => ?_) (fun c48618 => ?_)
    · have w48619 := cv_le (rfl : z48617.toInt = z48617.toInt) (rfl : p1.toInt = p1.toInt) c48618
      refine lv_iconst (v := (-1)) hx hb dX8_byteAt_30 (by decide) ?_
      exact t_iret hQ X hT (⟨rfl, ⟨(by decide), fun h => absurd (by decide) h⟩⟩) (Nat.le_of_ble_eq_true rfl) (Nat.le_of_ble_eq_true rfl) dX8_byteAt_31
    · have w48620 := cv_nle (rfl : z48617.toInt = z48617.toInt) (rfl : p1.toInt = p1.toInt) c48618
      refine lv_iload_n hx hb dX8_byteAt_12 rfl (lv_at hl 1 rfl) ?_
      refine lv_aload_n hx hb dX8_byteAt_13 rfl (lv_at hl 0 rfl) ?_
      refine t_get (C := RX8) (T := TX8) (N := 8) X hT m0 g0 rfl rfl 0 (by decide) qw_193 inlX8 rfl dX8_byteAt_14 (fun v48621 hv48621 ov48621 => ?_)
      obtain rfl : v48621 = .ref x0 := hv48621.symm.trans pf0
      refine t_alen X hT mx0 gx0 rfl (by decide) dX8_byteAt_17 ?_
      refine lv_topi (fun z48622 ez48622 => ?_)
      obtain rfl : z48622 = 1000 := ez48622.trans (by rfl)
      refine lv_icmp_ge (tgt := 30) hx hb dX8_byteAt_18 (by decide) (fun c48623 => ?_) (fun c48623 => ?_)
      · have w48624 := cv_le (by decide : (1000 : Int32).toInt = 1000) (rfl : p1.toInt = p1.toInt) c48623
        exfalso
        omega
      · have w48625 := cv_nle (by decide : (1000 : Int32).toInt = 1000) (rfl : p1.toInt = p1.toInt) c48623
        refine lv_aload_n hx hb dX8_byteAt_21 rfl (lv_at hl 0 rfl) ?_
        refine t_get (C := RX8) (T := TX8) (N := 8) X hT m0 g0 rfl rfl 0 (by decide) qw_193 inlX8 rfl dX8_byteAt_22 (fun v48626 hv48626 ov48626 => ?_)
        obtain rfl : v48626 = .ref x0 := hv48626.symm.trans pf0
        refine lv_iload_n hx hb dX8_byteAt_25 rfl (lv_at hl 1 rfl) ?_
        refine t_ild X hT mx0 gx0 rfl (by omega) dX8_byteAt_26 (fun z48627 vz48627 rz48627 => ?_)
        have rz48627 : 0 ≤ z48627.toInt ∧ z48627.toInt ≤ 255 := rz48627
        refine lv_goto (tgt := 31) hx hb dX8_byteAt_27 (by decide) ?_
        exact t_iret hQ X hT (⟨rfl, ⟨(by omega), fun _ => by omega⟩⟩) (Nat.le_of_ble_eq_true rfl) (Nat.le_of_ble_eq_true rfl) dX8_byteAt_31
set_option maxHeartbeats 4000000 in
set_option maxRecDepth 100000 in
theorem kt140_X8_isLetter (l : Launch) (G : KG) (tag : Nat → Nat) (L : List Nat) (F : Nat → va_E) (ho : okT G ttC tag L F) (p0 : Int32)  : TMi l yX8_isLetter cX8_isLetter 1 (some .boolean) { frames := 0, cells := 0, slots := 0, locals := 0 } G ttC tag L F [.int p0] (fun r F1 => F1 = F ∧ (0 ≤ r.toInt ∧ r.toInt ≤ 1)) := by
  refine t_bodyi (y := yX8_isLetter) (cd := cX8_isLetter) (mL := 1) (rt := (some .boolean)) (rm := { frames := 0, cells := 0, slots := 0, locals := 0 }) (av := [.int p0]) (by decide) (Nat.le_of_ble_eq_true rfl) ho ?_
  intro p e s m args below meth c ls A Q hQ X hT hl
  have hx := X.1.1
  have hb := X.1.2.1
  have hl : lv_has ls 1 [(0, .int p0)] := hl
  have rp0 := rg_all p0
  refine lv_iload_n hx hb dX8_isLetter_0 rfl (lv_at hl 0 rfl) ?_
  refine lv_bipush (v := 97) hx hb dX8_isLetter_1 (by decide) ?_
  refine lv_icmp_lt (tgt := 16) hx hb dX8_isLetter_3 (by decide) (fun c48728 => ?_) (fun c48728 => ?_)
  · have w48729 := cv_lt (rfl : p0.toInt = p0.toInt) (by decide : (97 : Int32).toInt = 97) c48728
    refine lv_iconst (v := 0) hx hb dX8_isLetter_16 (by decide) ?_
    exact t_zret hQ X hT (by decide) (⟨rfl, (by decide)⟩) (Nat.le_of_ble_eq_true rfl) (Nat.le_of_ble_eq_true rfl) dX8_isLetter_17
  · have w48730 := cv_nlt (rfl : p0.toInt = p0.toInt) (by decide : (97 : Int32).toInt = 97) c48728
    refine lv_iload_n hx hb dX8_isLetter_6 rfl (lv_at hl 0 rfl) ?_
    refine lv_bipush (v := 122) hx hb dX8_isLetter_7 (by decide) ?_
    refine lv_icmp_gt (tgt := 16) hx hb dX8_isLetter_9 (by decide) (fun c48731 => ?_) (fun c48731 => ?_)
    · have w48732 := cv_lt (by decide : (122 : Int32).toInt = 122) (rfl : p0.toInt = p0.toInt) c48731
      refine lv_iconst (v := 0) hx hb dX8_isLetter_16 (by decide) ?_
      exact t_zret hQ X hT (by decide) (⟨rfl, (by decide)⟩) (Nat.le_of_ble_eq_true rfl) (Nat.le_of_ble_eq_true rfl) dX8_isLetter_17
    · have w48733 := cv_nlt (by decide : (122 : Int32).toInt = 122) (rfl : p0.toInt = p0.toInt) c48731
      refine lv_iconst (v := 1) hx hb dX8_isLetter_12 (by decide) ?_
      refine lv_goto (tgt := 17) hx hb dX8_isLetter_13 (by decide) ?_
      exact t_zret hQ X hT (by decide) (⟨rfl, (by decide)⟩) (Nat.le_of_ble_eq_true rfl) (Nat.le_of_ble_eq_true rfl) dX8_isLetter_17
set_option maxHeartbeats 4000000 in
set_option maxRecDepth 100000 in
theorem kt141_X8_isDigit (l : Launch) (G : KG) (tag : Nat → Nat) (L : List Nat) (F : Nat → va_E) (ho : okT G ttC tag L F) (p0 : Int32)  : TMi l yX8_isDigit cX8_isDigit 1 (some .boolean) { frames := 0, cells := 0, slots := 0, locals := 0 } G ttC tag L F [.int p0] (fun r F1 => F1 = F ∧ (0 ≤ r.toInt ∧ r.toInt ≤ 1)) := by
  refine t_bodyi (y := yX8_isDigit) (cd := cX8_isDigit) (mL := 1) (rt := (some .boolean)) (rm := { frames := 0, cells := 0, slots := 0, locals := 0 }) (av := [.int p0]) (by decide) (Nat.le_of_ble_eq_true rfl) ho ?_
  intro p e s m args below meth c ls A Q hQ X hT hl
  have hx := X.1.1
  have hb := X.1.2.1
  have hl : lv_has ls 1 [(0, .int p0)] := hl
  have rp0 := rg_all p0
  refine lv_iload_n hx hb dX8_isDigit_0 rfl (lv_at hl 0 rfl) ?_
  refine lv_bipush (v := 48) hx hb dX8_isDigit_1 (by decide) ?_
  refine lv_icmp_lt (tgt := 16) hx hb dX8_isDigit_3 (by decide) (fun c48803 => ?_) (fun c48803 => ?_)
  · have w48804 := cv_lt (rfl : p0.toInt = p0.toInt) (by decide : (48 : Int32).toInt = 48) c48803
    refine lv_iconst (v := 0) hx hb dX8_isDigit_16 (by decide) ?_
    exact t_zret hQ X hT (by decide) (⟨rfl, (by decide)⟩) (Nat.le_of_ble_eq_true rfl) (Nat.le_of_ble_eq_true rfl) dX8_isDigit_17
  · have w48805 := cv_nlt (rfl : p0.toInt = p0.toInt) (by decide : (48 : Int32).toInt = 48) c48803
    refine lv_iload_n hx hb dX8_isDigit_6 rfl (lv_at hl 0 rfl) ?_
    refine lv_bipush (v := 57) hx hb dX8_isDigit_7 (by decide) ?_
    refine lv_icmp_gt (tgt := 16) hx hb dX8_isDigit_9 (by decide) (fun c48806 => ?_) (fun c48806 => ?_)
    · have w48807 := cv_lt (by decide : (57 : Int32).toInt = 57) (rfl : p0.toInt = p0.toInt) c48806
      refine lv_iconst (v := 0) hx hb dX8_isDigit_16 (by decide) ?_
      exact t_zret hQ X hT (by decide) (⟨rfl, (by decide)⟩) (Nat.le_of_ble_eq_true rfl) (Nat.le_of_ble_eq_true rfl) dX8_isDigit_17
    · have w48808 := cv_nlt (by decide : (57 : Int32).toInt = 57) (rfl : p0.toInt = p0.toInt) c48806
      refine lv_iconst (v := 1) hx hb dX8_isDigit_12 (by decide) ?_
      refine lv_goto (tgt := 17) hx hb dX8_isDigit_13 (by decide) ?_
      exact t_zret hQ X hT (by decide) (⟨rfl, (by decide)⟩) (Nat.le_of_ble_eq_true rfl) (Nat.le_of_ble_eq_true rfl) dX8_isDigit_17
set_option maxHeartbeats 4000000 in
set_option maxRecDepth 100000 in
theorem kt142_X8_takeWhole (l : Launch) (G : KG) (tag : Nat → Nat) (L : List Nat) (Fo : Nat → va_E) (ho : okT G ttC tag L Fo) (p0 : Nat) (x0 : Nat) (m0 : p0 ∈ L) (g0 : tag p0 = 24) (mx0 : x0 ∈ L) (gx0 : tag x0 = 1) (pf0 : fld Fo p0 0 = .ref x0) : TMv l yX8_takeWhole cX8_takeWhole 1 { frames := 1, cells := 0, slots := 0, locals := 21 } G ttC tag L Fo [.ref p0] (fun F1 => ∀ b j : Nat, (tag b ≠ 24 ∨ j ≠ 2) → (tag b ≠ 24 ∨ j ≠ 3) → (tag b ≠ 24 ∨ j ≠ 6) → fld F1 b j = fld Fo b j) := by
  refine t_bodyv (y := yX8_takeWhole) (cd := cX8_takeWhole) (mL := 1) (rm := { frames := 1, cells := 0, slots := 0, locals := 21 }) (av := [.ref p0]) (by decide) (Nat.le_of_ble_eq_true rfl) ho ?_
  intro p e s m args below meth c ls A Q hQ X hT hl
  have hx := X.1.1
  have hb := X.1.2.1
  have hl : lv_has ls 1 [(0, .ref p0)] := hl
  obtain ⟨F, hFo⟩ : ∃ F : Nat → va_E, F = Fo := ⟨_, rfl⟩
  rw [← hFo] at hT
  have hfr : ∀ b j : Nat, (tag b ≠ 24 ∨ j ≠ 2) → (tag b ≠ 24 ∨ j ≠ 3) → (tag b ≠ 24 ∨ j ≠ 6) → fld F b j = fld Fo b j := by
    rw [hFo]
    intros
    rfl
  have K85 : ∀ (z49446 : Int32) (b49447 : Nat) (z49448 : Int32) (z49449 : Int32) (z49450 : Int32) (z49451 : Int32) (F : Nat → va_E) (H : Heap) (locs : List Loc) (ls : Array Slot), (2 ≤ z49446.toInt ∧ z49446.toInt ≤ 4) → (b49447 ∈ L) → (tag b49447 = 24) → (0 ≤ z49449.toInt ∧ z49449.toInt ≤ 1000) → (0 ≤ z49450.toInt ∧ z49450.toInt ≤ 1000) → (0 ≤ z49451.toInt ∧ z49451.toInt ≤ 1000) → TH G ttC A s tag L F H locs → (∀ b j : Nat, (tag b ≠ 24 ∨ j ≠ 2) → (tag b ≠ 24 ∨ j ≠ 3) → (tag b ≠ 24 ∨ j ≠ 6) → fld F b j = fld Fo b j) → fld F p0 0 = .ref x0 → fld F p0 6 = .int z49448 → fld F p0 2 = .int z49449 → fld F p0 1 = .int z49450 → fld F p0 4 = .int z49451 → lv_has ls 1 [(0, .ref p0)] → W p l e { frames := 1, cells := 0, slots := 0, locals := 21 } s m args below meth c H locs 0 0 Q (F0 m 85 ls [.int z49446, .ref b49447]) := by
    intro z49446 b49447 z49448 z49449 z49450 z49451 F H locs ls rz49446 mb49447 gb49447 rz49449 rz49450 rz49451 hT hfr pf0 qz49448 qz49449 qz49450 qz49451 hl
    have rz49448 := rg_all z49448
    refine t_put (C := RX8) (T := TX8) (N := 8) (v := .int z49446) X hT mb49447 gb49447 rfl tyX8 tyX8_ok nmX8 rfl 3 (by decide) qw_202 inlX8 rfl (by first | rfl | decide) (by first | rfl | decide) rfl (⟨_, rfl, (by omega), (by omega)⟩) dX8_takeWhole_85 (fun F H locs hT v49452 h1v49452 h2v49452 => ?_)
    have qz49448 := (h1v49452 _ _ (Or.inr (by decide))).trans qz49448
    have qz49449 := (h1v49452 _ _ (Or.inr (by decide))).trans qz49449
    have qz49450 := (h1v49452 _ _ (Or.inr (by decide))).trans qz49450
    have qz49451 := (h1v49452 _ _ (Or.inr (by decide))).trans qz49451
    have pf0 := (h1v49452 _ _ (Or.inr (by decide))).trans pf0
    have hfr : ∀ b j : Nat, (tag b ≠ 24 ∨ j ≠ 2) → (tag b ≠ 24 ∨ j ≠ 3) → (tag b ≠ 24 ∨ j ≠ 6) → fld F b j = fld Fo b j := fun b j n24_2 n24_3 n24_6 => (h1v49452 b j (fr_ne gb49447 n24_3)).trans (hfr b j n24_2 n24_3 n24_6)
    exact t_vret hQ X hT hfr (Nat.le_of_ble_eq_true rfl) (Nat.le_of_ble_eq_true rfl) dX8_takeWhole_88
  have K66 : ∀ (z49453 : Int32) (z49454 : Int32) (z49455 : Int32) (F : Nat → va_E) (H : Heap) (locs : List Loc) (ls : Array Slot), (0 ≤ z49454.toInt ∧ z49454.toInt ≤ 1000) → (0 ≤ z49455.toInt ∧ z49455.toInt ≤ 1000) → TH G ttC A s tag L F H locs → (∀ b j : Nat, (tag b ≠ 24 ∨ j ≠ 2) → (tag b ≠ 24 ∨ j ≠ 3) → (tag b ≠ 24 ∨ j ≠ 6) → fld F b j = fld Fo b j) → fld F p0 0 = .ref x0 → fld F p0 6 = .int z49453 → fld F p0 2 = .int z49454 → fld F p0 1 = .int z49455 → lv_has ls 1 [(0, .ref p0)] → W p l e { frames := 1, cells := 0, slots := 0, locals := 21 } s m args below meth c H locs 0 0 Q (F0 m 66 ls []) := by
    intro z49453 z49454 z49455 F H locs ls rz49454 rz49455 hT hfr pf0 qz49453 qz49454 qz49455 hl
    have rz49453 := rg_all z49453
    refine lv_aload_n hx hb dX8_takeWhole_66 rfl (lv_at hl 0 rfl) ?_
    refine lv_aload_n hx hb dX8_takeWhole_67 rfl (lv_at hl 0 rfl) ?_
    refine t_get (C := RX8) (T := TX8) (N := 8) X hT m0 g0 rfl rfl 2 (by decide) qw_195 inlX8 rfl dX8_takeWhole_68 (fun v49456 hv49456 ov49456 => ?_)
    obtain rfl : v49456 = .int z49454 := hv49456.symm.trans qz49454
    refine lv_aload_n hx hb dX8_takeWhole_71 rfl (lv_at hl 0 rfl) ?_
    refine t_get (C := RX8) (T := TX8) (N := 8) X hT m0 g0 rfl rfl 4 (by decide) qw_200 inlX8 rfl dX8_takeWhole_72 (fun v49457 hv49457 ov49457 => ?_)
    obtain ⟨z49458, rfl, rz49458⟩ := okV_i ov49457
    refine lv_isub hx hb dX8_takeWhole_75 ?_
    refine lv_topi (fun z49459 ez49459 => ?_)
    have hz49459 : z49459.toInt = z49454.toInt - z49458.toInt := ar_sub ez49459 (rfl : z49454.toInt = z49454.toInt) (rfl : z49458.toInt = z49458.toInt) (by omega) (by omega)
    have rz49459 : (-1000) ≤ z49459.toInt ∧ z49459.toInt ≤ 1000 := by omega
    refine lv_iconst (v := 3) hx hb dX8_takeWhole_76 (by decide) ?_
    refine lv_icmp_le (tgt := 84) hx hb dX8_takeWhole_77 (by decide) (fun c49460 => ?_) (fun c49460 => ?_)
    · have w49461 := cv_le (rfl : z49459.toInt = z49459.toInt) (by decide : (3 : Int32).toInt = 3) c49460
      refine lv_iconst (v := 2) hx hb dX8_takeWhole_84 (by decide) ?_
      exact K85 2 p0 z49453 z49454 z49455 z49458 _ _ _ _ (by decide) m0 g0 (by omega) (by omega) (by omega) hT hfr pf0 qz49453 qz49454 qz49455 hv49457 (lv_sub hl [0] rfl)
    · have w49462 := cv_nle (rfl : z49459.toInt = z49459.toInt) (by decide : (3 : Int32).toInt = 3) c49460
      refine lv_iconst (v := 4) hx hb dX8_takeWhole_80 (by decide) ?_
      refine lv_goto (tgt := 85) hx hb dX8_takeWhole_81 (by decide) ?_
      exact K85 4 p0 z49453 z49454 z49455 z49458 _ _ _ _ (by decide) m0 g0 (by omega) (by omega) (by omega) hT hfr pf0 qz49453 qz49454 qz49455 hv49457 (lv_sub hl [0] rfl)
  have K5 : ∀ (n : Nat) (z49463 : Int32) (z49464 : Int32) (F : Nat → va_E) (H : Heap) (locs : List Loc) (ls : Array Slot), (1000 - z49464.toInt < (n : Int)) → (0 ≤ z49464.toInt ∧ z49464.toInt ≤ 1000) → TH G ttC A s tag L F H locs → (∀ b j : Nat, (tag b ≠ 24 ∨ j ≠ 2) → (tag b ≠ 24 ∨ j ≠ 3) → (tag b ≠ 24 ∨ j ≠ 6) → fld F b j = fld Fo b j) → fld F p0 0 = .ref x0 → fld F p0 6 = .int z49463 → fld F p0 2 = .int z49464 → lv_has ls 1 [(0, .ref p0)] → W p l e { frames := 1, cells := 0, slots := 0, locals := 21 } s m args below meth c H locs 0 0 Q (F0 m 5 ls []) := by
    intro n
    induction n with
    | zero =>
      intro z49463 z49464 F H locs ls hn rz49464 hT hfr pf0 qz49463 qz49464 hl
      have rz49463 := rg_all z49463
      exfalso
      omega
    | succ n ih5 =>
      intro z49463 z49464 F H locs ls hn rz49464 hT hfr pf0 qz49463 qz49464 hl
      have rz49463 := rg_all z49463
      refine lv_aload_n hx hb dX8_takeWhole_5 rfl (lv_at hl 0 rfl) ?_
      refine t_get (C := RX8) (T := TX8) (N := 8) X hT m0 g0 rfl rfl 2 (by decide) qw_195 inlX8 rfl dX8_takeWhole_6 (fun v49465 hv49465 ov49465 => ?_)
      obtain rfl : v49465 = .int z49464 := hv49465.symm.trans qz49464
      refine lv_aload_n hx hb dX8_takeWhole_9 rfl (lv_at hl 0 rfl) ?_
      refine t_get (C := RX8) (T := TX8) (N := 8) X hT m0 g0 rfl rfl 1 (by decide) qw_194 inlX8 rfl dX8_takeWhole_10 (fun v49466 hv49466 ov49466 => ?_)
      obtain ⟨z49467, rfl, rz49467⟩ := okV_i ov49466
      refine lv_icmp_ge (tgt := 66) hx hb dX8_takeWhole_13 (by decide) (fun c49468 => ?_) (fun c49468 => ?_)
      · have w49469 := cv_le (rfl : z49467.toInt = z49467.toInt) (rfl : z49464.toInt = z49464.toInt) c49468
        exact K66 z49463 z49464 z49467 _ _ _ _ (by omega) (by omega) hT hfr pf0 qz49463 qz49464 hv49466 (lv_sub hl [0] rfl)
      · have w49470 := cv_nle (rfl : z49467.toInt = z49467.toInt) (rfl : z49464.toInt = z49464.toInt) c49468
        refine lv_aload_n hx hb dX8_takeWhole_16 rfl (lv_at hl 0 rfl) ?_
        refine lv_aload_n hx hb dX8_takeWhole_17 rfl (lv_at hl 0 rfl) ?_
        refine t_get (C := RX8) (T := TX8) (N := 8) X hT m0 g0 rfl rfl 2 (by decide) qw_195 inlX8 rfl dX8_takeWhole_18 (fun v49471 hv49471 ov49471 => ?_)
        obtain rfl : v49471 = .int z49464 := hv49471.symm.trans qz49464
        refine t_cVi (n := 1) (C := RX8) (T := TX8) (N := 8) (As := [.int z49464]) (rest := []) X hT (kt139_X8_byteAt l G tag L F hT.2.2.2 p0 z49464 x0 m0 g0 mx0 gx0 pf0) m0 g0 rfl rfl qw_204 qw_205 qw_206 qw_72 qw_207 ⟨rfl, by decide +kernel, by decide +kernel, by decide +kernel⟩ ⟨Nat.le_of_ble_eq_true rfl, Nat.le_of_ble_eq_true rfl⟩ hl rfl rfl (Nat.le_of_ble_eq_true rfl) dX8_takeWhole_21 ⟨Nat.le_of_ble_eq_true rfl, Nat.le_of_ble_eq_true rfl⟩ (fun z49472 F9 H locs hT hz49472 => ?_)
        obtain ⟨fz49472, hz49472⟩ := hz49472
        rw [fz49472] at hT
        obtain ⟨hz49472, iz49472⟩ := hz49472
        refine t_cSi (n := 1) (As := [.int z49472]) (rest := []) X hT (kt141_X8_isDigit l G tag L F hT.2.2.2 z49472 ) qw_216 qw_217 qw_72 qw_218 ⟨by decide +kernel, by decide +kernel, by decide +kernel⟩ ⟨Nat.le_of_ble_eq_true rfl, Nat.le_of_ble_eq_true rfl⟩ hl rfl rfl (Nat.le_of_ble_eq_true rfl) dX8_takeWhole_24 ⟨Nat.le_of_ble_eq_true rfl, Nat.le_of_ble_eq_true rfl⟩ (fun z49473 F9 H locs hT hz49473 => ?_)
        obtain ⟨fz49473, hz49473⟩ := hz49473
        rw [fz49473] at hT
        refine lv_if_eq (tgt := 66) hx hb dX8_takeWhole_27 (by decide) (fun c49474 => ?_) (fun c49474 => ?_)
        · have w49475 := cv_eq (rfl : z49473.toInt = z49473.toInt) (by decide : (0 : Int32).toInt = 0) c49474
          exact K66 z49463 z49464 z49467 _ _ _ _ (by omega) (by omega) hT hfr pf0 qz49463 qz49464 hv49466 (lv_sub hl [0] rfl)
        · have w49476 := cv_ne (rfl : z49473.toInt = z49473.toInt) (by decide : (0 : Int32).toInt = 0) c49474
          refine lv_aload_n hx hb dX8_takeWhole_30 rfl (lv_at hl 0 rfl) ?_
          refine lv_aload_n hx hb dX8_takeWhole_31 rfl (lv_at hl 0 rfl) ?_
          refine t_get (C := RX8) (T := TX8) (N := 8) X hT m0 g0 rfl rfl 6 (by decide) qw_203 inlX8 rfl dX8_takeWhole_32 (fun v49477 hv49477 ov49477 => ?_)
          obtain rfl : v49477 = .int z49463 := hv49477.symm.trans qz49463
          refine lv_bipush (v := 10) hx hb dX8_takeWhole_35 (by decide) ?_
          refine lv_imul hx hb dX8_takeWhole_37 ?_
          refine lv_topi (fun z49478 ez49478 => ?_)
          have rz49478 := rg_all z49478
          refine lv_aload_n hx hb dX8_takeWhole_38 rfl (lv_at hl 0 rfl) ?_
          refine lv_aload_n hx hb dX8_takeWhole_39 rfl (lv_at hl 0 rfl) ?_
          refine t_get (C := RX8) (T := TX8) (N := 8) X hT m0 g0 rfl rfl 2 (by decide) qw_195 inlX8 rfl dX8_takeWhole_40 (fun v49479 hv49479 ov49479 => ?_)
          obtain rfl : v49479 = .int z49464 := hv49479.symm.trans qz49464
          refine t_cVi (n := 1) (C := RX8) (T := TX8) (N := 8) (As := [.int z49464]) (rest := [.int z49478, .ref p0]) X hT (kt139_X8_byteAt l G tag L F hT.2.2.2 p0 z49464 x0 m0 g0 mx0 gx0 pf0) m0 g0 rfl rfl qw_204 qw_205 qw_206 qw_72 qw_207 ⟨rfl, by decide +kernel, by decide +kernel, by decide +kernel⟩ ⟨Nat.le_of_ble_eq_true rfl, Nat.le_of_ble_eq_true rfl⟩ hl rfl rfl (Nat.le_of_ble_eq_true rfl) dX8_takeWhole_43 ⟨Nat.le_of_ble_eq_true rfl, Nat.le_of_ble_eq_true rfl⟩ (fun z49480 F9 H locs hT hz49480 => ?_)
          obtain ⟨fz49480, hz49480⟩ := hz49480
          rw [fz49480] at hT
          obtain ⟨hz49480, iz49480⟩ := hz49480
          refine lv_iadd hx hb dX8_takeWhole_46 ?_
          refine lv_topi (fun z49481 ez49481 => ?_)
          have rz49481 := rg_all z49481
          refine lv_bipush (v := 48) hx hb dX8_takeWhole_47 (by decide) ?_
          refine lv_isub hx hb dX8_takeWhole_49 ?_
          refine lv_topi (fun z49482 ez49482 => ?_)
          have rz49482 := rg_all z49482
          refine t_put (C := RX8) (T := TX8) (N := 8) (v := .int z49482) X hT m0 g0 rfl tyX8 tyX8_ok nmX8 rfl 6 (by decide) qw_203 inlX8 rfl (by first | rfl | decide) (by first | rfl | decide) rfl (⟨_, rfl, (by omega), (by omega)⟩) dX8_takeWhole_50 (fun F H locs hT v49483 h1v49483 h2v49483 => ?_)
          have qz49464 := (h1v49483 _ _ (Or.inr (by decide))).trans qz49464
          have pf0 := (h1v49483 _ _ (Or.inr (by decide))).trans pf0
          have hv49466 := (h1v49483 _ _ (Or.inr (by decide))).trans hv49466
          have hfr : ∀ b j : Nat, (tag b ≠ 24 ∨ j ≠ 2) → (tag b ≠ 24 ∨ j ≠ 3) → (tag b ≠ 24 ∨ j ≠ 6) → fld F b j = fld Fo b j := fun b j n24_2 n24_3 n24_6 => (h1v49483 b j (fr_ne g0 n24_6)).trans (hfr b j n24_2 n24_3 n24_6)
          refine lv_aload_n hx hb dX8_takeWhole_53 rfl (lv_at hl 0 rfl) ?_
          refine lv_dup hx hb dX8_takeWhole_54 rfl ?_
          refine t_get (C := RX8) (T := TX8) (N := 8) X hT m0 g0 rfl rfl 2 (by decide) qw_195 inlX8 rfl dX8_takeWhole_55 (fun v49484 hv49484 ov49484 => ?_)
          obtain rfl : v49484 = .int z49464 := hv49484.symm.trans qz49464
          refine lv_iconst (v := 1) hx hb dX8_takeWhole_58 (by decide) ?_
          refine lv_iadd hx hb dX8_takeWhole_59 ?_
          refine lv_topi (fun z49485 ez49485 => ?_)
          have hz49485 : z49485.toInt = z49464.toInt + 1 := ar_add ez49485 (rfl : z49464.toInt = z49464.toInt) (by decide : (1 : Int32).toInt = 1) (by omega) (by omega)
          have rz49485 : 1 ≤ z49485.toInt ∧ z49485.toInt ≤ 1000 := by omega
          refine t_put (C := RX8) (T := TX8) (N := 8) (v := .int z49485) X hT m0 g0 rfl tyX8 tyX8_ok nmX8 rfl 2 (by decide) qw_195 inlX8 rfl (by first | rfl | decide) (by first | rfl | decide) rfl (⟨_, rfl, (by omega), (by omega)⟩) dX8_takeWhole_60 (fun F H locs hT v49486 h1v49486 h2v49486 => ?_)
          have pf0 := (h1v49486 _ _ (Or.inr (by decide))).trans pf0
          have hv49466 := (h1v49486 _ _ (Or.inr (by decide))).trans hv49466
          have v49483 := (h1v49486 _ _ (Or.inr (by decide))).trans v49483
          have hfr : ∀ b j : Nat, (tag b ≠ 24 ∨ j ≠ 2) → (tag b ≠ 24 ∨ j ≠ 3) → (tag b ≠ 24 ∨ j ≠ 6) → fld F b j = fld Fo b j := fun b j n24_2 n24_3 n24_6 => (h1v49486 b j (fr_ne g0 n24_2)).trans (hfr b j n24_2 n24_3 n24_6)
          refine lv_goto (tgt := 5) hx hb dX8_takeWhole_63 (by decide) ?_
          exact ih5 z49482 z49485 _ _ _ _ (by omega) (by omega) hT hfr pf0 v49483 v49486 (lv_sub hl [0] rfl)
  refine lv_aload_n hx hb dX8_takeWhole_0 rfl (lv_at hl 0 rfl) ?_
  refine lv_iconst (v := 0) hx hb dX8_takeWhole_1 (by decide) ?_
  refine t_put (C := RX8) (T := TX8) (N := 8) (v := .int 0) X hT m0 g0 rfl tyX8 tyX8_ok nmX8 rfl 6 (by decide) qw_203 inlX8 rfl (by first | rfl | decide) (by first | rfl | decide) rfl (⟨_, rfl, (by decide), (by decide)⟩) dX8_takeWhole_2 (fun F H locs hT v49487 h1v49487 h2v49487 => ?_)
  have pf0 := (h1v49487 _ _ (Or.inr (by decide))).trans pf0
  have hfr : ∀ b j : Nat, (tag b ≠ 24 ∨ j ≠ 2) → (tag b ≠ 24 ∨ j ≠ 3) → (tag b ≠ 24 ∨ j ≠ 6) → fld F b j = fld Fo b j := fun b j n24_2 n24_3 n24_6 => (h1v49487 b j (fr_ne g0 n24_6)).trans (hfr b j n24_2 n24_3 n24_6)
  obtain ⟨z49488, qz49488, rz49488⟩ := t_fld hT m0 g0 rfl 2 rfl
  have rz49488 : 0 ≤ z49488.toInt ∧ z49488.toInt ≤ 1000 := rz49488
  exact K5 1001 0 z49488 _ _ _ _ (by omega) (by omega) hT hfr pf0 v49487 qz49488 (lv_sub hl [0] rfl)
