set_option maxHeartbeats 4000000 in
set_option maxRecDepth 100000 in
theorem kt38_X6_ownersOf (l : Launch) (G : KG) (tag : Nat → Nat) (L : List Nat) (F : Nat → va_E) (ho : okT G ttC tag L F) (p0 : Nat) (p1 : Nat) (p2 : Int32) (p3 : Int32) (m0 : p0 ∈ L) (g0 : tag p0 = 18) (m1 : p1 ∈ L) (g1 : tag p1 = 19) : TMi l yX6_ownersOf cX6_ownersOf 6 (some .int) { frames := 1, cells := 0, slots := 0, locals := 25 } G ttC tag L F [.ref p0, .ref p1, .int p2, .int p3] (fun r F1 => F1 = F ∧ ((-2147483648) ≤ r.toInt ∧ r.toInt ≤ 2147483647)) := by
  refine t_bodyi (y := yX6_ownersOf) (cd := cX6_ownersOf) (mL := 6) (rt := (some .int)) (rm := { frames := 1, cells := 0, slots := 0, locals := 25 }) (av := [.ref p0, .ref p1, .int p2, .int p3]) (by decide) (Nat.le_of_ble_eq_true rfl) ho ?_
  intro p e s m args below meth c ls A Q hQ X hT hl
  have hx := X.1.1
  have hb := X.1.2.1
  have hl : lv_has ls 6 [(0, .ref p0), (1, .ref p1), (2, .int p2), (3, .int p3)] := hl
  have rp2 := rg_all p2
  have rp3 := rg_all p3
  have K6 : ∀ (n : Nat) (z7795 : Int32) (z7796 : Int32) (H : Heap) (locs : List Loc) (ls : Array Slot), (4 - z7796.toInt < (n : Int)) → (0 ≤ z7796.toInt ∧ z7796.toInt ≤ 4) → TH G ttC A s tag L F H locs → lv_has ls 6 [(0, .ref p0), (1, .ref p1), (2, .int p2), (3, .int p3), (4, .int z7795), (5, .int z7796)] → W p l e { frames := 1, cells := 0, slots := 0, locals := 25 } s m args below meth c H locs 0 0 Q (F0 m 6 ls []) := by
    intro n
    induction n with
    | zero =>
      intro z7795 z7796 H locs ls hn rz7796 hT hl
      have rz7795 := rg_all z7795
      exfalso
      omega
    | succ n ih6 =>
      intro z7795 z7796 H locs ls hn rz7796 hT hl
      have rz7795 := rg_all z7795
      have K42 : ∀ (z7797 : Int32) (z7799 : Int32) (H : Heap) (locs : List Loc) (ls : Array Slot), (1 ≤ z7799.toInt ∧ z7799.toInt ≤ 4) → (0 ≤ z7796.toInt ∧ z7796.toInt ≤ 3) → TH G ttC A s tag L F H locs → fld F p0 10 = .int z7799 → lv_has ls 6 [(0, .ref p0), (1, .ref p1), (2, .int p2), (3, .int p3), (4, .int z7797), (5, .int z7796)] → W p l e { frames := 1, cells := 0, slots := 0, locals := 25 } s m args below meth c H locs 0 0 Q (F0 m 42 ls []) := by
        intro z7797 z7799 H locs ls rz7799 r9s7798 hT qz7799 hl
        have rz7797 := rg_all z7797
        obtain ⟨z7800, ez7800⟩ : ∃ y : Int32, y = z7796 + 1 := ⟨_, rfl⟩
        have hz7800 : z7800.toInt = z7796.toInt + 1 := ar_add ez7800 rfl (by decide : (1 : Int32).toInt = 1) (by omega) (by omega)
        refine lv_iinc (v := z7800) (lv' := [(5, .int z7800), (0, .ref p0), (1, .ref p1), (2, .int p2), (3, .int p3), (4, .int z7797)]) hx hb dX6_ownersOf_42 hl (k := 5) rfl (by rw [ez7800]; rfl) (by decide) rfl (fun ls hl => ?_)
        refine lv_goto (tgt := 6) hx hb dX6_ownersOf_45 (by decide) ?_
        exact ih6 z7797 z7800 _ _ _ (by omega) (by omega) hT  (lv_sub hl [1, 2, 3, 4, 5, 0] rfl)
      refine lv_iload hx hb dX6_ownersOf_6 (lv_at hl 5 rfl) ?_
      refine lv_aload_n hx hb dX6_ownersOf_8 rfl (lv_at hl 0 rfl) ?_
      refine t_get (C := RX1) (T := TX1) (N := 20) X hT m0 g0 rfl rfl 10 (by decide) qw_382 inlX1 rfl dX6_ownersOf_9 (fun v7801 hv7801 ov7801 => ?_)
      obtain ⟨z7802, rfl, rz7802⟩ := okV_i ov7801
      refine lv_icmp_ge (tgt := 48) hx hb dX6_ownersOf_12 (by decide) (fun c7803 => ?_) (fun c7803 => ?_)
      · have w7804 := cv_le (rfl : z7802.toInt = z7802.toInt) (rfl : z7796.toInt = z7796.toInt) c7803
        refine lv_iload hx hb dX6_ownersOf_48 (lv_at hl 4 rfl) ?_
        exact t_iret hQ X hT (⟨rfl, rg_all _⟩) (Nat.le_of_ble_eq_true rfl) (Nat.le_of_ble_eq_true rfl) dX6_ownersOf_50
      · have w7805 := cv_nle (rfl : z7802.toInt = z7802.toInt) (rfl : z7796.toInt = z7796.toInt) c7803
        refine lv_aload_n hx hb dX6_ownersOf_15 rfl (lv_at hl 0 rfl) ?_
        refine lv_iload hx hb dX6_ownersOf_16 (lv_at hl 5 rfl) ?_
        refine lv_iload_n hx hb dX6_ownersOf_18 rfl (lv_at hl 2 rfl) ?_
        refine lv_iload_n hx hb dX6_ownersOf_19 rfl (lv_at hl 3 rfl) ?_
        refine t_cVi (n := 3) (C := RX1) (T := TX1) (N := 20) (As := [.int z7796, .int p2, .int p3]) (rest := []) X hT (kt37_X1_apart l G tag L F hT.2.2.2 p0 z7796 p2 p3 m0 g0 (by omega)) m0 g0 rfl rfl qw_389 qw_390 qw_391 qw_17 qw_392 ⟨rfl, by decide +kernel, by decide +kernel, by decide +kernel⟩ ⟨Nat.le_of_ble_eq_true rfl, Nat.le_of_ble_eq_true rfl⟩ hl rfl rfl (Nat.le_of_ble_eq_true rfl) dX6_ownersOf_20 ⟨Nat.le_of_ble_eq_true rfl, Nat.le_of_ble_eq_true rfl⟩ (fun z7806 F9 H locs hT hz7806 => ?_)
        obtain ⟨fz7806, hz7806⟩ := hz7806
        rw [fz7806] at hT
        refine lv_aload_n hx hb dX6_ownersOf_23 rfl (lv_at hl 1 rfl) ?_
        refine t_get (C := RX7) (T := TX7) (N := 7) X hT m1 g1 rfl rfl 2 (by decide) qw_383 inlX7 rfl dX6_ownersOf_24 (fun v7807 hv7807 ov7807 => ?_)
        obtain ⟨b7808, rfl, mb7808, gb7808⟩ := okV_r ov7807
        have gb7808 : tag b7808 = 8 := tg_of gb7808
        refine lv_iload hx hb dX6_ownersOf_27 (lv_at hl 5 rfl) ?_
        refine t_ild X hT mb7808 gb7808 rfl (by omega) dX6_ownersOf_29 (fun z7809 vz7809 rz7809 => ?_)
        have rz7809 : 0 ≤ z7809.toInt ∧ z7809.toInt ≤ 6 := rz7809
        refine lv_icmp_gt (tgt := 42) hx hb dX6_ownersOf_30 (by decide) (fun c7810 => ?_) (fun c7810 => ?_)
        · have w7811 := cv_lt (rfl : z7809.toInt = z7809.toInt) (rfl : z7806.toInt = z7806.toInt) c7810
          exact K42 z7795 z7802 _ _ _ (by omega) (by omega) hT hv7801 (lv_sub hl [0, 1, 2, 3, 4, 5] rfl)
        · have w7812 := cv_nlt (rfl : z7809.toInt = z7809.toInt) (rfl : z7806.toInt = z7806.toInt) c7810
          refine lv_iload hx hb dX6_ownersOf_33 (lv_at hl 4 rfl) ?_
          refine lv_iconst (v := 1) hx hb dX6_ownersOf_35 (by decide) ?_
          refine lv_iload hx hb dX6_ownersOf_36 (lv_at hl 5 rfl) ?_
          refine lv_ishl hx hb dX6_ownersOf_38 ?_
          refine lv_topi (fun z7813 ez7813 => ?_)
          have rz7813 := rg_all z7813
          refine lv_ior hx hb dX6_ownersOf_39 ?_
          refine lv_topi (fun z7814 ez7814 => ?_)
          have rz7814 := rg_all z7814
          refine lv_istore (lv' := [(4, .int z7814), (0, .ref p0), (1, .ref p1), (2, .int p2), (3, .int p3), (5, .int z7796)]) hx hb dX6_ownersOf_40 hl (by decide) rfl (fun ls hl => ?_)
          exact K42 z7814 z7802 _ _ _ (by omega) (by omega) hT hv7801 (lv_sub hl [1, 2, 3, 4, 0, 5] rfl)
  refine lv_iconst (v := 0) hx hb dX6_ownersOf_0 (by decide) ?_
  refine lv_istore (lv' := [(4, .int 0), (0, .ref p0), (1, .ref p1), (2, .int p2), (3, .int p3)]) hx hb dX6_ownersOf_1 hl (by decide) rfl (fun ls hl => ?_)
  refine lv_iconst (v := 0) hx hb dX6_ownersOf_3 (by decide) ?_
  refine lv_istore (lv' := [(5, .int 0), (4, .int 0), (0, .ref p0), (1, .ref p1), (2, .int p2), (3, .int p3)]) hx hb dX6_ownersOf_4 hl (by decide) rfl (fun ls hl => ?_)
  have kk7815 : (0 : Int32).toInt = 0 := by decide
  have kk7816 : (0 : Int32).toInt = 0 := by decide
  exact K6 5 0 0 _ _ _ (by omega) (by decide) hT  (lv_sub hl [2, 3, 4, 5, 1, 0] rfl)
set_option maxHeartbeats 4000000 in
set_option maxRecDepth 100000 in
theorem kt39_X1_isOn (l : Launch) (G : KG) (tag : Nat → Nat) (L : List Nat) (F : Nat → va_E) (ho : okT G ttC tag L F) (p0 : Nat) (p1 : Int32) (p2 : Int32) (m0 : p0 ∈ L) (g0 : tag p0 = 18) : TMi l yX1_isOn cX1_isOn 3 (some .boolean) { frames := 0, cells := 0, slots := 0, locals := 0 } G ttC tag L F [.ref p0, .int p1, .int p2] (fun r F1 => F1 = F ∧ (0 ≤ r.toInt ∧ r.toInt ≤ 1)) := by
  refine t_bodyi (y := yX1_isOn) (cd := cX1_isOn) (mL := 3) (rt := (some .boolean)) (rm := { frames := 0, cells := 0, slots := 0, locals := 0 }) (av := [.ref p0, .int p1, .int p2]) (by decide) (Nat.le_of_ble_eq_true rfl) ho ?_
  intro p e s m args below meth c ls A Q hQ X hT hl
  have hx := X.1.1
  have hb := X.1.2.1
  have hl : lv_has ls 3 [(0, .ref p0), (1, .int p1), (2, .int p2)] := hl
  have rp1 := rg_all p1
  have rp2 := rg_all p2
  refine lv_iload_n hx hb dX1_isOn_0 rfl (lv_at hl 1 rfl) ?_
  refine lv_if_lt (tgt := 28) hx hb dX1_isOn_1 (by decide) (fun c7993 => ?_) (fun c7993 => ?_)
  · have w7994 := cv_lt (rfl : p1.toInt = p1.toInt) (by decide : (0 : Int32).toInt = 0) c7993
    refine lv_iconst (v := 0) hx hb dX1_isOn_28 (by decide) ?_
    exact t_zret hQ X hT (by decide) (⟨rfl, (by decide)⟩) (Nat.le_of_ble_eq_true rfl) (Nat.le_of_ble_eq_true rfl) dX1_isOn_29
  · have w7995 := cv_nlt (rfl : p1.toInt = p1.toInt) (by decide : (0 : Int32).toInt = 0) c7993
    refine lv_iload_n hx hb dX1_isOn_4 rfl (lv_at hl 1 rfl) ?_
    refine lv_aload_n hx hb dX1_isOn_5 rfl (lv_at hl 0 rfl) ?_
    refine t_get (C := RX1) (T := TX1) (N := 20) X hT m0 g0 rfl rfl 0 (by decide) qw_177 inlX1 rfl dX1_isOn_6 (fun v7996 hv7996 ov7996 => ?_)
    obtain ⟨z7997, rfl, rz7997⟩ := okV_i ov7996
    refine lv_icmp_ge (tgt := 28) hx hb dX1_isOn_9 (by decide) (fun c7998 => ?_) (fun c7998 => ?_)
    · have w7999 := cv_le (rfl : z7997.toInt = z7997.toInt) (rfl : p1.toInt = p1.toInt) c7998
      refine lv_iconst (v := 0) hx hb dX1_isOn_28 (by decide) ?_
      exact t_zret hQ X hT (by decide) (⟨rfl, (by decide)⟩) (Nat.le_of_ble_eq_true rfl) (Nat.le_of_ble_eq_true rfl) dX1_isOn_29
    · have w8000 := cv_nle (rfl : z7997.toInt = z7997.toInt) (rfl : p1.toInt = p1.toInt) c7998
      refine lv_iload_n hx hb dX1_isOn_12 rfl (lv_at hl 2 rfl) ?_
      refine lv_if_lt (tgt := 28) hx hb dX1_isOn_13 (by decide) (fun c8001 => ?_) (fun c8001 => ?_)
      · have w8002 := cv_lt (rfl : p2.toInt = p2.toInt) (by decide : (0 : Int32).toInt = 0) c8001
        refine lv_iconst (v := 0) hx hb dX1_isOn_28 (by decide) ?_
        exact t_zret hQ X hT (by decide) (⟨rfl, (by decide)⟩) (Nat.le_of_ble_eq_true rfl) (Nat.le_of_ble_eq_true rfl) dX1_isOn_29
      · have w8003 := cv_nlt (rfl : p2.toInt = p2.toInt) (by decide : (0 : Int32).toInt = 0) c8001
        refine lv_iload_n hx hb dX1_isOn_16 rfl (lv_at hl 2 rfl) ?_
        refine lv_aload_n hx hb dX1_isOn_17 rfl (lv_at hl 0 rfl) ?_
        refine t_get (C := RX1) (T := TX1) (N := 20) X hT m0 g0 rfl rfl 1 (by decide) qw_178 inlX1 rfl dX1_isOn_18 (fun v8004 hv8004 ov8004 => ?_)
        obtain ⟨z8005, rfl, rz8005⟩ := okV_i ov8004
        refine lv_icmp_ge (tgt := 28) hx hb dX1_isOn_21 (by decide) (fun c8006 => ?_) (fun c8006 => ?_)
        · have w8007 := cv_le (rfl : z8005.toInt = z8005.toInt) (rfl : p2.toInt = p2.toInt) c8006
          refine lv_iconst (v := 0) hx hb dX1_isOn_28 (by decide) ?_
          exact t_zret hQ X hT (by decide) (⟨rfl, (by decide)⟩) (Nat.le_of_ble_eq_true rfl) (Nat.le_of_ble_eq_true rfl) dX1_isOn_29
        · have w8008 := cv_nle (rfl : z8005.toInt = z8005.toInt) (rfl : p2.toInt = p2.toInt) c8006
          refine lv_iconst (v := 1) hx hb dX1_isOn_24 (by decide) ?_
          refine lv_goto (tgt := 29) hx hb dX1_isOn_25 (by decide) ?_
          exact t_zret hQ X hT (by decide) (⟨rfl, (by decide)⟩) (Nat.le_of_ble_eq_true rfl) (Nat.le_of_ble_eq_true rfl) dX1_isOn_29
set_option maxHeartbeats 4000000 in
set_option maxRecDepth 100000 in
theorem kt40_X1_isWet (l : Launch) (G : KG) (tag : Nat → Nat) (L : List Nat) (F : Nat → va_E) (ho : okT G ttC tag L F) (p0 : Nat) (p1 : Int32) (p2 : Int32) (m0 : p0 ∈ L) (g0 : tag p0 = 18) : TMi l yX1_isWet cX1_isWet 4 (some .boolean) { frames := 0, cells := 0, slots := 0, locals := 0 } G ttC tag L F [.ref p0, .int p1, .int p2] (fun r F1 => F1 = F ∧ (0 ≤ r.toInt ∧ r.toInt ≤ 1)) := by
  refine t_bodyi (y := yX1_isWet) (cd := cX1_isWet) (mL := 4) (rt := (some .boolean)) (rm := { frames := 0, cells := 0, slots := 0, locals := 0 }) (av := [.ref p0, .int p1, .int p2]) (by decide) (Nat.le_of_ble_eq_true rfl) ho ?_
  intro p e s m args below meth c ls A Q hQ X hT hl
  have hx := X.1.1
  have hb := X.1.2.1
  have hl : lv_has ls 4 [(0, .ref p0), (1, .int p1), (2, .int p2)] := hl
  have rp1 := rg_all p1
  have rp2 := rg_all p2
  refine lv_iload_n hx hb dX1_isWet_0 rfl (lv_at hl 2 rfl) ?_
  refine lv_aload_n hx hb dX1_isWet_1 rfl (lv_at hl 0 rfl) ?_
  refine t_get (C := RX1) (T := TX1) (N := 20) X hT m0 g0 rfl rfl 0 (by decide) qw_177 inlX1 rfl dX1_isWet_2 (fun v8211 hv8211 ov8211 => ?_)
  obtain ⟨z8212, rfl, rz8212⟩ := okV_i ov8211
  refine lv_imul hx hb dX1_isWet_5 ?_
  refine lv_topi (fun z8213 ez8213 => ?_)
  have rz8213 := rg_all z8213
  refine lv_iload_n hx hb dX1_isWet_6 rfl (lv_at hl 1 rfl) ?_
  refine lv_iadd hx hb dX1_isWet_7 ?_
  refine lv_topi (fun z8214 ez8214 => ?_)
  have rz8214 := rg_all z8214
  refine lv_istore_n (lv' := [(3, .int z8214), (0, .ref p0), (1, .int p1), (2, .int p2)]) hx hb dX1_isWet_8 rfl hl (by decide) rfl (fun ls hl => ?_)
  refine lv_iload_n hx hb dX1_isWet_9 rfl (lv_at hl 0 rfl) ?_
  refine lv_if_lt (tgt := 35) hx hb dX1_isWet_10 (by decide) (fun c8215 => ?_) (fun c8215 => ?_)
  · have w8216 := cv_lt (rfl : z8214.toInt = z8214.toInt) (by decide : (0 : Int32).toInt = 0) c8215
    refine lv_iconst (v := 0) hx hb dX1_isWet_35 (by decide) ?_
    exact t_zret hQ X hT (by decide) (⟨rfl, (by decide)⟩) (Nat.le_of_ble_eq_true rfl) (Nat.le_of_ble_eq_true rfl) dX1_isWet_36
  · have w8217 := cv_nlt (rfl : z8214.toInt = z8214.toInt) (by decide : (0 : Int32).toInt = 0) c8215
    refine lv_iload_n hx hb dX1_isWet_13 rfl (lv_at hl 0 rfl) ?_
    refine lv_aload_n hx hb dX1_isWet_14 rfl (lv_at hl 1 rfl) ?_
    refine t_get (C := RX1) (T := TX1) (N := 20) X hT m0 g0 rfl rfl 7 (by decide) qw_50 inlX1 rfl dX1_isWet_15 (fun v8218 hv8218 ov8218 => ?_)
    obtain ⟨b8219, rfl, mb8219, gb8219⟩ := okV_r ov8218
    have gb8219 : tag b8219 = 2 := tg_of gb8219
    refine t_alen X hT mb8219 gb8219 rfl (by decide) dX1_isWet_18 ?_
    refine lv_topi (fun z8220 ez8220 => ?_)
    obtain rfl : z8220 = 144 := ez8220.trans (by rfl)
    refine lv_icmp_ge (tgt := 35) hx hb dX1_isWet_19 (by decide) (fun c8221 => ?_) (fun c8221 => ?_)
    · have w8222 := cv_le (by decide : (144 : Int32).toInt = 144) (rfl : z8214.toInt = z8214.toInt) c8221
      refine lv_iconst (v := 0) hx hb dX1_isWet_35 (by decide) ?_
      exact t_zret hQ X hT (by decide) (⟨rfl, (by decide)⟩) (Nat.le_of_ble_eq_true rfl) (Nat.le_of_ble_eq_true rfl) dX1_isWet_36
    · have w8223 := cv_nle (by decide : (144 : Int32).toInt = 144) (rfl : z8214.toInt = z8214.toInt) c8221
      refine lv_aload_n hx hb dX1_isWet_22 rfl (lv_at hl 1 rfl) ?_
      refine t_get (C := RX1) (T := TX1) (N := 20) X hT m0 g0 rfl rfl 7 (by decide) qw_50 inlX1 rfl dX1_isWet_23 (fun v8224 hv8224 ov8224 => ?_)
      obtain rfl : v8224 = .ref b8219 := hv8224.symm.trans hv8218
      refine lv_iload_n hx hb dX1_isWet_26 rfl (lv_at hl 0 rfl) ?_
      refine t_zld X hT mb8219 gb8219 rfl (by omega) dX1_isWet_27 (fun z8225 vz8225 rz8225 => ?_)
      have rz8225 : 0 ≤ z8225.toInt ∧ z8225.toInt ≤ 1 := rz8225
      refine lv_if_eq (tgt := 35) hx hb dX1_isWet_28 (by decide) (fun c8226 => ?_) (fun c8226 => ?_)
      · have w8227 := cv_eq (rfl : z8225.toInt = z8225.toInt) (by decide : (0 : Int32).toInt = 0) c8226
        refine lv_iconst (v := 0) hx hb dX1_isWet_35 (by decide) ?_
        exact t_zret hQ X hT (by decide) (⟨rfl, (by decide)⟩) (Nat.le_of_ble_eq_true rfl) (Nat.le_of_ble_eq_true rfl) dX1_isWet_36
      · have w8228 := cv_ne (rfl : z8225.toInt = z8225.toInt) (by decide : (0 : Int32).toInt = 0) c8226
        refine lv_iconst (v := 1) hx hb dX1_isWet_31 (by decide) ?_
        refine lv_goto (tgt := 36) hx hb dX1_isWet_32 (by decide) ?_
        exact t_zret hQ X hT (by decide) (⟨rfl, (by decide)⟩) (Nat.le_of_ble_eq_true rfl) (Nat.le_of_ble_eq_true rfl) dX1_isWet_36
set_option maxHeartbeats 4000000 in
set_option maxRecDepth 100000 in
theorem kt41_X6_isFree (l : Launch) (G : KG) (tag : Nat → Nat) (L : List Nat) (F : Nat → va_E) (ho : okT G ttC tag L F) (p0 : Nat) (p1 : Nat) (p2 : Int32) (p3 : Int32) (m0 : p0 ∈ L) (g0 : tag p0 = 18) (m1 : p1 ∈ L) (g1 : tag p1 = 19) : TMi l yX6_isFree cX6_isFree 5 (some .boolean) { frames := 1, cells := 0, slots := 0, locals := 25 } G ttC tag L F [.ref p0, .ref p1, .int p2, .int p3] (fun r F1 => F1 = F ∧ (0 ≤ r.toInt ∧ r.toInt ≤ 1)) := by
  refine t_bodyi (y := yX6_isFree) (cd := cX6_isFree) (mL := 5) (rt := (some .boolean)) (rm := { frames := 1, cells := 0, slots := 0, locals := 25 }) (av := [.ref p0, .ref p1, .int p2, .int p3]) (by decide) (Nat.le_of_ble_eq_true rfl) ho ?_
  intro p e s m args below meth c ls A Q hQ X hT hl
  have hx := X.1.1
  have hb := X.1.2.1
  have hl : lv_has ls 5 [(0, .ref p0), (1, .ref p1), (2, .int p2), (3, .int p3)] := hl
  have rp2 := rg_all p2
  have rp3 := rg_all p3
  have K23 : ∀ (n : Nat) (z8538 : Int32) (H : Heap) (locs : List Loc) (ls : Array Slot), (4 - z8538.toInt < (n : Int)) → (0 ≤ z8538.toInt ∧ z8538.toInt ≤ 4) → TH G ttC A s tag L F H locs → lv_has ls 5 [(0, .ref p0), (1, .ref p1), (2, .int p2), (3, .int p3), (4, .int z8538)] → W p l e { frames := 1, cells := 0, slots := 0, locals := 25 } s m args below meth c H locs 0 0 Q (F0 m 23 ls []) := by
    intro n
    induction n with
    | zero =>
      intro z8538 H locs ls hn rz8538 hT hl
      exfalso
      omega
    | succ n ih23 =>
      intro z8538 H locs ls hn rz8538 hT hl
      refine lv_iload hx hb dX6_isFree_23 (lv_at hl 4 rfl) ?_
      refine lv_aload_n hx hb dX6_isFree_25 rfl (lv_at hl 0 rfl) ?_
      refine t_get (C := RX1) (T := TX1) (N := 20) X hT m0 g0 rfl rfl 10 (by decide) qw_382 inlX1 rfl dX6_isFree_26 (fun v8539 hv8539 ov8539 => ?_)
      obtain ⟨z8540, rfl, rz8540⟩ := okV_i ov8539
      refine lv_icmp_ge (tgt := 58) hx hb dX6_isFree_29 (by decide) (fun c8541 => ?_) (fun c8541 => ?_)
      · have w8542 := cv_le (rfl : z8540.toInt = z8540.toInt) (rfl : z8538.toInt = z8538.toInt) c8541
        refine lv_iconst (v := 1) hx hb dX6_isFree_58 (by decide) ?_
        exact t_zret hQ X hT (by decide) (⟨rfl, (by decide)⟩) (Nat.le_of_ble_eq_true rfl) (Nat.le_of_ble_eq_true rfl) dX6_isFree_59
      · have w8543 := cv_nle (rfl : z8540.toInt = z8540.toInt) (rfl : z8538.toInt = z8538.toInt) c8541
        refine lv_aload_n hx hb dX6_isFree_32 rfl (lv_at hl 0 rfl) ?_
        refine lv_iload hx hb dX6_isFree_33 (lv_at hl 4 rfl) ?_
        refine lv_iload_n hx hb dX6_isFree_35 rfl (lv_at hl 2 rfl) ?_
        refine lv_iload_n hx hb dX6_isFree_36 rfl (lv_at hl 3 rfl) ?_
        refine t_cVi (n := 3) (C := RX1) (T := TX1) (N := 20) (As := [.int z8538, .int p2, .int p3]) (rest := []) X hT (kt37_X1_apart l G tag L F hT.2.2.2 p0 z8538 p2 p3 m0 g0 (by omega)) m0 g0 rfl rfl qw_389 qw_390 qw_391 qw_17 qw_392 ⟨rfl, by decide +kernel, by decide +kernel, by decide +kernel⟩ ⟨Nat.le_of_ble_eq_true rfl, Nat.le_of_ble_eq_true rfl⟩ hl rfl rfl (Nat.le_of_ble_eq_true rfl) dX6_isFree_37 ⟨Nat.le_of_ble_eq_true rfl, Nat.le_of_ble_eq_true rfl⟩ (fun z8544 F9 H locs hT hz8544 => ?_)
        obtain ⟨fz8544, hz8544⟩ := hz8544
        rw [fz8544] at hT
        refine lv_aload_n hx hb dX6_isFree_40 rfl (lv_at hl 1 rfl) ?_
        refine t_get (C := RX7) (T := TX7) (N := 7) X hT m1 g1 rfl rfl 2 (by decide) qw_383 inlX7 rfl dX6_isFree_41 (fun v8545 hv8545 ov8545 => ?_)
        obtain ⟨b8546, rfl, mb8546, gb8546⟩ := okV_r ov8545
        have gb8546 : tag b8546 = 8 := tg_of gb8546
        refine lv_iload hx hb dX6_isFree_44 (lv_at hl 4 rfl) ?_
        refine t_ild X hT mb8546 gb8546 rfl (by omega) dX6_isFree_46 (fun z8547 vz8547 rz8547 => ?_)
        have rz8547 : 0 ≤ z8547.toInt ∧ z8547.toInt ≤ 6 := rz8547
        refine lv_icmp_gt (tgt := 52) hx hb dX6_isFree_47 (by decide) (fun c8548 => ?_) (fun c8548 => ?_)
        · have w8549 := cv_lt (rfl : z8547.toInt = z8547.toInt) (rfl : z8544.toInt = z8544.toInt) c8548
          obtain ⟨z8550, ez8550⟩ : ∃ y : Int32, y = z8538 + 1 := ⟨_, rfl⟩
          have hz8550 : z8550.toInt = z8538.toInt + 1 := ar_add ez8550 rfl (by decide : (1 : Int32).toInt = 1) (by omega) (by omega)
          refine lv_iinc (v := z8550) (lv' := [(4, .int z8550), (0, .ref p0), (1, .ref p1), (2, .int p2), (3, .int p3)]) hx hb dX6_isFree_52 hl (k := 4) rfl (by rw [ez8550]; rfl) (by decide) rfl (fun ls hl => ?_)
          refine lv_goto (tgt := 23) hx hb dX6_isFree_55 (by decide) ?_
          exact ih23 z8550 _ _ _ (by omega) (by omega) hT  (lv_sub hl [1, 2, 3, 4, 0] rfl)
        · have w8551 := cv_nlt (rfl : z8547.toInt = z8547.toInt) (rfl : z8544.toInt = z8544.toInt) c8548
          refine lv_iconst (v := 0) hx hb dX6_isFree_50 (by decide) ?_
          exact t_zret hQ X hT (by decide) (⟨rfl, (by decide)⟩) (Nat.le_of_ble_eq_true rfl) (Nat.le_of_ble_eq_true rfl) dX6_isFree_51
  refine lv_aload_n hx hb dX6_isFree_0 rfl (lv_at hl 0 rfl) ?_
  refine lv_iload_n hx hb dX6_isFree_1 rfl (lv_at hl 2 rfl) ?_
  refine lv_iload_n hx hb dX6_isFree_2 rfl (lv_at hl 3 rfl) ?_
  refine t_cVi (n := 2) (C := RX1) (T := TX1) (N := 20) (As := [.int p2, .int p3]) (rest := []) X hT (kt39_X1_isOn l G tag L F hT.2.2.2 p0 p2 p3 m0 g0) m0 g0 rfl rfl qw_384 qw_385 qw_386 qw_17 qw_387 ⟨rfl, by decide +kernel, by decide +kernel, by decide +kernel⟩ ⟨Nat.le_of_ble_eq_true rfl, Nat.le_of_ble_eq_true rfl⟩ hl rfl rfl (Nat.le_of_ble_eq_true rfl) dX6_isFree_3 ⟨Nat.le_of_ble_eq_true rfl, Nat.le_of_ble_eq_true rfl⟩ (fun z8552 F9 H locs hT hz8552 => ?_)
  obtain ⟨fz8552, hz8552⟩ := hz8552
  rw [fz8552] at hT
  refine lv_if_eq (tgt := 18) hx hb dX6_isFree_6 (by decide) (fun c8553 => ?_) (fun c8553 => ?_)
  · have w8554 := cv_eq (rfl : z8552.toInt = z8552.toInt) (by decide : (0 : Int32).toInt = 0) c8553
    refine lv_iconst (v := 0) hx hb dX6_isFree_18 (by decide) ?_
    exact t_zret hQ X hT (by decide) (⟨rfl, (by decide)⟩) (Nat.le_of_ble_eq_true rfl) (Nat.le_of_ble_eq_true rfl) dX6_isFree_19
  · have w8555 := cv_ne (rfl : z8552.toInt = z8552.toInt) (by decide : (0 : Int32).toInt = 0) c8553
    refine lv_aload_n hx hb dX6_isFree_9 rfl (lv_at hl 0 rfl) ?_
    refine lv_iload_n hx hb dX6_isFree_10 rfl (lv_at hl 2 rfl) ?_
    refine lv_iload_n hx hb dX6_isFree_11 rfl (lv_at hl 3 rfl) ?_
    refine t_cVi (n := 2) (C := RX1) (T := TX1) (N := 20) (As := [.int p2, .int p3]) (rest := []) X hT (kt40_X1_isWet l G tag L F hT.2.2.2 p0 p2 p3 m0 g0) m0 g0 rfl rfl qw_388 qw_345 qw_346 qw_17 qw_347 ⟨rfl, by decide +kernel, by decide +kernel, by decide +kernel⟩ ⟨Nat.le_of_ble_eq_true rfl, Nat.le_of_ble_eq_true rfl⟩ hl rfl rfl (Nat.le_of_ble_eq_true rfl) dX6_isFree_12 ⟨Nat.le_of_ble_eq_true rfl, Nat.le_of_ble_eq_true rfl⟩ (fun z8556 F9 H locs hT hz8556 => ?_)
    obtain ⟨fz8556, hz8556⟩ := hz8556
    rw [fz8556] at hT
    refine lv_if_eq (tgt := 20) hx hb dX6_isFree_15 (by decide) (fun c8557 => ?_) (fun c8557 => ?_)
    · have w8558 := cv_eq (rfl : z8556.toInt = z8556.toInt) (by decide : (0 : Int32).toInt = 0) c8557
      refine lv_iconst (v := 0) hx hb dX6_isFree_20 (by decide) ?_
      refine lv_istore (lv' := [(4, .int 0), (0, .ref p0), (1, .ref p1), (2, .int p2), (3, .int p3)]) hx hb dX6_isFree_21 hl (by decide) rfl (fun ls hl => ?_)
      have kk8559 : (0 : Int32).toInt = 0 := by decide
      exact K23 5 0 _ _ _ (by omega) (by decide) hT  (lv_sub hl [1, 2, 3, 4, 0] rfl)
    · have w8560 := cv_ne (rfl : z8556.toInt = z8556.toInt) (by decide : (0 : Int32).toInt = 0) c8557
      refine lv_iconst (v := 0) hx hb dX6_isFree_18 (by decide) ?_
      exact t_zret hQ X hT (by decide) (⟨rfl, (by decide)⟩) (Nat.le_of_ble_eq_true rfl) (Nat.le_of_ble_eq_true rfl) dX6_isFree_19
set_option maxHeartbeats 4000000 in
set_option maxRecDepth 100000 in
theorem kt42_X6_isLeftTo (l : Launch) (G : KG) (tag : Nat → Nat) (L : List Nat) (F : Nat → va_E) (ho : okT G ttC tag L F) (p0 : Nat) (p1 : Nat) (p2 : Int32) (p3 : Int32) (p4 : Int32) (m0 : p0 ∈ L) (g0 : tag p0 = 18) (m1 : p1 ∈ L) (g1 : tag p1 = 19) : TMi l yX6_isLeftTo cX6_isLeftTo 8 (some .boolean) { frames := 1, cells := 0, slots := 0, locals := 25 } G ttC tag L F [.ref p0, .ref p1, .int p2, .int p3, .int p4] (fun r F1 => F1 = F ∧ (0 ≤ r.toInt ∧ r.toInt ≤ 1)) := by
  refine t_bodyi (y := yX6_isLeftTo) (cd := cX6_isLeftTo) (mL := 8) (rt := (some .boolean)) (rm := { frames := 1, cells := 0, slots := 0, locals := 25 }) (av := [.ref p0, .ref p1, .int p2, .int p3, .int p4]) (by decide) (Nat.le_of_ble_eq_true rfl) ho ?_
  intro p e s m args below meth c ls A Q hQ X hT hl
  have hx := X.1.1
  have hb := X.1.2.1
  have hl : lv_has ls 8 [(0, .ref p0), (1, .ref p1), (2, .int p2), (3, .int p3), (4, .int p4)] := hl
  have rp2 := rg_all p2
  have rp3 := rg_all p3
  have rp4 := rg_all p4
  have K3 : ∀ (n : Nat) (z9159 : Int32) (H : Heap) (locs : List Loc) (ls : Array Slot), (4 - z9159.toInt < (n : Int)) → (0 ≤ z9159.toInt ∧ z9159.toInt ≤ 4) → TH G ttC A s tag L F H locs → lv_has ls 8 [(0, .ref p0), (1, .ref p1), (2, .int p2), (3, .int p3), (4, .int p4), (5, .int z9159)] → W p l e { frames := 1, cells := 0, slots := 0, locals := 25 } s m args below meth c H locs 0 0 Q (F0 m 3 ls []) := by
    intro n
    induction n with
    | zero =>
      intro z9159 H locs ls hn rz9159 hT hl
      exfalso
      omega
    | succ n ih3 =>
      intro z9159 H locs ls hn rz9159 hT hl
      have K82 : ∀ (z9161 : Int32) (z9162 : Int32) (z9163 : Int32) (z9164 : Int32) (H : Heap) (locs : List Loc) (ls : Array Slot), (0 ≤ z9162.toInt ∧ z9162.toInt ≤ 1) → (1 ≤ z9163.toInt ∧ z9163.toInt ≤ 4) → (0 ≤ z9164.toInt ∧ z9164.toInt ≤ 1) → (0 ≤ z9159.toInt ∧ z9159.toInt ≤ 3) → TH G ttC A s tag L F H locs → fld F p0 10 = .int z9163 → fld F p0 3 = .int z9164 → lv_has ls 8 [(0, .ref p0), (1, .ref p1), (2, .int p2), (3, .int p3), (4, .int p4), (5, .int z9159), (6, .int z9161), (7, .int z9162)] → W p l e { frames := 1, cells := 0, slots := 0, locals := 25 } s m args below meth c H locs 0 0 Q (F0 m 82 ls []) := by
        intro z9161 z9162 z9163 z9164 H locs ls rz9162 rz9163 rz9164 r9s9160 hT qz9163 qz9164 hl
        have rz9161 := rg_all z9161
        obtain ⟨z9165, ez9165⟩ : ∃ y : Int32, y = z9159 + 1 := ⟨_, rfl⟩
        have hz9165 : z9165.toInt = z9159.toInt + 1 := ar_add ez9165 rfl (by decide : (1 : Int32).toInt = 1) (by omega) (by omega)
        refine lv_iinc (v := z9165) (lv' := [(5, .int z9165), (0, .ref p0), (1, .ref p1), (2, .int p2), (3, .int p3), (4, .int p4), (6, .int z9161), (7, .int z9162)]) hx hb dX6_isLeftTo_82 hl (k := 5) rfl (by rw [ez9165]; rfl) (by decide) rfl (fun ls hl => ?_)
        refine lv_goto (tgt := 3) hx hb dX6_isLeftTo_85 (by decide) ?_
        exact ih3 z9165 _ _ _ (by omega) (by omega) hT  (lv_sub hl [1, 2, 3, 4, 5, 0] rfl)
      have K67 : ∀ (z9167 : Int32) (z9168 : Int32) (z9169 : Int32) (z9170 : Int32) (H : Heap) (locs : List Loc) (ls : Array Slot), (0 ≤ z9168.toInt ∧ z9168.toInt ≤ 1) → (1 ≤ z9169.toInt ∧ z9169.toInt ≤ 4) → (0 ≤ z9170.toInt ∧ z9170.toInt ≤ 1) → (0 ≤ z9159.toInt ∧ z9159.toInt ≤ 3) → TH G ttC A s tag L F H locs → fld F p0 10 = .int z9169 → fld F p0 3 = .int z9170 → lv_has ls 8 [(0, .ref p0), (1, .ref p1), (2, .int p2), (3, .int p3), (4, .int p4), (5, .int z9159), (6, .int z9167)] → W p l e { frames := 1, cells := 0, slots := 0, locals := 25 } s m args below meth c H locs 0 0 Q (F0 m 67 ls [.int z9168]) := by
        intro z9167 z9168 z9169 z9170 H locs ls rz9168 rz9169 rz9170 r9s9166 hT qz9169 qz9170 hl
        have rz9167 := rg_all z9167
        refine lv_istore (lv' := [(7, .int z9168), (0, .ref p0), (1, .ref p1), (2, .int p2), (3, .int p3), (4, .int p4), (5, .int z9159), (6, .int z9167)]) hx hb dX6_isLeftTo_67 hl (by decide) rfl (fun ls hl => ?_)
        refine lv_iload hx hb dX6_isLeftTo_69 (lv_at hl 6 rfl) ?_
        refine lv_iload_n hx hb dX6_isLeftTo_71 rfl (lv_at hl 3 rfl) ?_
        refine lv_icmp_eq (tgt := 82) hx hb dX6_isLeftTo_72 (by decide) (fun c9171 => ?_) (fun c9171 => ?_)
        · have w9172 := cv_eq (rfl : z9159.toInt = z9159.toInt) (rfl : p2.toInt = p2.toInt) c9171
          exact K82 z9167 z9168 z9169 z9170 _ _ _ (by omega) (by omega) (by omega) (by omega) hT qz9169 qz9170 (lv_sub hl [1, 2, 3, 4, 5, 6, 7, 0] rfl)
        · have w9173 := cv_ne (rfl : z9159.toInt = z9159.toInt) (rfl : p2.toInt = p2.toInt) c9171
          refine lv_iload hx hb dX6_isLeftTo_75 (lv_at hl 0 rfl) ?_
          refine lv_if_eq (tgt := 82) hx hb dX6_isLeftTo_77 (by decide) (fun c9174 => ?_) (fun c9174 => ?_)
          · have w9175 := cv_eq (rfl : z9168.toInt = z9168.toInt) (by decide : (0 : Int32).toInt = 0) c9174
            exact K82 z9167 z9168 z9169 z9170 _ _ _ (by omega) (by omega) (by omega) (by omega) hT qz9169 qz9170 (lv_sub hl [1, 2, 3, 4, 5, 6, 7, 0] rfl)
          · have w9176 := cv_ne (rfl : z9168.toInt = z9168.toInt) (by decide : (0 : Int32).toInt = 0) c9174
            refine lv_iconst (v := 0) hx hb dX6_isLeftTo_80 (by decide) ?_
            exact t_zret hQ X hT (by decide) (⟨rfl, (by decide)⟩) (Nat.le_of_ble_eq_true rfl) (Nat.le_of_ble_eq_true rfl) dX6_isLeftTo_81
      refine lv_iload hx hb dX6_isLeftTo_3 (lv_at hl 5 rfl) ?_
      refine lv_aload_n hx hb dX6_isLeftTo_5 rfl (lv_at hl 0 rfl) ?_
      refine t_get (C := RX1) (T := TX1) (N := 20) X hT m0 g0 rfl rfl 10 (by decide) qw_382 inlX1 rfl dX6_isLeftTo_6 (fun v9177 hv9177 ov9177 => ?_)
      obtain ⟨z9178, rfl, rz9178⟩ := okV_i ov9177
      refine lv_icmp_ge (tgt := 88) hx hb dX6_isLeftTo_9 (by decide) (fun c9179 => ?_) (fun c9179 => ?_)
      · have w9180 := cv_le (rfl : z9178.toInt = z9178.toInt) (rfl : z9159.toInt = z9159.toInt) c9179
        refine lv_iconst (v := 1) hx hb dX6_isLeftTo_88 (by decide) ?_
        exact t_zret hQ X hT (by decide) (⟨rfl, (by decide)⟩) (Nat.le_of_ble_eq_true rfl) (Nat.le_of_ble_eq_true rfl) dX6_isLeftTo_89
      · have w9181 := cv_nle (rfl : z9178.toInt = z9178.toInt) (rfl : z9159.toInt = z9159.toInt) c9179
        refine lv_aload_n hx hb dX6_isLeftTo_12 rfl (lv_at hl 0 rfl) ?_
        refine lv_iload hx hb dX6_isLeftTo_13 (lv_at hl 5 rfl) ?_
        refine lv_iload_n hx hb dX6_isLeftTo_15 rfl (lv_at hl 3 rfl) ?_
        refine lv_iload hx hb dX6_isLeftTo_16 (lv_at hl 4 rfl) ?_
        refine t_cVi (n := 3) (C := RX1) (T := TX1) (N := 20) (As := [.int z9159, .int p3, .int p4]) (rest := []) X hT (kt37_X1_apart l G tag L F hT.2.2.2 p0 z9159 p3 p4 m0 g0 (by omega)) m0 g0 rfl rfl qw_389 qw_390 qw_391 qw_17 qw_392 ⟨rfl, by decide +kernel, by decide +kernel, by decide +kernel⟩ ⟨Nat.le_of_ble_eq_true rfl, Nat.le_of_ble_eq_true rfl⟩ hl rfl rfl (Nat.le_of_ble_eq_true rfl) dX6_isLeftTo_18 ⟨Nat.le_of_ble_eq_true rfl, Nat.le_of_ble_eq_true rfl⟩ (fun z9182 F9 H locs hT hz9182 => ?_)
        obtain ⟨fz9182, hz9182⟩ := hz9182
        rw [fz9182] at hT
        refine lv_istore (lv' := [(6, .int z9182), (0, .ref p0), (1, .ref p1), (2, .int p2), (3, .int p3), (4, .int p4), (5, .int z9159)]) hx hb dX6_isLeftTo_21 hl (by decide) rfl (fun ls hl => ?_)
        refine lv_aload_n hx hb dX6_isLeftTo_23 rfl (lv_at hl 1 rfl) ?_
        refine t_get (C := RX1) (T := TX1) (N := 20) X hT m0 g0 rfl rfl 3 (by decide) qw_417 inlX1 rfl dX6_isLeftTo_24 (fun v9183 hv9183 ov9183 => ?_)
        obtain ⟨z9184, rfl, rz9184⟩ := okV_i ov9183
        refine lv_if_eq (tgt := 50) hx hb dX6_isLeftTo_27 (by decide) (fun c9185 => ?_) (fun c9185 => ?_)
        · have w9186 := cv_eq (rfl : z9184.toInt = z9184.toInt) (by decide : (0 : Int32).toInt = 0) c9185
          refine lv_iload hx hb dX6_isLeftTo_50 (lv_at hl 0 rfl) ?_
          refine lv_aload_n hx hb dX6_isLeftTo_52 rfl (lv_at hl 2 rfl) ?_
          refine t_get (C := RX7) (T := TX7) (N := 7) X hT m1 g1 rfl rfl 2 (by decide) qw_383 inlX7 rfl dX6_isLeftTo_53 (fun v9187 hv9187 ov9187 => ?_)
          obtain ⟨b9188, rfl, mb9188, gb9188⟩ := okV_r ov9187
          have gb9188 : tag b9188 = 8 := tg_of gb9188
          refine lv_iload hx hb dX6_isLeftTo_56 (lv_at hl 6 rfl) ?_
          refine t_ild X hT mb9188 gb9188 rfl (by omega) dX6_isLeftTo_58 (fun z9189 vz9189 rz9189 => ?_)
          have rz9189 : 0 ≤ z9189.toInt ∧ z9189.toInt ≤ 6 := rz9189
          refine lv_icmp_gt (tgt := 66) hx hb dX6_isLeftTo_59 (by decide) (fun c9190 => ?_) (fun c9190 => ?_)
          · have w9191 := cv_lt (rfl : z9189.toInt = z9189.toInt) (rfl : z9182.toInt = z9182.toInt) c9190
            refine lv_iconst (v := 0) hx hb dX6_isLeftTo_66 (by decide) ?_
            exact K67 z9182 0 z9178 z9184 _ _ _ (by decide) (by omega) (by omega) (by omega) hT hv9177 hv9183 (lv_sub hl [1, 2, 3, 4, 5, 6, 0] rfl)
          · have w9192 := cv_nlt (rfl : z9189.toInt = z9189.toInt) (rfl : z9182.toInt = z9182.toInt) c9190
            refine lv_iconst (v := 1) hx hb dX6_isLeftTo_62 (by decide) ?_
            refine lv_goto (tgt := 67) hx hb dX6_isLeftTo_63 (by decide) ?_
            exact K67 z9182 1 z9178 z9184 _ _ _ (by decide) (by omega) (by omega) (by omega) hT hv9177 hv9183 (lv_sub hl [1, 2, 3, 4, 5, 6, 0] rfl)
        · have w9193 := cv_ne (rfl : z9184.toInt = z9184.toInt) (by decide : (0 : Int32).toInt = 0) c9185
          refine lv_iload hx hb dX6_isLeftTo_30 (lv_at hl 0 rfl) ?_
          refine lv_aload_n hx hb dX6_isLeftTo_32 rfl (lv_at hl 2 rfl) ?_
          refine t_get (C := RX7) (T := TX7) (N := 7) X hT m1 g1 rfl rfl 2 (by decide) qw_383 inlX7 rfl dX6_isLeftTo_33 (fun v9194 hv9194 ov9194 => ?_)
          obtain ⟨b9195, rfl, mb9195, gb9195⟩ := okV_r ov9194
          have gb9195 : tag b9195 = 8 := tg_of gb9195
          refine lv_iload hx hb dX6_isLeftTo_36 (lv_at hl 6 rfl) ?_
          refine t_ild X hT mb9195 gb9195 rfl (by omega) dX6_isLeftTo_38 (fun z9196 vz9196 rz9196 => ?_)
          have rz9196 : 0 ≤ z9196.toInt ∧ z9196.toInt ≤ 6 := rz9196
          refine lv_icmp_ge (tgt := 46) hx hb dX6_isLeftTo_39 (by decide) (fun c9197 => ?_) (fun c9197 => ?_)
          · have w9198 := cv_le (rfl : z9196.toInt = z9196.toInt) (rfl : z9182.toInt = z9182.toInt) c9197
            refine lv_iconst (v := 0) hx hb dX6_isLeftTo_46 (by decide) ?_
            refine lv_goto (tgt := 67) hx hb dX6_isLeftTo_47 (by decide) ?_
            exact K67 z9182 0 z9178 z9184 _ _ _ (by decide) (by omega) (by omega) (by omega) hT hv9177 hv9183 (lv_sub hl [1, 2, 3, 4, 5, 6, 0] rfl)
          · have w9199 := cv_nle (rfl : z9196.toInt = z9196.toInt) (rfl : z9182.toInt = z9182.toInt) c9197
            refine lv_iconst (v := 1) hx hb dX6_isLeftTo_42 (by decide) ?_
            refine lv_goto (tgt := 67) hx hb dX6_isLeftTo_43 (by decide) ?_
            exact K67 z9182 1 z9178 z9184 _ _ _ (by decide) (by omega) (by omega) (by omega) hT hv9177 hv9183 (lv_sub hl [1, 2, 3, 4, 5, 6, 0] rfl)
  refine lv_iconst (v := 0) hx hb dX6_isLeftTo_0 (by decide) ?_
  refine lv_istore (lv' := [(5, .int 0), (0, .ref p0), (1, .ref p1), (2, .int p2), (3, .int p3), (4, .int p4)]) hx hb dX6_isLeftTo_1 hl (by decide) rfl (fun ls hl => ?_)
  have kk9200 : (0 : Int32).toInt = 0 := by decide
  exact K3 5 0 _ _ _ (by omega) (by decide) hT  (lv_sub hl [1, 2, 3, 4, 5, 0] rfl)
set_option maxHeartbeats 4000000 in
set_option maxRecDepth 100000 in
theorem kt43_X4_eastOf (l : Launch) (G : KG) (tag : Nat → Nat) (L : List Nat) (F : Nat → va_E) (ho : okT G ttC tag L F) (p0 : Int32) (p1 : Int32)  : TMi l yX4_eastOf cX4_eastOf 3 (some .int) { frames := 0, cells := 0, slots := 0, locals := 0 } G ttC tag L F [.int p0, .int p1] (fun r F1 => F1 = F ∧ ((-2147483648) ≤ r.toInt ∧ r.toInt ≤ 2147483647)) := by
  refine t_bodyi (y := yX4_eastOf) (cd := cX4_eastOf) (mL := 3) (rt := (some .int)) (rm := { frames := 0, cells := 0, slots := 0, locals := 0 }) (av := [.int p0, .int p1]) (by decide) (Nat.le_of_ble_eq_true rfl) ho ?_
  intro p e s m args below meth c ls A Q hQ X hT hl
  have hx := X.1.1
  have hb := X.1.2.1
  have hl : lv_has ls 3 [(0, .int p0), (1, .int p1)] := hl
  have rp0 := rg_all p0
  have rp1 := rg_all p1
  refine lv_iload_n hx hb dX4_eastOf_0 rfl (lv_at hl 0 rfl) ?_
  refine lv_iconst (v := 1) hx hb dX4_eastOf_1 (by decide) ?_
  refine lv_icmp_ge (tgt := 7) hx hb dX4_eastOf_2 (by decide) (fun c9441 => ?_) (fun c9441 => ?_)
  · have w9442 := cv_le (by decide : (1 : Int32).toInt = 1) (rfl : p0.toInt = p0.toInt) c9441
    refine lv_iload_n hx hb dX4_eastOf_7 rfl (lv_at hl 1 rfl) ?_
    refine lv_iconst (v := 2) hx hb dX4_eastOf_8 (by decide) ?_
    refine lv_iload_n hx hb dX4_eastOf_9 rfl (lv_at hl 0 rfl) ?_
    refine lv_imul hx hb dX4_eastOf_10 ?_
    refine lv_topi (fun z9443 ez9443 => ?_)
    have rz9443 := rg_all z9443
    refine lv_irem hx hb dX4_eastOf_11 (mul2_ne ez9443 (by omega)) ?_
    refine lv_topi (fun z9444 ez9444 => ?_)
    have rz9444 := rg_all z9444
    refine lv_istore_n (lv' := [(2, .int z9444), (0, .int p0), (1, .int p1)]) hx hb dX4_eastOf_12 rfl hl (by decide) rfl (fun ls hl => ?_)
    refine lv_iload_n hx hb dX4_eastOf_13 rfl (lv_at hl 2 rfl) ?_
    refine lv_iconst (v := 2) hx hb dX4_eastOf_14 (by decide) ?_
    refine lv_iload_n hx hb dX4_eastOf_15 rfl (lv_at hl 1 rfl) ?_
    refine lv_imul hx hb dX4_eastOf_16 ?_
    refine lv_topi (fun z9445 ez9445 => ?_)
    have rz9445 := rg_all z9445
    refine lv_idiv hx hb dX4_eastOf_17 (mul2_ne ez9445 (by omega)) ?_
    refine lv_topi (fun z9446 ez9446 => ?_)
    have rz9446 := rg_all z9446
    by_cases c9447 : z9446 = 0
    · have w9448 := cv_eq (rfl : z9446.toInt = z9446.toInt) (by decide : (0 : Int32).toInt = 0) c9447
      refine lv_tableIn (off := 26) (tgt := 44) hx hb dX4_eastOf_18 (by rw [c9447]; decide) (by rw [c9447]; decide) (by rw [c9447]; decide) (by decide) ?_
      refine lv_iload_n hx hb dX4_eastOf_44 rfl (lv_at hl 0 rfl) ?_
      refine lv_iload_n hx hb dX4_eastOf_45 rfl (lv_at hl 1 rfl) ?_
      refine lv_isub hx hb dX4_eastOf_46 ?_
      refine lv_topi (fun z9449 ez9449 => ?_)
      have rz9449 := rg_all z9449
      exact t_iret hQ X hT (⟨rfl, rg_all _⟩) (Nat.le_of_ble_eq_true rfl) (Nat.le_of_ble_eq_true rfl) dX4_eastOf_47
    have w9450 := cv_ne (rfl : z9446.toInt = z9446.toInt) (by decide : (0 : Int32).toInt = 0) c9447
    by_cases c9451 : z9446 = 1
    · have w9452 := cv_eq (rfl : z9446.toInt = z9446.toInt) (by decide : (1 : Int32).toInt = 1) c9451
      refine lv_tableIn (off := 30) (tgt := 48) hx hb dX4_eastOf_18 (by rw [c9451]; decide) (by rw [c9451]; decide) (by rw [c9451]; decide) (by decide) ?_
      refine lv_iload_n hx hb dX4_eastOf_48 rfl (lv_at hl 1 rfl) ?_
      exact t_iret hQ X hT (⟨rfl, rg_all _⟩) (Nat.le_of_ble_eq_true rfl) (Nat.le_of_ble_eq_true rfl) dX4_eastOf_49
    have w9453 := cv_ne (rfl : z9446.toInt = z9446.toInt) (by decide : (1 : Int32).toInt = 1) c9451
    by_cases c9454 : z9446 = 2
    · have w9455 := cv_eq (rfl : z9446.toInt = z9446.toInt) (by decide : (2 : Int32).toInt = 2) c9454
      refine lv_tableIn (off := 32) (tgt := 50) hx hb dX4_eastOf_18 (by rw [c9454]; decide) (by rw [c9454]; decide) (by rw [c9454]; decide) (by decide) ?_
      refine lv_iload_n hx hb dX4_eastOf_50 rfl (lv_at hl 1 rfl) ?_
      refine lv_iload_n hx hb dX4_eastOf_51 rfl (lv_at hl 0 rfl) ?_
      refine lv_isub hx hb dX4_eastOf_52 ?_
      refine lv_topi (fun z9456 ez9456 => ?_)
      have rz9456 := rg_all z9456
      exact t_iret hQ X hT (⟨rfl, rg_all _⟩) (Nat.le_of_ble_eq_true rfl) (Nat.le_of_ble_eq_true rfl) dX4_eastOf_53
    have w9457 := cv_ne (rfl : z9446.toInt = z9446.toInt) (by decide : (2 : Int32).toInt = 2) c9454
    refine lv_tableOut (tgt := 54) hx hb dX4_eastOf_18 (by omega) (by decide) ?_
    refine lv_iload_n hx hb dX4_eastOf_54 rfl (lv_at hl 1 rfl) ?_
    refine lv_ineg hx hb dX4_eastOf_55 ?_
    refine lv_topi (fun z9458 ez9458 => ?_)
    have hz9458 : z9458.toInt = - p0.toInt := ar_neg ez9458 (rfl : p0.toInt = p0.toInt) (by omega)
    exact t_iret hQ X hT (⟨rfl, rg_all _⟩) (Nat.le_of_ble_eq_true rfl) (Nat.le_of_ble_eq_true rfl) dX4_eastOf_56
  · have w9459 := cv_nle (by decide : (1 : Int32).toInt = 1) (rfl : p0.toInt = p0.toInt) c9441
    refine lv_iconst (v := 0) hx hb dX4_eastOf_5 (by decide) ?_
    exact t_iret hQ X hT (⟨rfl, rg_all _⟩) (Nat.le_of_ble_eq_true rfl) (Nat.le_of_ble_eq_true rfl) dX4_eastOf_6
set_option maxHeartbeats 4000000 in
set_option maxRecDepth 100000 in
theorem kt44_X4_southOf (l : Launch) (G : KG) (tag : Nat → Nat) (L : List Nat) (F : Nat → va_E) (ho : okT G ttC tag L F) (p0 : Int32) (p1 : Int32)  : TMi l yX4_southOf cX4_southOf 3 (some .int) { frames := 0, cells := 0, slots := 0, locals := 0 } G ttC tag L F [.int p0, .int p1] (fun r F1 => F1 = F ∧ ((-2147483648) ≤ r.toInt ∧ r.toInt ≤ 2147483647)) := by
  refine t_bodyi (y := yX4_southOf) (cd := cX4_southOf) (mL := 3) (rt := (some .int)) (rm := { frames := 0, cells := 0, slots := 0, locals := 0 }) (av := [.int p0, .int p1]) (by decide) (Nat.le_of_ble_eq_true rfl) ho ?_
  intro p e s m args below meth c ls A Q hQ X hT hl
  have hx := X.1.1
  have hb := X.1.2.1
  have hl : lv_has ls 3 [(0, .int p0), (1, .int p1)] := hl
  have rp0 := rg_all p0
  have rp1 := rg_all p1
  refine lv_iload_n hx hb dX4_southOf_0 rfl (lv_at hl 0 rfl) ?_
  refine lv_iconst (v := 1) hx hb dX4_southOf_1 (by decide) ?_
  refine lv_icmp_ge (tgt := 7) hx hb dX4_southOf_2 (by decide) (fun c9671 => ?_) (fun c9671 => ?_)
  · have w9672 := cv_le (by decide : (1 : Int32).toInt = 1) (rfl : p0.toInt = p0.toInt) c9671
    refine lv_iload_n hx hb dX4_southOf_7 rfl (lv_at hl 1 rfl) ?_
    refine lv_iconst (v := 2) hx hb dX4_southOf_8 (by decide) ?_
    refine lv_iload_n hx hb dX4_southOf_9 rfl (lv_at hl 0 rfl) ?_
    refine lv_imul hx hb dX4_southOf_10 ?_
    refine lv_topi (fun z9673 ez9673 => ?_)
    have rz9673 := rg_all z9673
    refine lv_irem hx hb dX4_southOf_11 (mul2_ne ez9673 (by omega)) ?_
    refine lv_topi (fun z9674 ez9674 => ?_)
    have rz9674 := rg_all z9674
    refine lv_istore_n (lv' := [(2, .int z9674), (0, .int p0), (1, .int p1)]) hx hb dX4_southOf_12 rfl hl (by decide) rfl (fun ls hl => ?_)
    refine lv_iload_n hx hb dX4_southOf_13 rfl (lv_at hl 2 rfl) ?_
    refine lv_iconst (v := 2) hx hb dX4_southOf_14 (by decide) ?_
    refine lv_iload_n hx hb dX4_southOf_15 rfl (lv_at hl 1 rfl) ?_
    refine lv_imul hx hb dX4_southOf_16 ?_
    refine lv_topi (fun z9675 ez9675 => ?_)
    have rz9675 := rg_all z9675
    refine lv_idiv hx hb dX4_southOf_17 (mul2_ne ez9675 (by omega)) ?_
    refine lv_topi (fun z9676 ez9676 => ?_)
    have rz9676 := rg_all z9676
    by_cases c9677 : z9676 = 0
    · have w9678 := cv_eq (rfl : z9676.toInt = z9676.toInt) (by decide : (0 : Int32).toInt = 0) c9677
      refine lv_tableIn (off := 26) (tgt := 44) hx hb dX4_southOf_18 (by rw [c9677]; decide) (by rw [c9677]; decide) (by rw [c9677]; decide) (by decide) ?_
      refine lv_iload_n hx hb dX4_southOf_44 rfl (lv_at hl 1 rfl) ?_
      refine lv_ineg hx hb dX4_southOf_45 ?_
      refine lv_topi (fun z9679 ez9679 => ?_)
      have hz9679 : z9679.toInt = - p0.toInt := ar_neg ez9679 (rfl : p0.toInt = p0.toInt) (by omega)
      exact t_iret hQ X hT (⟨rfl, rg_all _⟩) (Nat.le_of_ble_eq_true rfl) (Nat.le_of_ble_eq_true rfl) dX4_southOf_46
    have w9680 := cv_ne (rfl : z9676.toInt = z9676.toInt) (by decide : (0 : Int32).toInt = 0) c9677
    by_cases c9681 : z9676 = 1
    · have w9682 := cv_eq (rfl : z9676.toInt = z9676.toInt) (by decide : (1 : Int32).toInt = 1) c9681
      refine lv_tableIn (off := 29) (tgt := 47) hx hb dX4_southOf_18 (by rw [c9681]; decide) (by rw [c9681]; decide) (by rw [c9681]; decide) (by decide) ?_
      refine lv_iload_n hx hb dX4_southOf_47 rfl (lv_at hl 0 rfl) ?_
      refine lv_iload_n hx hb dX4_southOf_48 rfl (lv_at hl 1 rfl) ?_
      refine lv_isub hx hb dX4_southOf_49 ?_
      refine lv_topi (fun z9683 ez9683 => ?_)
      have rz9683 := rg_all z9683
      exact t_iret hQ X hT (⟨rfl, rg_all _⟩) (Nat.le_of_ble_eq_true rfl) (Nat.le_of_ble_eq_true rfl) dX4_southOf_50
    have w9684 := cv_ne (rfl : z9676.toInt = z9676.toInt) (by decide : (1 : Int32).toInt = 1) c9681
    by_cases c9685 : z9676 = 2
    · have w9686 := cv_eq (rfl : z9676.toInt = z9676.toInt) (by decide : (2 : Int32).toInt = 2) c9685
      refine lv_tableIn (off := 33) (tgt := 51) hx hb dX4_southOf_18 (by rw [c9685]; decide) (by rw [c9685]; decide) (by rw [c9685]; decide) (by decide) ?_
      refine lv_iload_n hx hb dX4_southOf_51 rfl (lv_at hl 1 rfl) ?_
      exact t_iret hQ X hT (⟨rfl, rg_all _⟩) (Nat.le_of_ble_eq_true rfl) (Nat.le_of_ble_eq_true rfl) dX4_southOf_52
    have w9687 := cv_ne (rfl : z9676.toInt = z9676.toInt) (by decide : (2 : Int32).toInt = 2) c9685
    refine lv_tableOut (tgt := 53) hx hb dX4_southOf_18 (by omega) (by decide) ?_
    refine lv_iload_n hx hb dX4_southOf_53 rfl (lv_at hl 1 rfl) ?_
    refine lv_iload_n hx hb dX4_southOf_54 rfl (lv_at hl 0 rfl) ?_
    refine lv_isub hx hb dX4_southOf_55 ?_
    refine lv_topi (fun z9688 ez9688 => ?_)
    have rz9688 := rg_all z9688
    exact t_iret hQ X hT (⟨rfl, rg_all _⟩) (Nat.le_of_ble_eq_true rfl) (Nat.le_of_ble_eq_true rfl) dX4_southOf_56
  · have w9689 := cv_nle (by decide : (1 : Int32).toInt = 1) (rfl : p0.toInt = p0.toInt) c9671
    refine lv_iconst (v := 0) hx hb dX4_southOf_5 (by decide) ?_
    exact t_iret hQ X hT (⟨rfl, rg_all _⟩) (Nat.le_of_ble_eq_true rfl) (Nat.le_of_ble_eq_true rfl) dX4_southOf_6
set_option maxHeartbeats 4000000 in
set_option maxRecDepth 100000 in
theorem kt45_X6_isLeftTo (l : Launch) (G : KG) (tag : Nat → Nat) (L : List Nat) (F : Nat → va_E) (ho : okT G ttC tag L F) (p0 : Nat) (p1 : Nat) (p2 : Int32) (p3 : Int32) (p4 : Int32) (m0 : p0 ∈ L) (g0 : tag p0 = 18) (m1 : p1 ∈ L) (g1 : tag p1 = 19) : TMi l yX6_isLeftTo cX6_isLeftTo 8 (some .boolean) { frames := 1, cells := 0, slots := 0, locals := 25 } G ttC tag L F [.ref p0, .ref p1, .int p2, .int p3, .int p4] (fun r F1 => F1 = F ∧ (0 ≤ r.toInt ∧ r.toInt ≤ 1)) := by
  refine t_bodyi (y := yX6_isLeftTo) (cd := cX6_isLeftTo) (mL := 8) (rt := (some .boolean)) (rm := { frames := 1, cells := 0, slots := 0, locals := 25 }) (av := [.ref p0, .ref p1, .int p2, .int p3, .int p4]) (by decide) (Nat.le_of_ble_eq_true rfl) ho ?_
  intro p e s m args below meth c ls A Q hQ X hT hl
  have hx := X.1.1
  have hb := X.1.2.1
  have hl : lv_has ls 8 [(0, .ref p0), (1, .ref p1), (2, .int p2), (3, .int p3), (4, .int p4)] := hl
  have rp2 := rg_all p2
  have rp3 := rg_all p3
  have rp4 := rg_all p4
  have K3 : ∀ (n : Nat) (z10294 : Int32) (H : Heap) (locs : List Loc) (ls : Array Slot), (4 - z10294.toInt < (n : Int)) → (0 ≤ z10294.toInt ∧ z10294.toInt ≤ 4) → TH G ttC A s tag L F H locs → lv_has ls 8 [(0, .ref p0), (1, .ref p1), (2, .int p2), (3, .int p3), (4, .int p4), (5, .int z10294)] → W p l e { frames := 1, cells := 0, slots := 0, locals := 25 } s m args below meth c H locs 0 0 Q (F0 m 3 ls []) := by
    intro n
    induction n with
    | zero =>
      intro z10294 H locs ls hn rz10294 hT hl
      exfalso
      omega
    | succ n ih3 =>
      intro z10294 H locs ls hn rz10294 hT hl
      have K82 : ∀ (z10296 : Int32) (z10297 : Int32) (z10298 : Int32) (z10299 : Int32) (H : Heap) (locs : List Loc) (ls : Array Slot), (0 ≤ z10297.toInt ∧ z10297.toInt ≤ 1) → (1 ≤ z10298.toInt ∧ z10298.toInt ≤ 4) → (0 ≤ z10299.toInt ∧ z10299.toInt ≤ 1) → (0 ≤ z10294.toInt ∧ z10294.toInt ≤ 3) → TH G ttC A s tag L F H locs → fld F p0 10 = .int z10298 → fld F p0 3 = .int z10299 → lv_has ls 8 [(0, .ref p0), (1, .ref p1), (2, .int p2), (3, .int p3), (4, .int p4), (5, .int z10294), (6, .int z10296), (7, .int z10297)] → W p l e { frames := 1, cells := 0, slots := 0, locals := 25 } s m args below meth c H locs 0 0 Q (F0 m 82 ls []) := by
        intro z10296 z10297 z10298 z10299 H locs ls rz10297 rz10298 rz10299 r9s10295 hT qz10298 qz10299 hl
        have rz10296 := rg_all z10296
        obtain ⟨z10300, ez10300⟩ : ∃ y : Int32, y = z10294 + 1 := ⟨_, rfl⟩
        have hz10300 : z10300.toInt = z10294.toInt + 1 := ar_add ez10300 rfl (by decide : (1 : Int32).toInt = 1) (by omega) (by omega)
        refine lv_iinc (v := z10300) (lv' := [(5, .int z10300), (0, .ref p0), (1, .ref p1), (2, .int p2), (3, .int p3), (4, .int p4), (6, .int z10296), (7, .int z10297)]) hx hb dX6_isLeftTo_82 hl (k := 5) rfl (by rw [ez10300]; rfl) (by decide) rfl (fun ls hl => ?_)
        refine lv_goto (tgt := 3) hx hb dX6_isLeftTo_85 (by decide) ?_
        exact ih3 z10300 _ _ _ (by omega) (by omega) hT  (lv_sub hl [1, 2, 3, 4, 5, 0] rfl)
      have K67 : ∀ (z10302 : Int32) (z10303 : Int32) (z10304 : Int32) (z10305 : Int32) (H : Heap) (locs : List Loc) (ls : Array Slot), (0 ≤ z10303.toInt ∧ z10303.toInt ≤ 1) → (1 ≤ z10304.toInt ∧ z10304.toInt ≤ 4) → (0 ≤ z10305.toInt ∧ z10305.toInt ≤ 1) → (0 ≤ z10294.toInt ∧ z10294.toInt ≤ 3) → TH G ttC A s tag L F H locs → fld F p0 10 = .int z10304 → fld F p0 3 = .int z10305 → lv_has ls 8 [(0, .ref p0), (1, .ref p1), (2, .int p2), (3, .int p3), (4, .int p4), (5, .int z10294), (6, .int z10302)] → W p l e { frames := 1, cells := 0, slots := 0, locals := 25 } s m args below meth c H locs 0 0 Q (F0 m 67 ls [.int z10303]) := by
        intro z10302 z10303 z10304 z10305 H locs ls rz10303 rz10304 rz10305 r9s10301 hT qz10304 qz10305 hl
        have rz10302 := rg_all z10302
        refine lv_istore (lv' := [(7, .int z10303), (0, .ref p0), (1, .ref p1), (2, .int p2), (3, .int p3), (4, .int p4), (5, .int z10294), (6, .int z10302)]) hx hb dX6_isLeftTo_67 hl (by decide) rfl (fun ls hl => ?_)
        refine lv_iload hx hb dX6_isLeftTo_69 (lv_at hl 6 rfl) ?_
        refine lv_iload_n hx hb dX6_isLeftTo_71 rfl (lv_at hl 3 rfl) ?_
        refine lv_icmp_eq (tgt := 82) hx hb dX6_isLeftTo_72 (by decide) (fun c10306 => ?_) (fun c10306 => ?_)
        · have w10307 := cv_eq (rfl : z10294.toInt = z10294.toInt) (rfl : p2.toInt = p2.toInt) c10306
          exact K82 z10302 z10303 z10304 z10305 _ _ _ (by omega) (by omega) (by omega) (by omega) hT qz10304 qz10305 (lv_sub hl [1, 2, 3, 4, 5, 6, 7, 0] rfl)
        · have w10308 := cv_ne (rfl : z10294.toInt = z10294.toInt) (rfl : p2.toInt = p2.toInt) c10306
          refine lv_iload hx hb dX6_isLeftTo_75 (lv_at hl 0 rfl) ?_
          refine lv_if_eq (tgt := 82) hx hb dX6_isLeftTo_77 (by decide) (fun c10309 => ?_) (fun c10309 => ?_)
          · have w10310 := cv_eq (rfl : z10303.toInt = z10303.toInt) (by decide : (0 : Int32).toInt = 0) c10309
            exact K82 z10302 z10303 z10304 z10305 _ _ _ (by omega) (by omega) (by omega) (by omega) hT qz10304 qz10305 (lv_sub hl [1, 2, 3, 4, 5, 6, 7, 0] rfl)
          · have w10311 := cv_ne (rfl : z10303.toInt = z10303.toInt) (by decide : (0 : Int32).toInt = 0) c10309
            refine lv_iconst (v := 0) hx hb dX6_isLeftTo_80 (by decide) ?_
            exact t_zret hQ X hT (by decide) (⟨rfl, (by decide)⟩) (Nat.le_of_ble_eq_true rfl) (Nat.le_of_ble_eq_true rfl) dX6_isLeftTo_81
      refine lv_iload hx hb dX6_isLeftTo_3 (lv_at hl 5 rfl) ?_
      refine lv_aload_n hx hb dX6_isLeftTo_5 rfl (lv_at hl 0 rfl) ?_
      refine t_get (C := RX1) (T := TX1) (N := 20) X hT m0 g0 rfl rfl 10 (by decide) qw_382 inlX1 rfl dX6_isLeftTo_6 (fun v10312 hv10312 ov10312 => ?_)
      obtain ⟨z10313, rfl, rz10313⟩ := okV_i ov10312
      refine lv_icmp_ge (tgt := 88) hx hb dX6_isLeftTo_9 (by decide) (fun c10314 => ?_) (fun c10314 => ?_)
      · have w10315 := cv_le (rfl : z10313.toInt = z10313.toInt) (rfl : z10294.toInt = z10294.toInt) c10314
        refine lv_iconst (v := 1) hx hb dX6_isLeftTo_88 (by decide) ?_
        exact t_zret hQ X hT (by decide) (⟨rfl, (by decide)⟩) (Nat.le_of_ble_eq_true rfl) (Nat.le_of_ble_eq_true rfl) dX6_isLeftTo_89
      · have w10316 := cv_nle (rfl : z10313.toInt = z10313.toInt) (rfl : z10294.toInt = z10294.toInt) c10314
        refine lv_aload_n hx hb dX6_isLeftTo_12 rfl (lv_at hl 0 rfl) ?_
        refine lv_iload hx hb dX6_isLeftTo_13 (lv_at hl 5 rfl) ?_
        refine lv_iload_n hx hb dX6_isLeftTo_15 rfl (lv_at hl 3 rfl) ?_
        refine lv_iload hx hb dX6_isLeftTo_16 (lv_at hl 4 rfl) ?_
        refine t_cVi (n := 3) (C := RX1) (T := TX1) (N := 20) (As := [.int z10294, .int p3, .int p4]) (rest := []) X hT (kt37_X1_apart l G tag L F hT.2.2.2 p0 z10294 p3 p4 m0 g0 (by omega)) m0 g0 rfl rfl qw_389 qw_390 qw_391 qw_17 qw_392 ⟨rfl, by decide +kernel, by decide +kernel, by decide +kernel⟩ ⟨Nat.le_of_ble_eq_true rfl, Nat.le_of_ble_eq_true rfl⟩ hl rfl rfl (Nat.le_of_ble_eq_true rfl) dX6_isLeftTo_18 ⟨Nat.le_of_ble_eq_true rfl, Nat.le_of_ble_eq_true rfl⟩ (fun z10317 F9 H locs hT hz10317 => ?_)
        obtain ⟨fz10317, hz10317⟩ := hz10317
        rw [fz10317] at hT
        refine lv_istore (lv' := [(6, .int z10317), (0, .ref p0), (1, .ref p1), (2, .int p2), (3, .int p3), (4, .int p4), (5, .int z10294)]) hx hb dX6_isLeftTo_21 hl (by decide) rfl (fun ls hl => ?_)
        refine lv_aload_n hx hb dX6_isLeftTo_23 rfl (lv_at hl 1 rfl) ?_
        refine t_get (C := RX1) (T := TX1) (N := 20) X hT m0 g0 rfl rfl 3 (by decide) qw_417 inlX1 rfl dX6_isLeftTo_24 (fun v10318 hv10318 ov10318 => ?_)
        obtain ⟨z10319, rfl, rz10319⟩ := okV_i ov10318
        refine lv_if_eq (tgt := 50) hx hb dX6_isLeftTo_27 (by decide) (fun c10320 => ?_) (fun c10320 => ?_)
        · have w10321 := cv_eq (rfl : z10319.toInt = z10319.toInt) (by decide : (0 : Int32).toInt = 0) c10320
          refine lv_iload hx hb dX6_isLeftTo_50 (lv_at hl 0 rfl) ?_
          refine lv_aload_n hx hb dX6_isLeftTo_52 rfl (lv_at hl 2 rfl) ?_
          refine t_get (C := RX7) (T := TX7) (N := 7) X hT m1 g1 rfl rfl 2 (by decide) qw_383 inlX7 rfl dX6_isLeftTo_53 (fun v10322 hv10322 ov10322 => ?_)
          obtain ⟨b10323, rfl, mb10323, gb10323⟩ := okV_r ov10322
          have gb10323 : tag b10323 = 8 := tg_of gb10323
          refine lv_iload hx hb dX6_isLeftTo_56 (lv_at hl 6 rfl) ?_
          refine t_ild X hT mb10323 gb10323 rfl (by omega) dX6_isLeftTo_58 (fun z10324 vz10324 rz10324 => ?_)
          have rz10324 : 0 ≤ z10324.toInt ∧ z10324.toInt ≤ 6 := rz10324
          refine lv_icmp_gt (tgt := 66) hx hb dX6_isLeftTo_59 (by decide) (fun c10325 => ?_) (fun c10325 => ?_)
          · have w10326 := cv_lt (rfl : z10324.toInt = z10324.toInt) (rfl : z10317.toInt = z10317.toInt) c10325
            refine lv_iconst (v := 0) hx hb dX6_isLeftTo_66 (by decide) ?_
            exact K67 z10317 0 z10313 z10319 _ _ _ (by decide) (by omega) (by omega) (by omega) hT hv10312 hv10318 (lv_sub hl [1, 2, 3, 4, 5, 6, 0] rfl)
          · have w10327 := cv_nlt (rfl : z10324.toInt = z10324.toInt) (rfl : z10317.toInt = z10317.toInt) c10325
            refine lv_iconst (v := 1) hx hb dX6_isLeftTo_62 (by decide) ?_
            refine lv_goto (tgt := 67) hx hb dX6_isLeftTo_63 (by decide) ?_
            exact K67 z10317 1 z10313 z10319 _ _ _ (by decide) (by omega) (by omega) (by omega) hT hv10312 hv10318 (lv_sub hl [1, 2, 3, 4, 5, 6, 0] rfl)
        · have w10328 := cv_ne (rfl : z10319.toInt = z10319.toInt) (by decide : (0 : Int32).toInt = 0) c10320
          refine lv_iload hx hb dX6_isLeftTo_30 (lv_at hl 0 rfl) ?_
          refine lv_aload_n hx hb dX6_isLeftTo_32 rfl (lv_at hl 2 rfl) ?_
          refine t_get (C := RX7) (T := TX7) (N := 7) X hT m1 g1 rfl rfl 2 (by decide) qw_383 inlX7 rfl dX6_isLeftTo_33 (fun v10329 hv10329 ov10329 => ?_)
          obtain ⟨b10330, rfl, mb10330, gb10330⟩ := okV_r ov10329
          have gb10330 : tag b10330 = 8 := tg_of gb10330
          refine lv_iload hx hb dX6_isLeftTo_36 (lv_at hl 6 rfl) ?_
          refine t_ild X hT mb10330 gb10330 rfl (by omega) dX6_isLeftTo_38 (fun z10331 vz10331 rz10331 => ?_)
          have rz10331 : 0 ≤ z10331.toInt ∧ z10331.toInt ≤ 6 := rz10331
          refine lv_icmp_ge (tgt := 46) hx hb dX6_isLeftTo_39 (by decide) (fun c10332 => ?_) (fun c10332 => ?_)
          · have w10333 := cv_le (rfl : z10331.toInt = z10331.toInt) (rfl : z10317.toInt = z10317.toInt) c10332
            refine lv_iconst (v := 0) hx hb dX6_isLeftTo_46 (by decide) ?_
            refine lv_goto (tgt := 67) hx hb dX6_isLeftTo_47 (by decide) ?_
            exact K67 z10317 0 z10313 z10319 _ _ _ (by decide) (by omega) (by omega) (by omega) hT hv10312 hv10318 (lv_sub hl [1, 2, 3, 4, 5, 6, 0] rfl)
          · have w10334 := cv_nle (rfl : z10331.toInt = z10331.toInt) (rfl : z10317.toInt = z10317.toInt) c10332
            refine lv_iconst (v := 1) hx hb dX6_isLeftTo_42 (by decide) ?_
            refine lv_goto (tgt := 67) hx hb dX6_isLeftTo_43 (by decide) ?_
            exact K67 z10317 1 z10313 z10319 _ _ _ (by decide) (by omega) (by omega) (by omega) hT hv10312 hv10318 (lv_sub hl [1, 2, 3, 4, 5, 6, 0] rfl)
  refine lv_iconst (v := 0) hx hb dX6_isLeftTo_0 (by decide) ?_
  refine lv_istore (lv' := [(5, .int 0), (0, .ref p0), (1, .ref p1), (2, .int p2), (3, .int p3), (4, .int p4)]) hx hb dX6_isLeftTo_1 hl (by decide) rfl (fun ls hl => ?_)
  have kk10335 : (0 : Int32).toInt = 0 := by decide
  exact K3 5 0 _ _ _ (by omega) (by decide) hT  (lv_sub hl [1, 2, 3, 4, 5, 0] rfl)
set_option maxHeartbeats 4000000 in
set_option maxRecDepth 100000 in
theorem kt46_X6_isFit (l : Launch) (G : KG) (tag : Nat → Nat) (L : List Nat) (F : Nat → va_E) (ho : okT G ttC tag L F) (p0 : Nat) (p1 : Nat) (p2 : Int32) (m0 : p0 ∈ L) (g0 : tag p0 = 18) (m1 : p1 ∈ L) (g1 : tag p1 = 19) (h2 : 0 ≤ p2.toInt ∧ p2.toInt ≤ 3) : TMi l yX6_isFit cX6_isFit 9 (some .boolean) { frames := 2, cells := 0, slots := 0, locals := 52 } G ttC tag L F [.ref p0, .ref p1, .int p2] (fun r F1 => F1 = F ∧ (0 ≤ r.toInt ∧ r.toInt ≤ 1)) := by
  refine t_bodyi (y := yX6_isFit) (cd := cX6_isFit) (mL := 9) (rt := (some .boolean)) (rm := { frames := 2, cells := 0, slots := 0, locals := 52 }) (av := [.ref p0, .ref p1, .int p2]) (by decide) (Nat.le_of_ble_eq_true rfl) ho ?_
  intro p e s m args below meth c ls A Q hQ X hT hl
  have hx := X.1.1
  have hb := X.1.2.1
  have hl : lv_has ls 9 [(0, .ref p0), (1, .ref p1), (2, .int p2)] := hl
  have K66 : ∀ (n : Nat) (z11047 : Int32) (z11048 : Int32) (z11049 : Int32) (z11050 : Int32) (H : Heap) (locs : List Loc) (ls : Array Slot), (48 - z11050.toInt < (n : Int)) → (1 ≤ z11047.toInt ∧ z11047.toInt ≤ 6) → (0 ≤ z11048.toInt ∧ z11048.toInt ≤ 11) → (0 ≤ z11049.toInt ∧ z11049.toInt ≤ 11) → (0 ≤ z11050.toInt ∧ z11050.toInt ≤ 48) → TH G ttC A s tag L F H locs → lv_has ls 9 [(0, .ref p0), (1, .ref p1), (2, .int p2), (3, .int z11047), (4, .int z11048), (5, .int z11049), (6, .int z11050)] → W p l e { frames := 2, cells := 0, slots := 0, locals := 52 } s m args below meth c H locs 0 0 Q (F0 m 66 ls []) := by
    intro n
    induction n with
    | zero =>
      intro z11047 z11048 z11049 z11050 H locs ls hn rz11047 rz11048 rz11049 rz11050 hT hl
      exfalso
      omega
    | succ n ih66 =>
      intro z11047 z11048 z11049 z11050 H locs ls hn rz11047 rz11048 rz11049 rz11050 hT hl
      refine lv_iload hx hb dX6_isFit_66 (lv_at hl 6 rfl) ?_
      refine lv_bipush (v := 8) hx hb dX6_isFit_68 (by decide) ?_
      refine lv_iload_n hx hb dX6_isFit_70 rfl (lv_at hl 3 rfl) ?_
      refine lv_imul hx hb dX6_isFit_71 ?_
      refine lv_topi (fun z11051 ez11051 => ?_)
      have hz11051 : z11051.toInt = 8 * z11047.toInt := ar_mul ez11051 (by decide : (8 : Int32).toInt = 8) (rfl : z11047.toInt = z11047.toInt) (by omega) (by omega)
      have rz11051 : 8 ≤ z11051.toInt ∧ z11051.toInt ≤ 48 := by omega
      refine lv_icmp_ge (tgt := 129) hx hb dX6_isFit_72 (by decide) (fun c11052 => ?_) (fun c11052 => ?_)
      · have w11053 := cv_le (rfl : z11051.toInt = z11051.toInt) (rfl : z11050.toInt = z11050.toInt) c11052
        refine lv_iconst (v := 1) hx hb dX6_isFit_129 (by decide) ?_
        exact t_zret hQ X hT (by decide) (⟨rfl, (by decide)⟩) (Nat.le_of_ble_eq_true rfl) (Nat.le_of_ble_eq_true rfl) dX6_isFit_130
      · have w11054 := cv_nle (rfl : z11051.toInt = z11051.toInt) (rfl : z11050.toInt = z11050.toInt) c11052
        refine lv_iload hx hb dX6_isFit_75 (lv_at hl 4 rfl) ?_
        refine lv_iload_n hx hb dX6_isFit_77 rfl (lv_at hl 3 rfl) ?_
        refine lv_iload hx hb dX6_isFit_78 (lv_at hl 6 rfl) ?_
        refine t_cSi (n := 2) (As := [.int z11047, .int z11050]) (rest := [.int z11048]) X hT (kt43_X4_eastOf l G tag L F hT.2.2.2 z11047 z11050 ) qw_407 qw_408 qw_409 qw_410 ⟨by decide +kernel, by decide +kernel, by decide +kernel⟩ ⟨Nat.le_of_ble_eq_true rfl, Nat.le_of_ble_eq_true rfl⟩ hl rfl rfl (Nat.le_of_ble_eq_true rfl) dX6_isFit_80 ⟨Nat.le_of_ble_eq_true rfl, Nat.le_of_ble_eq_true rfl⟩ (fun z11055 F9 H locs hT hz11055 => ?_)
        obtain ⟨fz11055, hz11055⟩ := hz11055
        rw [fz11055] at hT
        refine lv_iadd hx hb dX6_isFit_83 ?_
        refine lv_topi (fun z11056 ez11056 => ?_)
        have rz11056 := rg_all z11056
        refine lv_istore (lv' := [(7, .int z11056), (0, .ref p0), (1, .ref p1), (2, .int p2), (3, .int z11047), (4, .int z11048), (5, .int z11049), (6, .int z11050)]) hx hb dX6_isFit_84 hl (by decide) rfl (fun ls hl => ?_)
        refine lv_iload hx hb dX6_isFit_86 (lv_at hl 6 rfl) ?_
        refine lv_iload_n hx hb dX6_isFit_88 rfl (lv_at hl 4 rfl) ?_
        refine lv_iload hx hb dX6_isFit_89 (lv_at hl 7 rfl) ?_
        refine t_cSi (n := 2) (As := [.int z11047, .int z11050]) (rest := [.int z11049]) X hT (kt44_X4_southOf l G tag L F hT.2.2.2 z11047 z11050 ) qw_411 qw_412 qw_409 qw_413 ⟨by decide +kernel, by decide +kernel, by decide +kernel⟩ ⟨Nat.le_of_ble_eq_true rfl, Nat.le_of_ble_eq_true rfl⟩ hl rfl rfl (Nat.le_of_ble_eq_true rfl) dX6_isFit_91 ⟨Nat.le_of_ble_eq_true rfl, Nat.le_of_ble_eq_true rfl⟩ (fun z11057 F9 H locs hT hz11057 => ?_)
        obtain ⟨fz11057, hz11057⟩ := hz11057
        rw [fz11057] at hT
        refine lv_iadd hx hb dX6_isFit_94 ?_
        refine lv_topi (fun z11058 ez11058 => ?_)
        have rz11058 := rg_all z11058
        refine lv_istore (lv' := [(8, .int z11058), (7, .int z11056), (0, .ref p0), (1, .ref p1), (2, .int p2), (3, .int z11047), (4, .int z11048), (5, .int z11049), (6, .int z11050)]) hx hb dX6_isFit_95 hl (by decide) rfl (fun ls hl => ?_)
        refine lv_aload_n hx hb dX6_isFit_97 rfl (lv_at hl 2 rfl) ?_
        refine lv_iload hx hb dX6_isFit_98 (lv_at hl 1 rfl) ?_
        refine lv_iload hx hb dX6_isFit_100 (lv_at hl 0 rfl) ?_
        refine t_cVi (n := 2) (C := RX1) (T := TX1) (N := 20) (As := [.int z11056, .int z11058]) (rest := []) X hT (kt40_X1_isWet l G tag L F hT.2.2.2 p0 z11056 z11058 m0 g0) m0 g0 rfl rfl qw_388 qw_345 qw_346 qw_17 qw_347 ⟨rfl, by decide +kernel, by decide +kernel, by decide +kernel⟩ ⟨Nat.le_of_ble_eq_true rfl, Nat.le_of_ble_eq_true rfl⟩ hl rfl rfl (Nat.le_of_ble_eq_true rfl) dX6_isFit_102 ⟨Nat.le_of_ble_eq_true rfl, Nat.le_of_ble_eq_true rfl⟩ (fun z11059 F9 H locs hT hz11059 => ?_)
        obtain ⟨fz11059, hz11059⟩ := hz11059
        rw [fz11059] at hT
        refine lv_if_ne (tgt := 121) hx hb dX6_isFit_105 (by decide) (fun c11060 => ?_) (fun c11060 => ?_)
        · have w11061 := cv_ne (rfl : z11059.toInt = z11059.toInt) (by decide : (0 : Int32).toInt = 0) c11060
          refine lv_iconst (v := 0) hx hb dX6_isFit_121 (by decide) ?_
          exact t_zret hQ X hT (by decide) (⟨rfl, (by decide)⟩) (Nat.le_of_ble_eq_true rfl) (Nat.le_of_ble_eq_true rfl) dX6_isFit_122
        · have w11062 := cv_eq (rfl : z11059.toInt = z11059.toInt) (by decide : (0 : Int32).toInt = 0) c11060
          refine lv_aload_n hx hb dX6_isFit_108 rfl (lv_at hl 2 rfl) ?_
          refine lv_aload_n hx hb dX6_isFit_109 rfl (lv_at hl 3 rfl) ?_
          refine lv_iload_n hx hb dX6_isFit_110 rfl (lv_at hl 4 rfl) ?_
          refine lv_iload hx hb dX6_isFit_111 (lv_at hl 1 rfl) ?_
          refine lv_iload hx hb dX6_isFit_113 (lv_at hl 0 rfl) ?_
          refine t_cSi (n := 5) (As := [.ref p0, .ref p1, .int p2, .int z11056, .int z11058]) (rest := []) X hT (kt45_X6_isLeftTo l G tag L F hT.2.2.2 p0 p1 p2 z11056 z11058 m0 g0 m1 g1) qw_414 qw_415 qw_380 qw_416 ⟨by decide +kernel, by decide +kernel, by decide +kernel⟩ ⟨Nat.le_of_ble_eq_true rfl, Nat.le_of_ble_eq_true rfl⟩ hl rfl rfl (Nat.le_of_ble_eq_true rfl) dX6_isFit_115 ⟨Nat.le_of_ble_eq_true rfl, Nat.le_of_ble_eq_true rfl⟩ (fun z11063 F9 H locs hT hz11063 => ?_)
          obtain ⟨fz11063, hz11063⟩ := hz11063
          rw [fz11063] at hT
          refine lv_if_ne (tgt := 123) hx hb dX6_isFit_118 (by decide) (fun c11064 => ?_) (fun c11064 => ?_)
          · have w11065 := cv_ne (rfl : z11063.toInt = z11063.toInt) (by decide : (0 : Int32).toInt = 0) c11064
            obtain ⟨z11066, ez11066⟩ : ∃ y : Int32, y = z11050 + 1 := ⟨_, rfl⟩
            have hz11066 : z11066.toInt = z11050.toInt + 1 := ar_add ez11066 rfl (by decide : (1 : Int32).toInt = 1) (by omega) (by omega)
            refine lv_iinc (v := z11066) (lv' := [(6, .int z11066), (8, .int z11058), (7, .int z11056), (0, .ref p0), (1, .ref p1), (2, .int p2), (3, .int z11047), (4, .int z11048), (5, .int z11049)]) hx hb dX6_isFit_123 hl (k := 8) rfl (by rw [ez11066]; rfl) (by decide) rfl (fun ls hl => ?_)
            refine lv_goto (tgt := 66) hx hb dX6_isFit_126 (by decide) ?_
            exact ih66 z11047 z11048 z11049 z11066 _ _ _ (by omega) (by omega) (by omega) (by omega) (by omega) hT  (lv_sub hl [3, 4, 5, 6, 7, 8, 0] rfl)
          · have w11067 := cv_eq (rfl : z11063.toInt = z11063.toInt) (by decide : (0 : Int32).toInt = 0) c11064
            refine lv_iconst (v := 0) hx hb dX6_isFit_121 (by decide) ?_
            exact t_zret hQ X hT (by decide) (⟨rfl, (by decide)⟩) (Nat.le_of_ble_eq_true rfl) (Nat.le_of_ble_eq_true rfl) dX6_isFit_122
  refine lv_aload_n hx hb dX6_isFit_0 rfl (lv_at hl 1 rfl) ?_
  refine t_get (C := RX7) (T := TX7) (N := 7) X hT m1 g1 rfl rfl 2 (by decide) qw_383 inlX7 rfl dX6_isFit_1 (fun v11068 hv11068 ov11068 => ?_)
  obtain ⟨b11069, rfl, mb11069, gb11069⟩ := okV_r ov11068
  have gb11069 : tag b11069 = 8 := tg_of gb11069
  refine lv_iload_n hx hb dX6_isFit_4 rfl (lv_at hl 2 rfl) ?_
  refine t_ild X hT mb11069 gb11069 rfl (by omega) dX6_isFit_5 (fun z11070 vz11070 rz11070 => ?_)
  have rz11070 : 0 ≤ z11070.toInt ∧ z11070.toInt ≤ 6 := rz11070
  refine lv_iconst (v := 1) hx hb dX6_isFit_6 (by decide) ?_
  refine lv_iadd hx hb dX6_isFit_7 ?_
  refine lv_topi (fun z11071 ez11071 => ?_)
  have hz11071 : z11071.toInt = z11070.toInt + 1 := ar_add ez11071 (rfl : z11070.toInt = z11070.toInt) (by decide : (1 : Int32).toInt = 1) (by omega) (by omega)
  have rz11071 : 1 ≤ z11071.toInt ∧ z11071.toInt ≤ 7 := by omega
  refine lv_istore_n (lv' := [(3, .int z11071), (0, .ref p0), (1, .ref p1), (2, .int p2)]) hx hb dX6_isFit_8 rfl hl (by decide) rfl (fun ls hl => ?_)
  refine lv_aload_n hx hb dX6_isFit_9 rfl (lv_at hl 1 rfl) ?_
  refine t_get (C := RX1) (T := TX1) (N := 20) X hT m0 g0 rfl rfl 11 (by decide) qw_405 inlX1 rfl dX6_isFit_10 (fun v11072 hv11072 ov11072 => ?_)
  obtain ⟨b11073, rfl, mb11073, gb11073⟩ := okV_r ov11072
  have gb11073 : tag b11073 = 4 := tg_of gb11073
  refine lv_iload_n hx hb dX6_isFit_13 rfl (lv_at hl 3 rfl) ?_
  refine t_ild X hT mb11073 gb11073 rfl (by omega) dX6_isFit_14 (fun z11074 vz11074 rz11074 => ?_)
  have rz11074 : 0 ≤ z11074.toInt ∧ z11074.toInt ≤ 11 := rz11074
  refine lv_istore (lv' := [(4, .int z11074), (3, .int z11071), (0, .ref p0), (1, .ref p1), (2, .int p2)]) hx hb dX6_isFit_15 hl (by decide) rfl (fun ls hl => ?_)
  refine lv_aload_n hx hb dX6_isFit_17 rfl (lv_at hl 2 rfl) ?_
  refine t_get (C := RX1) (T := TX1) (N := 20) X hT m0 g0 rfl rfl 12 (by decide) qw_406 inlX1 rfl dX6_isFit_18 (fun v11075 hv11075 ov11075 => ?_)
  obtain ⟨b11076, rfl, mb11076, gb11076⟩ := okV_r ov11075
  have gb11076 : tag b11076 = 4 := tg_of gb11076
  refine lv_iload_n hx hb dX6_isFit_21 rfl (lv_at hl 4 rfl) ?_
  refine t_ild X hT mb11076 gb11076 rfl (by omega) dX6_isFit_22 (fun z11077 vz11077 rz11077 => ?_)
  have rz11077 : 0 ≤ z11077.toInt ∧ z11077.toInt ≤ 11 := rz11077
  refine lv_istore (lv' := [(5, .int z11077), (4, .int z11074), (3, .int z11071), (0, .ref p0), (1, .ref p1), (2, .int p2)]) hx hb dX6_isFit_23 hl (by decide) rfl (fun ls hl => ?_)
  refine lv_iload_n hx hb dX6_isFit_25 rfl (lv_at hl 2 rfl) ?_
  refine lv_bipush (v := 6) hx hb dX6_isFit_26 (by decide) ?_
  refine lv_icmp_gt (tgt := 61) hx hb dX6_isFit_28 (by decide) (fun c11078 => ?_) (fun c11078 => ?_)
  · have w11079 := cv_lt (by decide : (6 : Int32).toInt = 6) (rfl : z11071.toInt = z11071.toInt) c11078
    refine lv_iconst (v := 0) hx hb dX6_isFit_61 (by decide) ?_
    exact t_zret hQ X hT (by decide) (⟨rfl, (by decide)⟩) (Nat.le_of_ble_eq_true rfl) (Nat.le_of_ble_eq_true rfl) dX6_isFit_62
  · have w11080 := cv_nlt (by decide : (6 : Int32).toInt = 6) (rfl : z11071.toInt = z11071.toInt) c11078
    refine lv_aload_n hx hb dX6_isFit_31 rfl (lv_at hl 3 rfl) ?_
    refine lv_iload hx hb dX6_isFit_32 (lv_at hl 1 rfl) ?_
    refine lv_iload_n hx hb dX6_isFit_34 rfl (lv_at hl 2 rfl) ?_
    refine lv_isub hx hb dX6_isFit_35 ?_
    refine lv_topi (fun z11081 ez11081 => ?_)
    have hz11081 : z11081.toInt = z11074.toInt - z11071.toInt := ar_sub ez11081 (rfl : z11074.toInt = z11074.toInt) (rfl : z11071.toInt = z11071.toInt) (by omega) (by omega)
    have rz11081 : (-6) ≤ z11081.toInt ∧ z11081.toInt ≤ 10 := by omega
    refine lv_iload hx hb dX6_isFit_36 (lv_at hl 0 rfl) ?_
    refine lv_iload_n hx hb dX6_isFit_38 rfl (lv_at hl 2 rfl) ?_
    refine lv_isub hx hb dX6_isFit_39 ?_
    refine lv_topi (fun z11082 ez11082 => ?_)
    have hz11082 : z11082.toInt = z11077.toInt - z11071.toInt := ar_sub ez11082 (rfl : z11077.toInt = z11077.toInt) (rfl : z11071.toInt = z11071.toInt) (by omega) (by omega)
    have rz11082 : (-6) ≤ z11082.toInt ∧ z11082.toInt ≤ 10 := by omega
    refine t_cVi (n := 2) (C := RX1) (T := TX1) (N := 20) (As := [.int z11081, .int z11082]) (rest := []) X hT (kt39_X1_isOn l G tag L F hT.2.2.2 p0 z11081 z11082 m0 g0) m0 g0 rfl rfl qw_384 qw_385 qw_386 qw_17 qw_387 ⟨rfl, by decide +kernel, by decide +kernel, by decide +kernel⟩ ⟨Nat.le_of_ble_eq_true rfl, Nat.le_of_ble_eq_true rfl⟩ hl rfl rfl (Nat.le_of_ble_eq_true rfl) dX6_isFit_40 ⟨Nat.le_of_ble_eq_true rfl, Nat.le_of_ble_eq_true rfl⟩ (fun z11083 F9 H locs hT hz11083 => ?_)
    obtain ⟨fz11083, hz11083⟩ := hz11083
    rw [fz11083] at hT
    refine lv_if_eq (tgt := 61) hx hb dX6_isFit_43 (by decide) (fun c11084 => ?_) (fun c11084 => ?_)
    · have w11085 := cv_eq (rfl : z11083.toInt = z11083.toInt) (by decide : (0 : Int32).toInt = 0) c11084
      refine lv_iconst (v := 0) hx hb dX6_isFit_61 (by decide) ?_
      exact t_zret hQ X hT (by decide) (⟨rfl, (by decide)⟩) (Nat.le_of_ble_eq_true rfl) (Nat.le_of_ble_eq_true rfl) dX6_isFit_62
    · have w11086 := cv_ne (rfl : z11083.toInt = z11083.toInt) (by decide : (0 : Int32).toInt = 0) c11084
      refine lv_aload_n hx hb dX6_isFit_46 rfl (lv_at hl 3 rfl) ?_
      refine lv_iload hx hb dX6_isFit_47 (lv_at hl 1 rfl) ?_
      refine lv_iload_n hx hb dX6_isFit_49 rfl (lv_at hl 2 rfl) ?_
      refine lv_iadd hx hb dX6_isFit_50 ?_
      refine lv_topi (fun z11087 ez11087 => ?_)
      have hz11087 : z11087.toInt = z11074.toInt + z11071.toInt := ar_add ez11087 (rfl : z11074.toInt = z11074.toInt) (rfl : z11071.toInt = z11071.toInt) (by omega) (by omega)
      have rz11087 : 1 ≤ z11087.toInt ∧ z11087.toInt ≤ 17 := by omega
      refine lv_iload hx hb dX6_isFit_51 (lv_at hl 0 rfl) ?_
      refine lv_iload_n hx hb dX6_isFit_53 rfl (lv_at hl 2 rfl) ?_
      refine lv_iadd hx hb dX6_isFit_54 ?_
      refine lv_topi (fun z11088 ez11088 => ?_)
      have hz11088 : z11088.toInt = z11077.toInt + z11071.toInt := ar_add ez11088 (rfl : z11077.toInt = z11077.toInt) (rfl : z11071.toInt = z11071.toInt) (by omega) (by omega)
      have rz11088 : 1 ≤ z11088.toInt ∧ z11088.toInt ≤ 17 := by omega
      refine t_cVi (n := 2) (C := RX1) (T := TX1) (N := 20) (As := [.int z11087, .int z11088]) (rest := []) X hT (kt39_X1_isOn l G tag L F hT.2.2.2 p0 z11087 z11088 m0 g0) m0 g0 rfl rfl qw_384 qw_385 qw_386 qw_17 qw_387 ⟨rfl, by decide +kernel, by decide +kernel, by decide +kernel⟩ ⟨Nat.le_of_ble_eq_true rfl, Nat.le_of_ble_eq_true rfl⟩ hl rfl rfl (Nat.le_of_ble_eq_true rfl) dX6_isFit_55 ⟨Nat.le_of_ble_eq_true rfl, Nat.le_of_ble_eq_true rfl⟩ (fun z11089 F9 H locs hT hz11089 => ?_)
      obtain ⟨fz11089, hz11089⟩ := hz11089
      rw [fz11089] at hT
      refine lv_if_ne (tgt := 63) hx hb dX6_isFit_58 (by decide) (fun c11090 => ?_) (fun c11090 => ?_)
      · have w11091 := cv_ne (rfl : z11089.toInt = z11089.toInt) (by decide : (0 : Int32).toInt = 0) c11090
        refine lv_iconst (v := 0) hx hb dX6_isFit_63 (by decide) ?_
        refine lv_istore (lv' := [(6, .int 0), (5, .int z11077), (4, .int z11074), (3, .int z11071), (0, .ref p0), (1, .ref p1), (2, .int p2)]) hx hb dX6_isFit_64 hl (by decide) rfl (fun ls hl => ?_)
        have kk11092 : (0 : Int32).toInt = 0 := by decide
        exact K66 49 z11071 z11074 z11077 0 _ _ _ (by omega) (by omega) (by omega) (by omega) (by decide) hT  (lv_sub hl [4, 5, 6, 3, 2, 1, 0] rfl)
      · have w11093 := cv_eq (rfl : z11089.toInt = z11089.toInt) (by decide : (0 : Int32).toInt = 0) c11090
        refine lv_iconst (v := 0) hx hb dX6_isFit_61 (by decide) ?_
        exact t_zret hQ X hT (by decide) (⟨rfl, (by decide)⟩) (Nat.le_of_ble_eq_true rfl) (Nat.le_of_ble_eq_true rfl) dX6_isFit_62
