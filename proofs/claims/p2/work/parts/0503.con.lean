set_option maxHeartbeats 4000000 in
set_option maxRecDepth 100000 in
theorem kt40_X1_isWet (l : Launch) (G : KG) (tag : Nat → Nat) (L : List Nat) (F : Nat → va_E) (ho : okT G ttC tag L F) (p0 : Nat) (p1 : Int32) (p2 : Int32) (m0 : p0 ∈ L) (g0 : tag p0 = 18) : TMi l yX1_isWet cX1_isWet 4 (some .boolean) { frames := 0, cells := 0, slots := 0, locals := 0 } G ttC tag L F [.ref p0, .int p1, .int p2] (fun r F1 => F1 = F ∧ (0 ≤ r.toInt ∧ r.toInt ≤ 1)) := by
  refine t_bodyi (y := yX1_isWet) (cd := cX1_isWet) (mL := 4) (rt := (some .boolean)) (rm := { frames := 0, cells := 0, slots := 0, locals := 0 }) (av := [.ref p0, .int p1, .int p2]) (by decide) (Nat.le_of_ble_eq_true rfl) ho ?_
  intro p e s m args below meth c ls A Q hQ X hT hl
  have hx := X.1.1
  have hb := X.1.2.1
  have hl : lv_has ls 4 [(0, .ref p0), (1, .int p1), (2, .int p2)] := hl
  refine lv_iload_n hx hb dX1_isWet_0 rfl (lv_at hl 2 rfl) ?_
  refine lv_aload_n hx hb dX1_isWet_1 rfl (lv_at hl 0 rfl) ?_
  refine t_get (C := RX1) (T := TX1) (N := 20) X hT m0 g0 rfl rfl 0 (by decide) qw_177 inlX1 rfl dX1_isWet_2 (fun v4098 hv4098 ov4098 => ?_)
  obtain ⟨z4099, rfl, rz4099⟩ := okV_i ov4098
  refine lv_imul hx hb dX1_isWet_5 ?_
  refine lv_topi (fun z4100 ez4100 => ?_)
  have rz4100 := rg_all z4100
  refine lv_iload_n hx hb dX1_isWet_6 rfl (lv_at hl 1 rfl) ?_
  refine lv_iadd hx hb dX1_isWet_7 ?_
  refine lv_topi (fun z4101 ez4101 => ?_)
  have rz4101 := rg_all z4101
  refine lv_istore_n (lv' := [(3, .int z4101), (0, .ref p0), (1, .int p1), (2, .int p2)]) hx hb dX1_isWet_8 rfl hl (by decide) rfl (fun ls hl => ?_)
  refine lv_iload_n hx hb dX1_isWet_9 rfl (lv_at hl 0 rfl) ?_
  refine lv_if_lt (tgt := 35) hx hb dX1_isWet_10 (by decide) (fun c4102 => ?_) (fun c4102 => ?_)
  · have w4103 := cv_lt (rfl : z4101.toInt = z4101.toInt) (by decide : (0 : Int32).toInt = 0) c4102
    refine lv_iconst (v := 0) hx hb dX1_isWet_35 (by decide) ?_
    exact t_zret hQ X hT (by decide) (⟨rfl, (by decide)⟩) (Nat.le_of_ble_eq_true rfl) (Nat.le_of_ble_eq_true rfl) dX1_isWet_36
  · have w4104 := cv_nlt (rfl : z4101.toInt = z4101.toInt) (by decide : (0 : Int32).toInt = 0) c4102
    refine lv_iload_n hx hb dX1_isWet_13 rfl (lv_at hl 0 rfl) ?_
    refine lv_aload_n hx hb dX1_isWet_14 rfl (lv_at hl 1 rfl) ?_
    refine t_get (C := RX1) (T := TX1) (N := 20) X hT m0 g0 rfl rfl 7 (by decide) qw_50 inlX1 rfl dX1_isWet_15 (fun v4105 hv4105 ov4105 => ?_)
    obtain ⟨b4106, rfl, mb4106, gb4106⟩ := okV_r ov4105
    have gb4106 : tag b4106 = 2 := by simpa using gb4106
    refine t_alen X hT mb4106 gb4106 rfl (by decide) dX1_isWet_18 ?_
    refine lv_topi (fun z4107 ez4107 => ?_)
    obtain rfl : z4107 = 144 := ez4107.trans (by rfl)
    refine lv_icmp_ge (tgt := 35) hx hb dX1_isWet_19 (by decide) (fun c4108 => ?_) (fun c4108 => ?_)
    · have w4109 := cv_le (by decide : (144 : Int32).toInt = 144) (rfl : z4101.toInt = z4101.toInt) c4108
      refine lv_iconst (v := 0) hx hb dX1_isWet_35 (by decide) ?_
      exact t_zret hQ X hT (by decide) (⟨rfl, (by decide)⟩) (Nat.le_of_ble_eq_true rfl) (Nat.le_of_ble_eq_true rfl) dX1_isWet_36
    · have w4110 := cv_nle (by decide : (144 : Int32).toInt = 144) (rfl : z4101.toInt = z4101.toInt) c4108
      refine lv_aload_n hx hb dX1_isWet_22 rfl (lv_at hl 1 rfl) ?_
      refine t_get (C := RX1) (T := TX1) (N := 20) X hT m0 g0 rfl rfl 7 (by decide) qw_50 inlX1 rfl dX1_isWet_23 (fun v4111 hv4111 ov4111 => ?_)
      obtain rfl : v4111 = .ref b4106 := hv4111.symm.trans hv4105
      refine lv_iload_n hx hb dX1_isWet_26 rfl (lv_at hl 0 rfl) ?_
      refine t_zld X hT mb4106 gb4106 rfl (by omega) dX1_isWet_27 (fun z4112 vz4112 rz4112 => ?_)
      have rz4112 : 0 ≤ z4112.toInt ∧ z4112.toInt ≤ 1 := rz4112
      refine lv_if_eq (tgt := 35) hx hb dX1_isWet_28 (by decide) (fun c4113 => ?_) (fun c4113 => ?_)
      · have w4114 := cv_eq (rfl : z4112.toInt = z4112.toInt) (by decide : (0 : Int32).toInt = 0) c4113
        refine lv_iconst (v := 0) hx hb dX1_isWet_35 (by decide) ?_
        exact t_zret hQ X hT (by decide) (⟨rfl, (by decide)⟩) (Nat.le_of_ble_eq_true rfl) (Nat.le_of_ble_eq_true rfl) dX1_isWet_36
      · have w4115 := cv_ne (rfl : z4112.toInt = z4112.toInt) (by decide : (0 : Int32).toInt = 0) c4113
        refine lv_iconst (v := 1) hx hb dX1_isWet_31 (by decide) ?_
        refine lv_goto (tgt := 36) hx hb dX1_isWet_32 (by decide) ?_
        exact t_zret hQ X hT (by decide) (⟨rfl, (by decide)⟩) (Nat.le_of_ble_eq_true rfl) (Nat.le_of_ble_eq_true rfl) dX1_isWet_36
set_option maxHeartbeats 4000000 in
set_option maxRecDepth 100000 in
theorem kt41_X6_isFree (l : Launch) (G : KG) (tag : Nat → Nat) (L : List Nat) (F : Nat → va_E) (ho : okT G ttC tag L F) (p0 : Nat) (p1 : Nat) (p2 : Int32) (p3 : Int32) (m0 : p0 ∈ L) (g0 : tag p0 = 18) (m1 : p1 ∈ L) (g1 : tag p1 = 19) : TMi l yX6_isFree cX6_isFree 5 (some .boolean) { frames := 1, cells := 0, slots := 0, locals := 25 } G ttC tag L F [.ref p0, .ref p1, .int p2, .int p3] (fun r F1 => F1 = F ∧ (0 ≤ r.toInt ∧ r.toInt ≤ 1)) := by
  refine t_bodyi (y := yX6_isFree) (cd := cX6_isFree) (mL := 5) (rt := (some .boolean)) (rm := { frames := 1, cells := 0, slots := 0, locals := 25 }) (av := [.ref p0, .ref p1, .int p2, .int p3]) (by decide) (Nat.le_of_ble_eq_true rfl) ho ?_
  intro p e s m args below meth c ls A Q hQ X hT hl
  have hx := X.1.1
  have hb := X.1.2.1
  have hl : lv_has ls 5 [(0, .ref p0), (1, .ref p1), (2, .int p2), (3, .int p3)] := hl
  have K23 : ∀ (n : Nat) (z4264 : Int32) (H : Heap) (locs : List Loc) (ls : Array Slot), (4 - z4264.toInt < (n : Int)) → (0 ≤ z4264.toInt ∧ z4264.toInt ≤ 4) → TH G ttC A s tag L F H locs → lv_has ls 5 [(0, .ref p0), (1, .ref p1), (2, .int p2), (3, .int p3), (4, .int z4264)] → W p l e { frames := 1, cells := 0, slots := 0, locals := 25 } s m args below meth c H locs 0 0 Q (F0 m 23 ls []) := by
    intro n
    induction n with
    | zero =>
      intro z4264 H locs ls hn rz4264 hT hl
      exfalso
      omega
    | succ n ih23 =>
      intro z4264 H locs ls hn rz4264 hT hl
      refine lv_iload hx hb dX6_isFree_23 (lv_at hl 4 rfl) ?_
      refine lv_aload_n hx hb dX6_isFree_25 rfl (lv_at hl 0 rfl) ?_
      refine t_get (C := RX1) (T := TX1) (N := 20) X hT m0 g0 rfl rfl 10 (by decide) qw_382 inlX1 rfl dX6_isFree_26 (fun v4265 hv4265 ov4265 => ?_)
      obtain ⟨z4266, rfl, rz4266⟩ := okV_i ov4265
      refine lv_icmp_ge (tgt := 58) hx hb dX6_isFree_29 (by decide) (fun c4267 => ?_) (fun c4267 => ?_)
      · have w4268 := cv_le (rfl : z4266.toInt = z4266.toInt) (rfl : z4264.toInt = z4264.toInt) c4267
        refine lv_iconst (v := 1) hx hb dX6_isFree_58 (by decide) ?_
        exact t_zret hQ X hT (by decide) (⟨rfl, (by decide)⟩) (Nat.le_of_ble_eq_true rfl) (Nat.le_of_ble_eq_true rfl) dX6_isFree_59
      · have w4269 := cv_nle (rfl : z4266.toInt = z4266.toInt) (rfl : z4264.toInt = z4264.toInt) c4267
        refine lv_aload_n hx hb dX6_isFree_32 rfl (lv_at hl 0 rfl) ?_
        refine lv_iload hx hb dX6_isFree_33 (lv_at hl 4 rfl) ?_
        refine lv_iload_n hx hb dX6_isFree_35 rfl (lv_at hl 2 rfl) ?_
        refine lv_iload_n hx hb dX6_isFree_36 rfl (lv_at hl 3 rfl) ?_
        refine t_cVi (n := 3) (C := RX1) (T := TX1) (N := 20) (As := [.int z4264, .int p2, .int p3]) (rest := []) X hT (kt37_X1_apart l G tag L F hT.2.2.2 p0 z4264 p2 p3 m0 g0 (by omega)) m0 g0 rfl rfl qw_389 qw_390 qw_391 qw_17 qw_392 ⟨rfl, by decide +kernel, by decide +kernel, by decide +kernel⟩ ⟨Nat.le_of_ble_eq_true rfl, Nat.le_of_ble_eq_true rfl⟩ hl rfl rfl (Nat.le_of_ble_eq_true rfl) dX6_isFree_37 ⟨Nat.le_of_ble_eq_true rfl, Nat.le_of_ble_eq_true rfl⟩ (fun z4270 F9 H locs hT hz4270 => ?_)
        obtain ⟨fz4270, hz4270⟩ := hz4270
        rw [fz4270] at hT
        refine lv_aload_n hx hb dX6_isFree_40 rfl (lv_at hl 1 rfl) ?_
        refine t_get (C := RX7) (T := TX7) (N := 7) X hT m1 g1 rfl rfl 2 (by decide) qw_383 inlX7 rfl dX6_isFree_41 (fun v4271 hv4271 ov4271 => ?_)
        obtain ⟨b4272, rfl, mb4272, gb4272⟩ := okV_r ov4271
        have gb4272 : tag b4272 = 8 := by simpa using gb4272
        refine lv_iload hx hb dX6_isFree_44 (lv_at hl 4 rfl) ?_
        refine t_ild X hT mb4272 gb4272 rfl (by omega) dX6_isFree_46 (fun z4273 vz4273 rz4273 => ?_)
        have rz4273 : 0 ≤ z4273.toInt ∧ z4273.toInt ≤ 6 := rz4273
        refine lv_icmp_gt (tgt := 52) hx hb dX6_isFree_47 (by decide) (fun c4274 => ?_) (fun c4274 => ?_)
        · have w4275 := cv_lt (rfl : z4273.toInt = z4273.toInt) (rfl : z4270.toInt = z4270.toInt) c4274
          obtain ⟨z4276, ez4276⟩ : ∃ y : Int32, y = z4264 + 1 := ⟨_, rfl⟩
          have hz4276 : z4276.toInt = z4264.toInt + 1 := ar_add ez4276 rfl (by decide : (1 : Int32).toInt = 1) (by omega) (by omega)
          refine lv_iinc (v := z4276) (lv' := [(4, .int z4276), (0, .ref p0), (1, .ref p1), (2, .int p2), (3, .int p3)]) hx hb dX6_isFree_52 hl (k := 4) rfl (by rw [ez4276]; rfl) (by decide) rfl (fun ls hl => ?_)
          refine lv_goto (tgt := 23) hx hb dX6_isFree_55 (by decide) ?_
          exact ih23 z4276 _ _ _ (by omega) (by omega) hT  (lv_sub hl [1, 2, 3, 4, 0] rfl)
        · have w4277 := cv_nlt (rfl : z4273.toInt = z4273.toInt) (rfl : z4270.toInt = z4270.toInt) c4274
          refine lv_iconst (v := 0) hx hb dX6_isFree_50 (by decide) ?_
          exact t_zret hQ X hT (by decide) (⟨rfl, (by decide)⟩) (Nat.le_of_ble_eq_true rfl) (Nat.le_of_ble_eq_true rfl) dX6_isFree_51
  refine lv_aload_n hx hb dX6_isFree_0 rfl (lv_at hl 0 rfl) ?_
  refine lv_iload_n hx hb dX6_isFree_1 rfl (lv_at hl 2 rfl) ?_
  refine lv_iload_n hx hb dX6_isFree_2 rfl (lv_at hl 3 rfl) ?_
  refine t_cVi (n := 2) (C := RX1) (T := TX1) (N := 20) (As := [.int p2, .int p3]) (rest := []) X hT (kt39_X1_isOn l G tag L F hT.2.2.2 p0 p2 p3 m0 g0) m0 g0 rfl rfl qw_384 qw_385 qw_386 qw_17 qw_387 ⟨rfl, by decide +kernel, by decide +kernel, by decide +kernel⟩ ⟨Nat.le_of_ble_eq_true rfl, Nat.le_of_ble_eq_true rfl⟩ hl rfl rfl (Nat.le_of_ble_eq_true rfl) dX6_isFree_3 ⟨Nat.le_of_ble_eq_true rfl, Nat.le_of_ble_eq_true rfl⟩ (fun z4278 F9 H locs hT hz4278 => ?_)
  obtain ⟨fz4278, hz4278⟩ := hz4278
  rw [fz4278] at hT
  refine lv_if_eq (tgt := 18) hx hb dX6_isFree_6 (by decide) (fun c4279 => ?_) (fun c4279 => ?_)
  · have w4280 := cv_eq (rfl : z4278.toInt = z4278.toInt) (by decide : (0 : Int32).toInt = 0) c4279
    refine lv_iconst (v := 0) hx hb dX6_isFree_18 (by decide) ?_
    exact t_zret hQ X hT (by decide) (⟨rfl, (by decide)⟩) (Nat.le_of_ble_eq_true rfl) (Nat.le_of_ble_eq_true rfl) dX6_isFree_19
  · have w4281 := cv_ne (rfl : z4278.toInt = z4278.toInt) (by decide : (0 : Int32).toInt = 0) c4279
    refine lv_aload_n hx hb dX6_isFree_9 rfl (lv_at hl 0 rfl) ?_
    refine lv_iload_n hx hb dX6_isFree_10 rfl (lv_at hl 2 rfl) ?_
    refine lv_iload_n hx hb dX6_isFree_11 rfl (lv_at hl 3 rfl) ?_
    refine t_cVi (n := 2) (C := RX1) (T := TX1) (N := 20) (As := [.int p2, .int p3]) (rest := []) X hT (kt40_X1_isWet l G tag L F hT.2.2.2 p0 p2 p3 m0 g0) m0 g0 rfl rfl qw_388 qw_345 qw_346 qw_17 qw_347 ⟨rfl, by decide +kernel, by decide +kernel, by decide +kernel⟩ ⟨Nat.le_of_ble_eq_true rfl, Nat.le_of_ble_eq_true rfl⟩ hl rfl rfl (Nat.le_of_ble_eq_true rfl) dX6_isFree_12 ⟨Nat.le_of_ble_eq_true rfl, Nat.le_of_ble_eq_true rfl⟩ (fun z4282 F9 H locs hT hz4282 => ?_)
    obtain ⟨fz4282, hz4282⟩ := hz4282
    rw [fz4282] at hT
    refine lv_if_eq (tgt := 20) hx hb dX6_isFree_15 (by decide) (fun c4283 => ?_) (fun c4283 => ?_)
    · have w4284 := cv_eq (rfl : z4282.toInt = z4282.toInt) (by decide : (0 : Int32).toInt = 0) c4283
      refine lv_iconst (v := 0) hx hb dX6_isFree_20 (by decide) ?_
      refine lv_istore (lv' := [(4, .int 0), (0, .ref p0), (1, .ref p1), (2, .int p2), (3, .int p3)]) hx hb dX6_isFree_21 hl (by decide) rfl (fun ls hl => ?_)
      have kk4285 : (0 : Int32).toInt = 0 := by decide
      exact K23 5 0 _ _ _ (by omega) (by decide) hT  (lv_sub hl [1, 2, 3, 4, 0] rfl)
    · have w4286 := cv_ne (rfl : z4282.toInt = z4282.toInt) (by decide : (0 : Int32).toInt = 0) c4283
      refine lv_iconst (v := 0) hx hb dX6_isFree_18 (by decide) ?_
      exact t_zret hQ X hT (by decide) (⟨rfl, (by decide)⟩) (Nat.le_of_ble_eq_true rfl) (Nat.le_of_ble_eq_true rfl) dX6_isFree_19
set_option maxHeartbeats 4000000 in
set_option maxRecDepth 100000 in
theorem kt42_X6_isLeftTo (l : Launch) (G : KG) (tag : Nat → Nat) (L : List Nat) (F : Nat → va_E) (ho : okT G ttC tag L F) (p0 : Nat) (p1 : Nat) (p2 : Int32) (p3 : Int32) (p4 : Int32) (m0 : p0 ∈ L) (g0 : tag p0 = 18) (m1 : p1 ∈ L) (g1 : tag p1 = 19) : TMi l yX6_isLeftTo cX6_isLeftTo 8 (some .boolean) { frames := 1, cells := 0, slots := 0, locals := 25 } G ttC tag L F [.ref p0, .ref p1, .int p2, .int p3, .int p4] (fun r F1 => F1 = F ∧ (0 ≤ r.toInt ∧ r.toInt ≤ 1)) := by
  refine t_bodyi (y := yX6_isLeftTo) (cd := cX6_isLeftTo) (mL := 8) (rt := (some .boolean)) (rm := { frames := 1, cells := 0, slots := 0, locals := 25 }) (av := [.ref p0, .ref p1, .int p2, .int p3, .int p4]) (by decide) (Nat.le_of_ble_eq_true rfl) ho ?_
  intro p e s m args below meth c ls A Q hQ X hT hl
  have hx := X.1.1
  have hb := X.1.2.1
  have hl : lv_has ls 8 [(0, .ref p0), (1, .ref p1), (2, .int p2), (3, .int p3), (4, .int p4)] := hl
  have K3 : ∀ (n : Nat) (z4633 : Int32) (H : Heap) (locs : List Loc) (ls : Array Slot), (4 - z4633.toInt < (n : Int)) → (0 ≤ z4633.toInt ∧ z4633.toInt ≤ 4) → TH G ttC A s tag L F H locs → lv_has ls 8 [(0, .ref p0), (1, .ref p1), (2, .int p2), (3, .int p3), (4, .int p4), (5, .int z4633)] → W p l e { frames := 1, cells := 0, slots := 0, locals := 25 } s m args below meth c H locs 0 0 Q (F0 m 3 ls []) := by
    intro n
    induction n with
    | zero =>
      intro z4633 H locs ls hn rz4633 hT hl
      exfalso
      omega
    | succ n ih3 =>
      intro z4633 H locs ls hn rz4633 hT hl
      have K82 : ∀ (z4634 : Int32) (z4635 : Int32) (z4636 : Int32) (z4637 : Int32) (H : Heap) (locs : List Loc) (ls : Array Slot), (0 ≤ z4635.toInt ∧ z4635.toInt ≤ 1) → (1 ≤ z4636.toInt ∧ z4636.toInt ≤ 4) → (0 ≤ z4637.toInt ∧ z4637.toInt ≤ 1) → TH G ttC A s tag L F H locs → fld F p0 10 = .int z4636 → fld F p0 3 = .int z4637 → lv_has ls 8 [(0, .ref p0), (1, .ref p1), (2, .int p2), (3, .int p3), (4, .int p4), (5, .int z4633), (6, .int z4634), (7, .int z4635)] → W p l e { frames := 1, cells := 0, slots := 0, locals := 25 } s m args below meth c H locs 0 0 Q (F0 m 82 ls []) := by
        intro z4634 z4635 z4636 z4637 H locs ls rz4635 rz4636 rz4637 hT qz4636 qz4637 hl
        obtain ⟨z4638, ez4638⟩ : ∃ y : Int32, y = z4633 + 1 := ⟨_, rfl⟩
        have hz4638 : z4638.toInt = z4633.toInt + 1 := ar_add ez4638 rfl (by decide : (1 : Int32).toInt = 1) (by omega) (by omega)
        refine lv_iinc (v := z4638) (lv' := [(5, .int z4638), (0, .ref p0), (1, .ref p1), (2, .int p2), (3, .int p3), (4, .int p4), (6, .int z4634), (7, .int z4635)]) hx hb dX6_isLeftTo_82 hl (k := 5) rfl (by rw [ez4638]; rfl) (by decide) rfl (fun ls hl => ?_)
        refine lv_goto (tgt := 3) hx hb dX6_isLeftTo_85 (by decide) ?_
        exact ih3 z4638 _ _ _ (by omega) (by omega) hT  (lv_sub hl [1, 2, 3, 4, 5, 0] rfl)
      have K67 : ∀ (z4639 : Int32) (z4640 : Int32) (z4641 : Int32) (z4642 : Int32) (H : Heap) (locs : List Loc) (ls : Array Slot), (0 ≤ z4640.toInt ∧ z4640.toInt ≤ 1) → (1 ≤ z4641.toInt ∧ z4641.toInt ≤ 4) → (0 ≤ z4642.toInt ∧ z4642.toInt ≤ 1) → TH G ttC A s tag L F H locs → fld F p0 10 = .int z4641 → fld F p0 3 = .int z4642 → lv_has ls 8 [(0, .ref p0), (1, .ref p1), (2, .int p2), (3, .int p3), (4, .int p4), (5, .int z4633), (6, .int z4639)] → W p l e { frames := 1, cells := 0, slots := 0, locals := 25 } s m args below meth c H locs 0 0 Q (F0 m 67 ls [.int z4640]) := by
        intro z4639 z4640 z4641 z4642 H locs ls rz4640 rz4641 rz4642 hT qz4641 qz4642 hl
        refine lv_istore (lv' := [(7, .int z4640), (0, .ref p0), (1, .ref p1), (2, .int p2), (3, .int p3), (4, .int p4), (5, .int z4633), (6, .int z4639)]) hx hb dX6_isLeftTo_67 hl (by decide) rfl (fun ls hl => ?_)
        refine lv_iload hx hb dX6_isLeftTo_69 (lv_at hl 6 rfl) ?_
        refine lv_iload_n hx hb dX6_isLeftTo_71 rfl (lv_at hl 3 rfl) ?_
        refine lv_icmp_eq (tgt := 82) hx hb dX6_isLeftTo_72 (by decide) (fun c4643 => ?_) (fun c4643 => ?_)
        · have w4644 := cv_eq (rfl : z4633.toInt = z4633.toInt) (rfl : p2.toInt = p2.toInt) c4643
          exact K82 z4639 z4640 z4641 z4642 _ _ _ (by omega) (by omega) (by omega) hT qz4641 qz4642 (lv_sub hl [1, 2, 3, 4, 5, 6, 7, 0] rfl)
        · have w4645 := cv_ne (rfl : z4633.toInt = z4633.toInt) (rfl : p2.toInt = p2.toInt) c4643
          refine lv_iload hx hb dX6_isLeftTo_75 (lv_at hl 0 rfl) ?_
          refine lv_if_eq (tgt := 82) hx hb dX6_isLeftTo_77 (by decide) (fun c4646 => ?_) (fun c4646 => ?_)
          · have w4647 := cv_eq (rfl : z4640.toInt = z4640.toInt) (by decide : (0 : Int32).toInt = 0) c4646
            exact K82 z4639 z4640 z4641 z4642 _ _ _ (by omega) (by omega) (by omega) hT qz4641 qz4642 (lv_sub hl [1, 2, 3, 4, 5, 6, 7, 0] rfl)
          · have w4648 := cv_ne (rfl : z4640.toInt = z4640.toInt) (by decide : (0 : Int32).toInt = 0) c4646
            refine lv_iconst (v := 0) hx hb dX6_isLeftTo_80 (by decide) ?_
            exact t_zret hQ X hT (by decide) (⟨rfl, (by decide)⟩) (Nat.le_of_ble_eq_true rfl) (Nat.le_of_ble_eq_true rfl) dX6_isLeftTo_81
      refine lv_iload hx hb dX6_isLeftTo_3 (lv_at hl 5 rfl) ?_
      refine lv_aload_n hx hb dX6_isLeftTo_5 rfl (lv_at hl 0 rfl) ?_
      refine t_get (C := RX1) (T := TX1) (N := 20) X hT m0 g0 rfl rfl 10 (by decide) qw_382 inlX1 rfl dX6_isLeftTo_6 (fun v4649 hv4649 ov4649 => ?_)
      obtain ⟨z4650, rfl, rz4650⟩ := okV_i ov4649
      refine lv_icmp_ge (tgt := 88) hx hb dX6_isLeftTo_9 (by decide) (fun c4651 => ?_) (fun c4651 => ?_)
      · have w4652 := cv_le (rfl : z4650.toInt = z4650.toInt) (rfl : z4633.toInt = z4633.toInt) c4651
        refine lv_iconst (v := 1) hx hb dX6_isLeftTo_88 (by decide) ?_
        exact t_zret hQ X hT (by decide) (⟨rfl, (by decide)⟩) (Nat.le_of_ble_eq_true rfl) (Nat.le_of_ble_eq_true rfl) dX6_isLeftTo_89
      · have w4653 := cv_nle (rfl : z4650.toInt = z4650.toInt) (rfl : z4633.toInt = z4633.toInt) c4651
        refine lv_aload_n hx hb dX6_isLeftTo_12 rfl (lv_at hl 0 rfl) ?_
        refine lv_iload hx hb dX6_isLeftTo_13 (lv_at hl 5 rfl) ?_
        refine lv_iload_n hx hb dX6_isLeftTo_15 rfl (lv_at hl 3 rfl) ?_
        refine lv_iload hx hb dX6_isLeftTo_16 (lv_at hl 4 rfl) ?_
        refine t_cVi (n := 3) (C := RX1) (T := TX1) (N := 20) (As := [.int z4633, .int p3, .int p4]) (rest := []) X hT (kt37_X1_apart l G tag L F hT.2.2.2 p0 z4633 p3 p4 m0 g0 (by omega)) m0 g0 rfl rfl qw_389 qw_390 qw_391 qw_17 qw_392 ⟨rfl, by decide +kernel, by decide +kernel, by decide +kernel⟩ ⟨Nat.le_of_ble_eq_true rfl, Nat.le_of_ble_eq_true rfl⟩ hl rfl rfl (Nat.le_of_ble_eq_true rfl) dX6_isLeftTo_18 ⟨Nat.le_of_ble_eq_true rfl, Nat.le_of_ble_eq_true rfl⟩ (fun z4654 F9 H locs hT hz4654 => ?_)
        obtain ⟨fz4654, hz4654⟩ := hz4654
        rw [fz4654] at hT
        refine lv_istore (lv' := [(6, .int z4654), (0, .ref p0), (1, .ref p1), (2, .int p2), (3, .int p3), (4, .int p4), (5, .int z4633)]) hx hb dX6_isLeftTo_21 hl (by decide) rfl (fun ls hl => ?_)
        refine lv_aload_n hx hb dX6_isLeftTo_23 rfl (lv_at hl 1 rfl) ?_
        refine t_get (C := RX1) (T := TX1) (N := 20) X hT m0 g0 rfl rfl 3 (by decide) qw_417 inlX1 rfl dX6_isLeftTo_24 (fun v4655 hv4655 ov4655 => ?_)
        obtain ⟨z4656, rfl, rz4656⟩ := okV_i ov4655
        refine lv_if_eq (tgt := 50) hx hb dX6_isLeftTo_27 (by decide) (fun c4657 => ?_) (fun c4657 => ?_)
        · have w4658 := cv_eq (rfl : z4656.toInt = z4656.toInt) (by decide : (0 : Int32).toInt = 0) c4657
          refine lv_iload hx hb dX6_isLeftTo_50 (lv_at hl 0 rfl) ?_
          refine lv_aload_n hx hb dX6_isLeftTo_52 rfl (lv_at hl 2 rfl) ?_
          refine t_get (C := RX7) (T := TX7) (N := 7) X hT m1 g1 rfl rfl 2 (by decide) qw_383 inlX7 rfl dX6_isLeftTo_53 (fun v4659 hv4659 ov4659 => ?_)
          obtain ⟨b4660, rfl, mb4660, gb4660⟩ := okV_r ov4659
          have gb4660 : tag b4660 = 8 := by simpa using gb4660
          refine lv_iload hx hb dX6_isLeftTo_56 (lv_at hl 6 rfl) ?_
          refine t_ild X hT mb4660 gb4660 rfl (by omega) dX6_isLeftTo_58 (fun z4661 vz4661 rz4661 => ?_)
          have rz4661 : 0 ≤ z4661.toInt ∧ z4661.toInt ≤ 6 := rz4661
          refine lv_icmp_gt (tgt := 66) hx hb dX6_isLeftTo_59 (by decide) (fun c4662 => ?_) (fun c4662 => ?_)
          · have w4663 := cv_lt (rfl : z4661.toInt = z4661.toInt) (rfl : z4654.toInt = z4654.toInt) c4662
            refine lv_iconst (v := 0) hx hb dX6_isLeftTo_66 (by decide) ?_
            exact K67 z4654 0 z4650 z4656 _ _ _ (by decide) (by omega) (by omega) hT hv4649 hv4655 (lv_sub hl [1, 2, 3, 4, 5, 6, 0] rfl)
          · have w4664 := cv_nlt (rfl : z4661.toInt = z4661.toInt) (rfl : z4654.toInt = z4654.toInt) c4662
            refine lv_iconst (v := 1) hx hb dX6_isLeftTo_62 (by decide) ?_
            refine lv_goto (tgt := 67) hx hb dX6_isLeftTo_63 (by decide) ?_
            exact K67 z4654 1 z4650 z4656 _ _ _ (by decide) (by omega) (by omega) hT hv4649 hv4655 (lv_sub hl [1, 2, 3, 4, 5, 6, 0] rfl)
        · have w4665 := cv_ne (rfl : z4656.toInt = z4656.toInt) (by decide : (0 : Int32).toInt = 0) c4657
          refine lv_iload hx hb dX6_isLeftTo_30 (lv_at hl 0 rfl) ?_
          refine lv_aload_n hx hb dX6_isLeftTo_32 rfl (lv_at hl 2 rfl) ?_
          refine t_get (C := RX7) (T := TX7) (N := 7) X hT m1 g1 rfl rfl 2 (by decide) qw_383 inlX7 rfl dX6_isLeftTo_33 (fun v4666 hv4666 ov4666 => ?_)
          obtain ⟨b4667, rfl, mb4667, gb4667⟩ := okV_r ov4666
          have gb4667 : tag b4667 = 8 := by simpa using gb4667
          refine lv_iload hx hb dX6_isLeftTo_36 (lv_at hl 6 rfl) ?_
          refine t_ild X hT mb4667 gb4667 rfl (by omega) dX6_isLeftTo_38 (fun z4668 vz4668 rz4668 => ?_)
          have rz4668 : 0 ≤ z4668.toInt ∧ z4668.toInt ≤ 6 := rz4668
          refine lv_icmp_ge (tgt := 46) hx hb dX6_isLeftTo_39 (by decide) (fun c4669 => ?_) (fun c4669 => ?_)
          · have w4670 := cv_le (rfl : z4668.toInt = z4668.toInt) (rfl : z4654.toInt = z4654.toInt) c4669
            refine lv_iconst (v := 0) hx hb dX6_isLeftTo_46 (by decide) ?_
            refine lv_goto (tgt := 67) hx hb dX6_isLeftTo_47 (by decide) ?_
            exact K67 z4654 0 z4650 z4656 _ _ _ (by decide) (by omega) (by omega) hT hv4649 hv4655 (lv_sub hl [1, 2, 3, 4, 5, 6, 0] rfl)
          · have w4671 := cv_nle (rfl : z4668.toInt = z4668.toInt) (rfl : z4654.toInt = z4654.toInt) c4669
            refine lv_iconst (v := 1) hx hb dX6_isLeftTo_42 (by decide) ?_
            refine lv_goto (tgt := 67) hx hb dX6_isLeftTo_43 (by decide) ?_
            exact K67 z4654 1 z4650 z4656 _ _ _ (by decide) (by omega) (by omega) hT hv4649 hv4655 (lv_sub hl [1, 2, 3, 4, 5, 6, 0] rfl)
  refine lv_iconst (v := 0) hx hb dX6_isLeftTo_0 (by decide) ?_
  refine lv_istore (lv' := [(5, .int 0), (0, .ref p0), (1, .ref p1), (2, .int p2), (3, .int p3), (4, .int p4)]) hx hb dX6_isLeftTo_1 hl (by decide) rfl (fun ls hl => ?_)
  have kk4672 : (0 : Int32).toInt = 0 := by decide
  exact K3 5 0 _ _ _ (by omega) (by decide) hT  (lv_sub hl [1, 2, 3, 4, 5, 0] rfl)
set_option maxHeartbeats 4000000 in
set_option maxRecDepth 100000 in
theorem kt43_X4_eastOf (l : Launch) (G : KG) (tag : Nat → Nat) (L : List Nat) (F : Nat → va_E) (ho : okT G ttC tag L F) (p0 : Int32) (p1 : Int32)  : TMi l yX4_eastOf cX4_eastOf 3 (some .int) { frames := 0, cells := 0, slots := 0, locals := 0 } G ttC tag L F [.int p0, .int p1] (fun r F1 => F1 = F ∧ ((-2147483648) ≤ r.toInt ∧ r.toInt ≤ 2147483647)) := by
  refine t_bodyi (y := yX4_eastOf) (cd := cX4_eastOf) (mL := 3) (rt := (some .int)) (rm := { frames := 0, cells := 0, slots := 0, locals := 0 }) (av := [.int p0, .int p1]) (by decide) (Nat.le_of_ble_eq_true rfl) ho ?_
  intro p e s m args below meth c ls A Q hQ X hT hl
  have hx := X.1.1
  have hb := X.1.2.1
  have hl : lv_has ls 3 [(0, .int p0), (1, .int p1)] := hl
  refine lv_iload_n hx hb dX4_eastOf_0 rfl (lv_at hl 0 rfl) ?_
  refine lv_iconst (v := 1) hx hb dX4_eastOf_1 (by decide) ?_
  refine lv_icmp_ge (tgt := 7) hx hb dX4_eastOf_2 (by decide) (fun c4780 => ?_) (fun c4780 => ?_)
  · have w4781 := cv_le (by decide : (1 : Int32).toInt = 1) (rfl : p0.toInt = p0.toInt) c4780
    refine lv_iload_n hx hb dX4_eastOf_7 rfl (lv_at hl 1 rfl) ?_
    refine lv_iconst (v := 2) hx hb dX4_eastOf_8 (by decide) ?_
    refine lv_iload_n hx hb dX4_eastOf_9 rfl (lv_at hl 0 rfl) ?_
    refine lv_imul hx hb dX4_eastOf_10 ?_
    refine lv_topi (fun z4782 ez4782 => ?_)
    have rz4782 := rg_all z4782
    refine lv_irem hx hb dX4_eastOf_11 (mul2_ne ez4782 (by omega)) ?_
    refine lv_topi (fun z4783 ez4783 => ?_)
    have rz4783 := rg_all z4783
    refine lv_istore_n (lv' := [(2, .int z4783), (0, .int p0), (1, .int p1)]) hx hb dX4_eastOf_12 rfl hl (by decide) rfl (fun ls hl => ?_)
    refine lv_iload_n hx hb dX4_eastOf_13 rfl (lv_at hl 2 rfl) ?_
    refine lv_iconst (v := 2) hx hb dX4_eastOf_14 (by decide) ?_
    refine lv_iload_n hx hb dX4_eastOf_15 rfl (lv_at hl 1 rfl) ?_
    refine lv_imul hx hb dX4_eastOf_16 ?_
    refine lv_topi (fun z4784 ez4784 => ?_)
    have rz4784 := rg_all z4784
    refine lv_idiv hx hb dX4_eastOf_17 (mul2_ne ez4784 (by omega)) ?_
    refine lv_topi (fun z4785 ez4785 => ?_)
    have rz4785 := rg_all z4785
    by_cases c4786 : z4785 = 0
    · have w4787 := cv_eq (rfl : z4785.toInt = z4785.toInt) (by decide : (0 : Int32).toInt = 0) c4786
      refine lv_tableIn (off := 26) (tgt := 44) hx hb dX4_eastOf_18 (by rw [c4786]; decide) (by rw [c4786]; decide) (by rw [c4786]; decide) (by decide) ?_
      refine lv_iload_n hx hb dX4_eastOf_44 rfl (lv_at hl 0 rfl) ?_
      refine lv_iload_n hx hb dX4_eastOf_45 rfl (lv_at hl 1 rfl) ?_
      refine lv_isub hx hb dX4_eastOf_46 ?_
      refine lv_topi (fun z4788 ez4788 => ?_)
      have rz4788 := rg_all z4788
      exact t_iret hQ X hT (⟨rfl, rg_all _⟩) (Nat.le_of_ble_eq_true rfl) (Nat.le_of_ble_eq_true rfl) dX4_eastOf_47
    have w4789 := cv_ne (rfl : z4785.toInt = z4785.toInt) (by decide : (0 : Int32).toInt = 0) c4786
    by_cases c4790 : z4785 = 1
    · have w4791 := cv_eq (rfl : z4785.toInt = z4785.toInt) (by decide : (1 : Int32).toInt = 1) c4790
      refine lv_tableIn (off := 30) (tgt := 48) hx hb dX4_eastOf_18 (by rw [c4790]; decide) (by rw [c4790]; decide) (by rw [c4790]; decide) (by decide) ?_
      refine lv_iload_n hx hb dX4_eastOf_48 rfl (lv_at hl 1 rfl) ?_
      exact t_iret hQ X hT (⟨rfl, rg_all _⟩) (Nat.le_of_ble_eq_true rfl) (Nat.le_of_ble_eq_true rfl) dX4_eastOf_49
    have w4792 := cv_ne (rfl : z4785.toInt = z4785.toInt) (by decide : (1 : Int32).toInt = 1) c4790
    by_cases c4793 : z4785 = 2
    · have w4794 := cv_eq (rfl : z4785.toInt = z4785.toInt) (by decide : (2 : Int32).toInt = 2) c4793
      refine lv_tableIn (off := 32) (tgt := 50) hx hb dX4_eastOf_18 (by rw [c4793]; decide) (by rw [c4793]; decide) (by rw [c4793]; decide) (by decide) ?_
      refine lv_iload_n hx hb dX4_eastOf_50 rfl (lv_at hl 1 rfl) ?_
      refine lv_iload_n hx hb dX4_eastOf_51 rfl (lv_at hl 0 rfl) ?_
      refine lv_isub hx hb dX4_eastOf_52 ?_
      refine lv_topi (fun z4795 ez4795 => ?_)
      have rz4795 := rg_all z4795
      exact t_iret hQ X hT (⟨rfl, rg_all _⟩) (Nat.le_of_ble_eq_true rfl) (Nat.le_of_ble_eq_true rfl) dX4_eastOf_53
    have w4796 := cv_ne (rfl : z4785.toInt = z4785.toInt) (by decide : (2 : Int32).toInt = 2) c4793
    refine lv_tableOut (tgt := 54) hx hb dX4_eastOf_18 (by omega) (by decide) ?_
    refine lv_iload_n hx hb dX4_eastOf_54 rfl (lv_at hl 1 rfl) ?_
    refine lv_ineg hx hb dX4_eastOf_55 ?_
    refine lv_topi (fun z4797 ez4797 => ?_)
    have hz4797 : z4797.toInt = - p0.toInt := ar_neg ez4797 (rfl : p0.toInt = p0.toInt) (by omega)
    exact t_iret hQ X hT (⟨rfl, rg_all _⟩) (Nat.le_of_ble_eq_true rfl) (Nat.le_of_ble_eq_true rfl) dX4_eastOf_56
  · have w4798 := cv_nle (by decide : (1 : Int32).toInt = 1) (rfl : p0.toInt = p0.toInt) c4780
    refine lv_iconst (v := 0) hx hb dX4_eastOf_5 (by decide) ?_
    exact t_iret hQ X hT (⟨rfl, rg_all _⟩) (Nat.le_of_ble_eq_true rfl) (Nat.le_of_ble_eq_true rfl) dX4_eastOf_6
set_option maxHeartbeats 4000000 in
set_option maxRecDepth 100000 in
theorem kt44_X4_southOf (l : Launch) (G : KG) (tag : Nat → Nat) (L : List Nat) (F : Nat → va_E) (ho : okT G ttC tag L F) (p0 : Int32) (p1 : Int32)  : TMi l yX4_southOf cX4_southOf 3 (some .int) { frames := 0, cells := 0, slots := 0, locals := 0 } G ttC tag L F [.int p0, .int p1] (fun r F1 => F1 = F ∧ ((-2147483648) ≤ r.toInt ∧ r.toInt ≤ 2147483647)) := by
  refine t_bodyi (y := yX4_southOf) (cd := cX4_southOf) (mL := 3) (rt := (some .int)) (rm := { frames := 0, cells := 0, slots := 0, locals := 0 }) (av := [.int p0, .int p1]) (by decide) (Nat.le_of_ble_eq_true rfl) ho ?_
  intro p e s m args below meth c ls A Q hQ X hT hl
  have hx := X.1.1
  have hb := X.1.2.1
  have hl : lv_has ls 3 [(0, .int p0), (1, .int p1)] := hl
  refine lv_iload_n hx hb dX4_southOf_0 rfl (lv_at hl 0 rfl) ?_
  refine lv_iconst (v := 1) hx hb dX4_southOf_1 (by decide) ?_
  refine lv_icmp_ge (tgt := 7) hx hb dX4_southOf_2 (by decide) (fun c4877 => ?_) (fun c4877 => ?_)
  · have w4878 := cv_le (by decide : (1 : Int32).toInt = 1) (rfl : p0.toInt = p0.toInt) c4877
    refine lv_iload_n hx hb dX4_southOf_7 rfl (lv_at hl 1 rfl) ?_
    refine lv_iconst (v := 2) hx hb dX4_southOf_8 (by decide) ?_
    refine lv_iload_n hx hb dX4_southOf_9 rfl (lv_at hl 0 rfl) ?_
    refine lv_imul hx hb dX4_southOf_10 ?_
    refine lv_topi (fun z4879 ez4879 => ?_)
    have rz4879 := rg_all z4879
    refine lv_irem hx hb dX4_southOf_11 (mul2_ne ez4879 (by omega)) ?_
    refine lv_topi (fun z4880 ez4880 => ?_)
    have rz4880 := rg_all z4880
    refine lv_istore_n (lv' := [(2, .int z4880), (0, .int p0), (1, .int p1)]) hx hb dX4_southOf_12 rfl hl (by decide) rfl (fun ls hl => ?_)
    refine lv_iload_n hx hb dX4_southOf_13 rfl (lv_at hl 2 rfl) ?_
    refine lv_iconst (v := 2) hx hb dX4_southOf_14 (by decide) ?_
    refine lv_iload_n hx hb dX4_southOf_15 rfl (lv_at hl 1 rfl) ?_
    refine lv_imul hx hb dX4_southOf_16 ?_
    refine lv_topi (fun z4881 ez4881 => ?_)
    have rz4881 := rg_all z4881
    refine lv_idiv hx hb dX4_southOf_17 (mul2_ne ez4881 (by omega)) ?_
    refine lv_topi (fun z4882 ez4882 => ?_)
    have rz4882 := rg_all z4882
    by_cases c4883 : z4882 = 0
    · have w4884 := cv_eq (rfl : z4882.toInt = z4882.toInt) (by decide : (0 : Int32).toInt = 0) c4883
      refine lv_tableIn (off := 26) (tgt := 44) hx hb dX4_southOf_18 (by rw [c4883]; decide) (by rw [c4883]; decide) (by rw [c4883]; decide) (by decide) ?_
      refine lv_iload_n hx hb dX4_southOf_44 rfl (lv_at hl 1 rfl) ?_
      refine lv_ineg hx hb dX4_southOf_45 ?_
      refine lv_topi (fun z4885 ez4885 => ?_)
      have hz4885 : z4885.toInt = - p0.toInt := ar_neg ez4885 (rfl : p0.toInt = p0.toInt) (by omega)
      exact t_iret hQ X hT (⟨rfl, rg_all _⟩) (Nat.le_of_ble_eq_true rfl) (Nat.le_of_ble_eq_true rfl) dX4_southOf_46
    have w4886 := cv_ne (rfl : z4882.toInt = z4882.toInt) (by decide : (0 : Int32).toInt = 0) c4883
    by_cases c4887 : z4882 = 1
    · have w4888 := cv_eq (rfl : z4882.toInt = z4882.toInt) (by decide : (1 : Int32).toInt = 1) c4887
      refine lv_tableIn (off := 29) (tgt := 47) hx hb dX4_southOf_18 (by rw [c4887]; decide) (by rw [c4887]; decide) (by rw [c4887]; decide) (by decide) ?_
      refine lv_iload_n hx hb dX4_southOf_47 rfl (lv_at hl 0 rfl) ?_
      refine lv_iload_n hx hb dX4_southOf_48 rfl (lv_at hl 1 rfl) ?_
      refine lv_isub hx hb dX4_southOf_49 ?_
      refine lv_topi (fun z4889 ez4889 => ?_)
      have rz4889 := rg_all z4889
      exact t_iret hQ X hT (⟨rfl, rg_all _⟩) (Nat.le_of_ble_eq_true rfl) (Nat.le_of_ble_eq_true rfl) dX4_southOf_50
    have w4890 := cv_ne (rfl : z4882.toInt = z4882.toInt) (by decide : (1 : Int32).toInt = 1) c4887
    by_cases c4891 : z4882 = 2
    · have w4892 := cv_eq (rfl : z4882.toInt = z4882.toInt) (by decide : (2 : Int32).toInt = 2) c4891
      refine lv_tableIn (off := 33) (tgt := 51) hx hb dX4_southOf_18 (by rw [c4891]; decide) (by rw [c4891]; decide) (by rw [c4891]; decide) (by decide) ?_
      refine lv_iload_n hx hb dX4_southOf_51 rfl (lv_at hl 1 rfl) ?_
      exact t_iret hQ X hT (⟨rfl, rg_all _⟩) (Nat.le_of_ble_eq_true rfl) (Nat.le_of_ble_eq_true rfl) dX4_southOf_52
    have w4893 := cv_ne (rfl : z4882.toInt = z4882.toInt) (by decide : (2 : Int32).toInt = 2) c4891
    refine lv_tableOut (tgt := 53) hx hb dX4_southOf_18 (by omega) (by decide) ?_
    refine lv_iload_n hx hb dX4_southOf_53 rfl (lv_at hl 1 rfl) ?_
    refine lv_iload_n hx hb dX4_southOf_54 rfl (lv_at hl 0 rfl) ?_
    refine lv_isub hx hb dX4_southOf_55 ?_
    refine lv_topi (fun z4894 ez4894 => ?_)
    have rz4894 := rg_all z4894
    exact t_iret hQ X hT (⟨rfl, rg_all _⟩) (Nat.le_of_ble_eq_true rfl) (Nat.le_of_ble_eq_true rfl) dX4_southOf_56
  · have w4895 := cv_nle (by decide : (1 : Int32).toInt = 1) (rfl : p0.toInt = p0.toInt) c4877
    refine lv_iconst (v := 0) hx hb dX4_southOf_5 (by decide) ?_
    exact t_iret hQ X hT (⟨rfl, rg_all _⟩) (Nat.le_of_ble_eq_true rfl) (Nat.le_of_ble_eq_true rfl) dX4_southOf_6
set_option maxHeartbeats 4000000 in
set_option maxRecDepth 100000 in
theorem kt45_X6_isLeftTo (l : Launch) (G : KG) (tag : Nat → Nat) (L : List Nat) (F : Nat → va_E) (ho : okT G ttC tag L F) (p0 : Nat) (p1 : Nat) (p2 : Int32) (p3 : Int32) (p4 : Int32) (m0 : p0 ∈ L) (g0 : tag p0 = 18) (m1 : p1 ∈ L) (g1 : tag p1 = 19) : TMi l yX6_isLeftTo cX6_isLeftTo 8 (some .boolean) { frames := 1, cells := 0, slots := 0, locals := 25 } G ttC tag L F [.ref p0, .ref p1, .int p2, .int p3, .int p4] (fun r F1 => F1 = F ∧ (0 ≤ r.toInt ∧ r.toInt ≤ 1)) := by
  refine t_bodyi (y := yX6_isLeftTo) (cd := cX6_isLeftTo) (mL := 8) (rt := (some .boolean)) (rm := { frames := 1, cells := 0, slots := 0, locals := 25 }) (av := [.ref p0, .ref p1, .int p2, .int p3, .int p4]) (by decide) (Nat.le_of_ble_eq_true rfl) ho ?_
  intro p e s m args below meth c ls A Q hQ X hT hl
  have hx := X.1.1
  have hb := X.1.2.1
  have hl : lv_has ls 8 [(0, .ref p0), (1, .ref p1), (2, .int p2), (3, .int p3), (4, .int p4)] := hl
  have K3 : ∀ (n : Nat) (z5248 : Int32) (H : Heap) (locs : List Loc) (ls : Array Slot), (4 - z5248.toInt < (n : Int)) → (0 ≤ z5248.toInt ∧ z5248.toInt ≤ 4) → TH G ttC A s tag L F H locs → lv_has ls 8 [(0, .ref p0), (1, .ref p1), (2, .int p2), (3, .int p3), (4, .int p4), (5, .int z5248)] → W p l e { frames := 1, cells := 0, slots := 0, locals := 25 } s m args below meth c H locs 0 0 Q (F0 m 3 ls []) := by
    intro n
    induction n with
    | zero =>
      intro z5248 H locs ls hn rz5248 hT hl
      exfalso
      omega
    | succ n ih3 =>
      intro z5248 H locs ls hn rz5248 hT hl
      have K82 : ∀ (z5249 : Int32) (z5250 : Int32) (z5251 : Int32) (z5252 : Int32) (H : Heap) (locs : List Loc) (ls : Array Slot), (0 ≤ z5250.toInt ∧ z5250.toInt ≤ 1) → (1 ≤ z5251.toInt ∧ z5251.toInt ≤ 4) → (0 ≤ z5252.toInt ∧ z5252.toInt ≤ 1) → TH G ttC A s tag L F H locs → fld F p0 10 = .int z5251 → fld F p0 3 = .int z5252 → lv_has ls 8 [(0, .ref p0), (1, .ref p1), (2, .int p2), (3, .int p3), (4, .int p4), (5, .int z5248), (6, .int z5249), (7, .int z5250)] → W p l e { frames := 1, cells := 0, slots := 0, locals := 25 } s m args below meth c H locs 0 0 Q (F0 m 82 ls []) := by
        intro z5249 z5250 z5251 z5252 H locs ls rz5250 rz5251 rz5252 hT qz5251 qz5252 hl
        obtain ⟨z5253, ez5253⟩ : ∃ y : Int32, y = z5248 + 1 := ⟨_, rfl⟩
        have hz5253 : z5253.toInt = z5248.toInt + 1 := ar_add ez5253 rfl (by decide : (1 : Int32).toInt = 1) (by omega) (by omega)
        refine lv_iinc (v := z5253) (lv' := [(5, .int z5253), (0, .ref p0), (1, .ref p1), (2, .int p2), (3, .int p3), (4, .int p4), (6, .int z5249), (7, .int z5250)]) hx hb dX6_isLeftTo_82 hl (k := 5) rfl (by rw [ez5253]; rfl) (by decide) rfl (fun ls hl => ?_)
        refine lv_goto (tgt := 3) hx hb dX6_isLeftTo_85 (by decide) ?_
        exact ih3 z5253 _ _ _ (by omega) (by omega) hT  (lv_sub hl [1, 2, 3, 4, 5, 0] rfl)
      have K67 : ∀ (z5254 : Int32) (z5255 : Int32) (z5256 : Int32) (z5257 : Int32) (H : Heap) (locs : List Loc) (ls : Array Slot), (0 ≤ z5255.toInt ∧ z5255.toInt ≤ 1) → (1 ≤ z5256.toInt ∧ z5256.toInt ≤ 4) → (0 ≤ z5257.toInt ∧ z5257.toInt ≤ 1) → TH G ttC A s tag L F H locs → fld F p0 10 = .int z5256 → fld F p0 3 = .int z5257 → lv_has ls 8 [(0, .ref p0), (1, .ref p1), (2, .int p2), (3, .int p3), (4, .int p4), (5, .int z5248), (6, .int z5254)] → W p l e { frames := 1, cells := 0, slots := 0, locals := 25 } s m args below meth c H locs 0 0 Q (F0 m 67 ls [.int z5255]) := by
        intro z5254 z5255 z5256 z5257 H locs ls rz5255 rz5256 rz5257 hT qz5256 qz5257 hl
        refine lv_istore (lv' := [(7, .int z5255), (0, .ref p0), (1, .ref p1), (2, .int p2), (3, .int p3), (4, .int p4), (5, .int z5248), (6, .int z5254)]) hx hb dX6_isLeftTo_67 hl (by decide) rfl (fun ls hl => ?_)
        refine lv_iload hx hb dX6_isLeftTo_69 (lv_at hl 6 rfl) ?_
        refine lv_iload_n hx hb dX6_isLeftTo_71 rfl (lv_at hl 3 rfl) ?_
        refine lv_icmp_eq (tgt := 82) hx hb dX6_isLeftTo_72 (by decide) (fun c5258 => ?_) (fun c5258 => ?_)
        · have w5259 := cv_eq (rfl : z5248.toInt = z5248.toInt) (rfl : p2.toInt = p2.toInt) c5258
          exact K82 z5254 z5255 z5256 z5257 _ _ _ (by omega) (by omega) (by omega) hT qz5256 qz5257 (lv_sub hl [1, 2, 3, 4, 5, 6, 7, 0] rfl)
        · have w5260 := cv_ne (rfl : z5248.toInt = z5248.toInt) (rfl : p2.toInt = p2.toInt) c5258
          refine lv_iload hx hb dX6_isLeftTo_75 (lv_at hl 0 rfl) ?_
          refine lv_if_eq (tgt := 82) hx hb dX6_isLeftTo_77 (by decide) (fun c5261 => ?_) (fun c5261 => ?_)
          · have w5262 := cv_eq (rfl : z5255.toInt = z5255.toInt) (by decide : (0 : Int32).toInt = 0) c5261
            exact K82 z5254 z5255 z5256 z5257 _ _ _ (by omega) (by omega) (by omega) hT qz5256 qz5257 (lv_sub hl [1, 2, 3, 4, 5, 6, 7, 0] rfl)
          · have w5263 := cv_ne (rfl : z5255.toInt = z5255.toInt) (by decide : (0 : Int32).toInt = 0) c5261
            refine lv_iconst (v := 0) hx hb dX6_isLeftTo_80 (by decide) ?_
            exact t_zret hQ X hT (by decide) (⟨rfl, (by decide)⟩) (Nat.le_of_ble_eq_true rfl) (Nat.le_of_ble_eq_true rfl) dX6_isLeftTo_81
      refine lv_iload hx hb dX6_isLeftTo_3 (lv_at hl 5 rfl) ?_
      refine lv_aload_n hx hb dX6_isLeftTo_5 rfl (lv_at hl 0 rfl) ?_
      refine t_get (C := RX1) (T := TX1) (N := 20) X hT m0 g0 rfl rfl 10 (by decide) qw_382 inlX1 rfl dX6_isLeftTo_6 (fun v5264 hv5264 ov5264 => ?_)
      obtain ⟨z5265, rfl, rz5265⟩ := okV_i ov5264
      refine lv_icmp_ge (tgt := 88) hx hb dX6_isLeftTo_9 (by decide) (fun c5266 => ?_) (fun c5266 => ?_)
      · have w5267 := cv_le (rfl : z5265.toInt = z5265.toInt) (rfl : z5248.toInt = z5248.toInt) c5266
        refine lv_iconst (v := 1) hx hb dX6_isLeftTo_88 (by decide) ?_
        exact t_zret hQ X hT (by decide) (⟨rfl, (by decide)⟩) (Nat.le_of_ble_eq_true rfl) (Nat.le_of_ble_eq_true rfl) dX6_isLeftTo_89
      · have w5268 := cv_nle (rfl : z5265.toInt = z5265.toInt) (rfl : z5248.toInt = z5248.toInt) c5266
        refine lv_aload_n hx hb dX6_isLeftTo_12 rfl (lv_at hl 0 rfl) ?_
        refine lv_iload hx hb dX6_isLeftTo_13 (lv_at hl 5 rfl) ?_
        refine lv_iload_n hx hb dX6_isLeftTo_15 rfl (lv_at hl 3 rfl) ?_
        refine lv_iload hx hb dX6_isLeftTo_16 (lv_at hl 4 rfl) ?_
        refine t_cVi (n := 3) (C := RX1) (T := TX1) (N := 20) (As := [.int z5248, .int p3, .int p4]) (rest := []) X hT (kt37_X1_apart l G tag L F hT.2.2.2 p0 z5248 p3 p4 m0 g0 (by omega)) m0 g0 rfl rfl qw_389 qw_390 qw_391 qw_17 qw_392 ⟨rfl, by decide +kernel, by decide +kernel, by decide +kernel⟩ ⟨Nat.le_of_ble_eq_true rfl, Nat.le_of_ble_eq_true rfl⟩ hl rfl rfl (Nat.le_of_ble_eq_true rfl) dX6_isLeftTo_18 ⟨Nat.le_of_ble_eq_true rfl, Nat.le_of_ble_eq_true rfl⟩ (fun z5269 F9 H locs hT hz5269 => ?_)
        obtain ⟨fz5269, hz5269⟩ := hz5269
        rw [fz5269] at hT
        refine lv_istore (lv' := [(6, .int z5269), (0, .ref p0), (1, .ref p1), (2, .int p2), (3, .int p3), (4, .int p4), (5, .int z5248)]) hx hb dX6_isLeftTo_21 hl (by decide) rfl (fun ls hl => ?_)
        refine lv_aload_n hx hb dX6_isLeftTo_23 rfl (lv_at hl 1 rfl) ?_
        refine t_get (C := RX1) (T := TX1) (N := 20) X hT m0 g0 rfl rfl 3 (by decide) qw_417 inlX1 rfl dX6_isLeftTo_24 (fun v5270 hv5270 ov5270 => ?_)
        obtain ⟨z5271, rfl, rz5271⟩ := okV_i ov5270
        refine lv_if_eq (tgt := 50) hx hb dX6_isLeftTo_27 (by decide) (fun c5272 => ?_) (fun c5272 => ?_)
        · have w5273 := cv_eq (rfl : z5271.toInt = z5271.toInt) (by decide : (0 : Int32).toInt = 0) c5272
          refine lv_iload hx hb dX6_isLeftTo_50 (lv_at hl 0 rfl) ?_
          refine lv_aload_n hx hb dX6_isLeftTo_52 rfl (lv_at hl 2 rfl) ?_
          refine t_get (C := RX7) (T := TX7) (N := 7) X hT m1 g1 rfl rfl 2 (by decide) qw_383 inlX7 rfl dX6_isLeftTo_53 (fun v5274 hv5274 ov5274 => ?_)
          obtain ⟨b5275, rfl, mb5275, gb5275⟩ := okV_r ov5274
          have gb5275 : tag b5275 = 8 := by simpa using gb5275
          refine lv_iload hx hb dX6_isLeftTo_56 (lv_at hl 6 rfl) ?_
          refine t_ild X hT mb5275 gb5275 rfl (by omega) dX6_isLeftTo_58 (fun z5276 vz5276 rz5276 => ?_)
          have rz5276 : 0 ≤ z5276.toInt ∧ z5276.toInt ≤ 6 := rz5276
          refine lv_icmp_gt (tgt := 66) hx hb dX6_isLeftTo_59 (by decide) (fun c5277 => ?_) (fun c5277 => ?_)
          · have w5278 := cv_lt (rfl : z5276.toInt = z5276.toInt) (rfl : z5269.toInt = z5269.toInt) c5277
            refine lv_iconst (v := 0) hx hb dX6_isLeftTo_66 (by decide) ?_
            exact K67 z5269 0 z5265 z5271 _ _ _ (by decide) (by omega) (by omega) hT hv5264 hv5270 (lv_sub hl [1, 2, 3, 4, 5, 6, 0] rfl)
          · have w5279 := cv_nlt (rfl : z5276.toInt = z5276.toInt) (rfl : z5269.toInt = z5269.toInt) c5277
            refine lv_iconst (v := 1) hx hb dX6_isLeftTo_62 (by decide) ?_
            refine lv_goto (tgt := 67) hx hb dX6_isLeftTo_63 (by decide) ?_
            exact K67 z5269 1 z5265 z5271 _ _ _ (by decide) (by omega) (by omega) hT hv5264 hv5270 (lv_sub hl [1, 2, 3, 4, 5, 6, 0] rfl)
        · have w5280 := cv_ne (rfl : z5271.toInt = z5271.toInt) (by decide : (0 : Int32).toInt = 0) c5272
          refine lv_iload hx hb dX6_isLeftTo_30 (lv_at hl 0 rfl) ?_
          refine lv_aload_n hx hb dX6_isLeftTo_32 rfl (lv_at hl 2 rfl) ?_
          refine t_get (C := RX7) (T := TX7) (N := 7) X hT m1 g1 rfl rfl 2 (by decide) qw_383 inlX7 rfl dX6_isLeftTo_33 (fun v5281 hv5281 ov5281 => ?_)
          obtain ⟨b5282, rfl, mb5282, gb5282⟩ := okV_r ov5281
          have gb5282 : tag b5282 = 8 := by simpa using gb5282
          refine lv_iload hx hb dX6_isLeftTo_36 (lv_at hl 6 rfl) ?_
          refine t_ild X hT mb5282 gb5282 rfl (by omega) dX6_isLeftTo_38 (fun z5283 vz5283 rz5283 => ?_)
          have rz5283 : 0 ≤ z5283.toInt ∧ z5283.toInt ≤ 6 := rz5283
          refine lv_icmp_ge (tgt := 46) hx hb dX6_isLeftTo_39 (by decide) (fun c5284 => ?_) (fun c5284 => ?_)
          · have w5285 := cv_le (rfl : z5283.toInt = z5283.toInt) (rfl : z5269.toInt = z5269.toInt) c5284
            refine lv_iconst (v := 0) hx hb dX6_isLeftTo_46 (by decide) ?_
            refine lv_goto (tgt := 67) hx hb dX6_isLeftTo_47 (by decide) ?_
            exact K67 z5269 0 z5265 z5271 _ _ _ (by decide) (by omega) (by omega) hT hv5264 hv5270 (lv_sub hl [1, 2, 3, 4, 5, 6, 0] rfl)
          · have w5286 := cv_nle (rfl : z5283.toInt = z5283.toInt) (rfl : z5269.toInt = z5269.toInt) c5284
            refine lv_iconst (v := 1) hx hb dX6_isLeftTo_42 (by decide) ?_
            refine lv_goto (tgt := 67) hx hb dX6_isLeftTo_43 (by decide) ?_
            exact K67 z5269 1 z5265 z5271 _ _ _ (by decide) (by omega) (by omega) hT hv5264 hv5270 (lv_sub hl [1, 2, 3, 4, 5, 6, 0] rfl)
  refine lv_iconst (v := 0) hx hb dX6_isLeftTo_0 (by decide) ?_
  refine lv_istore (lv' := [(5, .int 0), (0, .ref p0), (1, .ref p1), (2, .int p2), (3, .int p3), (4, .int p4)]) hx hb dX6_isLeftTo_1 hl (by decide) rfl (fun ls hl => ?_)
  have kk5287 : (0 : Int32).toInt = 0 := by decide
  exact K3 5 0 _ _ _ (by omega) (by decide) hT  (lv_sub hl [1, 2, 3, 4, 5, 0] rfl)
set_option maxHeartbeats 4000000 in
set_option maxRecDepth 100000 in
theorem kt46_X6_isFit (l : Launch) (G : KG) (tag : Nat → Nat) (L : List Nat) (F : Nat → va_E) (ho : okT G ttC tag L F) (p0 : Nat) (p1 : Nat) (p2 : Int32) (m0 : p0 ∈ L) (g0 : tag p0 = 18) (m1 : p1 ∈ L) (g1 : tag p1 = 19) (h2 : 0 ≤ p2.toInt ∧ p2.toInt ≤ 3) : TMi l yX6_isFit cX6_isFit 9 (some .boolean) { frames := 2, cells := 0, slots := 0, locals := 52 } G ttC tag L F [.ref p0, .ref p1, .int p2] (fun r F1 => F1 = F ∧ (0 ≤ r.toInt ∧ r.toInt ≤ 1)) := by
  refine t_bodyi (y := yX6_isFit) (cd := cX6_isFit) (mL := 9) (rt := (some .boolean)) (rm := { frames := 2, cells := 0, slots := 0, locals := 52 }) (av := [.ref p0, .ref p1, .int p2]) (by decide) (Nat.le_of_ble_eq_true rfl) ho ?_
  intro p e s m args below meth c ls A Q hQ X hT hl
  have hx := X.1.1
  have hb := X.1.2.1
  have hl : lv_has ls 9 [(0, .ref p0), (1, .ref p1), (2, .int p2)] := hl
  have K66 : ∀ (n : Nat) (z5691 : Int32) (z5692 : Int32) (z5693 : Int32) (z5694 : Int32) (H : Heap) (locs : List Loc) (ls : Array Slot), (48 - z5694.toInt < (n : Int)) → (1 ≤ z5691.toInt ∧ z5691.toInt ≤ 6) → (0 ≤ z5692.toInt ∧ z5692.toInt ≤ 11) → (0 ≤ z5693.toInt ∧ z5693.toInt ≤ 11) → (0 ≤ z5694.toInt ∧ z5694.toInt ≤ 48) → TH G ttC A s tag L F H locs → lv_has ls 9 [(0, .ref p0), (1, .ref p1), (2, .int p2), (3, .int z5691), (4, .int z5692), (5, .int z5693), (6, .int z5694)] → W p l e { frames := 2, cells := 0, slots := 0, locals := 52 } s m args below meth c H locs 0 0 Q (F0 m 66 ls []) := by
    intro n
    induction n with
    | zero =>
      intro z5691 z5692 z5693 z5694 H locs ls hn rz5691 rz5692 rz5693 rz5694 hT hl
      exfalso
      omega
    | succ n ih66 =>
      intro z5691 z5692 z5693 z5694 H locs ls hn rz5691 rz5692 rz5693 rz5694 hT hl
      refine lv_iload hx hb dX6_isFit_66 (lv_at hl 6 rfl) ?_
      refine lv_bipush (v := 8) hx hb dX6_isFit_68 (by decide) ?_
      refine lv_iload_n hx hb dX6_isFit_70 rfl (lv_at hl 3 rfl) ?_
      refine lv_imul hx hb dX6_isFit_71 ?_
      refine lv_topi (fun z5695 ez5695 => ?_)
      have hz5695 : z5695.toInt = 8 * z5691.toInt := ar_mul ez5695 (by decide : (8 : Int32).toInt = 8) (rfl : z5691.toInt = z5691.toInt) (by omega) (by omega)
      have rz5695 : 8 ≤ z5695.toInt ∧ z5695.toInt ≤ 48 := by omega
      refine lv_icmp_ge (tgt := 129) hx hb dX6_isFit_72 (by decide) (fun c5696 => ?_) (fun c5696 => ?_)
      · have w5697 := cv_le (rfl : z5695.toInt = z5695.toInt) (rfl : z5694.toInt = z5694.toInt) c5696
        refine lv_iconst (v := 1) hx hb dX6_isFit_129 (by decide) ?_
        exact t_zret hQ X hT (by decide) (⟨rfl, (by decide)⟩) (Nat.le_of_ble_eq_true rfl) (Nat.le_of_ble_eq_true rfl) dX6_isFit_130
      · have w5698 := cv_nle (rfl : z5695.toInt = z5695.toInt) (rfl : z5694.toInt = z5694.toInt) c5696
        refine lv_iload hx hb dX6_isFit_75 (lv_at hl 4 rfl) ?_
        refine lv_iload_n hx hb dX6_isFit_77 rfl (lv_at hl 3 rfl) ?_
        refine lv_iload hx hb dX6_isFit_78 (lv_at hl 6 rfl) ?_
        refine t_cSi (n := 2) (As := [.int z5691, .int z5694]) (rest := [.int z5692]) X hT (kt43_X4_eastOf l G tag L F hT.2.2.2 z5691 z5694 ) qw_407 qw_408 qw_409 qw_410 ⟨by decide +kernel, by decide +kernel, by decide +kernel⟩ ⟨Nat.le_of_ble_eq_true rfl, Nat.le_of_ble_eq_true rfl⟩ hl rfl rfl (Nat.le_of_ble_eq_true rfl) dX6_isFit_80 ⟨Nat.le_of_ble_eq_true rfl, Nat.le_of_ble_eq_true rfl⟩ (fun z5699 F9 H locs hT hz5699 => ?_)
        obtain ⟨fz5699, hz5699⟩ := hz5699
        rw [fz5699] at hT
        refine lv_iadd hx hb dX6_isFit_83 ?_
        refine lv_topi (fun z5700 ez5700 => ?_)
        have rz5700 := rg_all z5700
        refine lv_istore (lv' := [(7, .int z5700), (0, .ref p0), (1, .ref p1), (2, .int p2), (3, .int z5691), (4, .int z5692), (5, .int z5693), (6, .int z5694)]) hx hb dX6_isFit_84 hl (by decide) rfl (fun ls hl => ?_)
        refine lv_iload hx hb dX6_isFit_86 (lv_at hl 6 rfl) ?_
        refine lv_iload_n hx hb dX6_isFit_88 rfl (lv_at hl 4 rfl) ?_
        refine lv_iload hx hb dX6_isFit_89 (lv_at hl 7 rfl) ?_
        refine t_cSi (n := 2) (As := [.int z5691, .int z5694]) (rest := [.int z5693]) X hT (kt44_X4_southOf l G tag L F hT.2.2.2 z5691 z5694 ) qw_411 qw_412 qw_409 qw_413 ⟨by decide +kernel, by decide +kernel, by decide +kernel⟩ ⟨Nat.le_of_ble_eq_true rfl, Nat.le_of_ble_eq_true rfl⟩ hl rfl rfl (Nat.le_of_ble_eq_true rfl) dX6_isFit_91 ⟨Nat.le_of_ble_eq_true rfl, Nat.le_of_ble_eq_true rfl⟩ (fun z5701 F9 H locs hT hz5701 => ?_)
        obtain ⟨fz5701, hz5701⟩ := hz5701
        rw [fz5701] at hT
        refine lv_iadd hx hb dX6_isFit_94 ?_
        refine lv_topi (fun z5702 ez5702 => ?_)
        have rz5702 := rg_all z5702
        refine lv_istore (lv' := [(8, .int z5702), (7, .int z5700), (0, .ref p0), (1, .ref p1), (2, .int p2), (3, .int z5691), (4, .int z5692), (5, .int z5693), (6, .int z5694)]) hx hb dX6_isFit_95 hl (by decide) rfl (fun ls hl => ?_)
        refine lv_aload_n hx hb dX6_isFit_97 rfl (lv_at hl 2 rfl) ?_
        refine lv_iload hx hb dX6_isFit_98 (lv_at hl 1 rfl) ?_
        refine lv_iload hx hb dX6_isFit_100 (lv_at hl 0 rfl) ?_
        refine t_cVi (n := 2) (C := RX1) (T := TX1) (N := 20) (As := [.int z5700, .int z5702]) (rest := []) X hT (kt40_X1_isWet l G tag L F hT.2.2.2 p0 z5700 z5702 m0 g0) m0 g0 rfl rfl qw_388 qw_345 qw_346 qw_17 qw_347 ⟨rfl, by decide +kernel, by decide +kernel, by decide +kernel⟩ ⟨Nat.le_of_ble_eq_true rfl, Nat.le_of_ble_eq_true rfl⟩ hl rfl rfl (Nat.le_of_ble_eq_true rfl) dX6_isFit_102 ⟨Nat.le_of_ble_eq_true rfl, Nat.le_of_ble_eq_true rfl⟩ (fun z5703 F9 H locs hT hz5703 => ?_)
        obtain ⟨fz5703, hz5703⟩ := hz5703
        rw [fz5703] at hT
        refine lv_if_ne (tgt := 121) hx hb dX6_isFit_105 (by decide) (fun c5704 => ?_) (fun c5704 => ?_)
        · have w5705 := cv_ne (rfl : z5703.toInt = z5703.toInt) (by decide : (0 : Int32).toInt = 0) c5704
          refine lv_iconst (v := 0) hx hb dX6_isFit_121 (by decide) ?_
          exact t_zret hQ X hT (by decide) (⟨rfl, (by decide)⟩) (Nat.le_of_ble_eq_true rfl) (Nat.le_of_ble_eq_true rfl) dX6_isFit_122
        · have w5706 := cv_eq (rfl : z5703.toInt = z5703.toInt) (by decide : (0 : Int32).toInt = 0) c5704
          refine lv_aload_n hx hb dX6_isFit_108 rfl (lv_at hl 2 rfl) ?_
          refine lv_aload_n hx hb dX6_isFit_109 rfl (lv_at hl 3 rfl) ?_
          refine lv_iload_n hx hb dX6_isFit_110 rfl (lv_at hl 4 rfl) ?_
          refine lv_iload hx hb dX6_isFit_111 (lv_at hl 1 rfl) ?_
          refine lv_iload hx hb dX6_isFit_113 (lv_at hl 0 rfl) ?_
          refine t_cSi (n := 5) (As := [.ref p0, .ref p1, .int p2, .int z5700, .int z5702]) (rest := []) X hT (kt45_X6_isLeftTo l G tag L F hT.2.2.2 p0 p1 p2 z5700 z5702 m0 g0 m1 g1) qw_414 qw_415 qw_380 qw_416 ⟨by decide +kernel, by decide +kernel, by decide +kernel⟩ ⟨Nat.le_of_ble_eq_true rfl, Nat.le_of_ble_eq_true rfl⟩ hl rfl rfl (Nat.le_of_ble_eq_true rfl) dX6_isFit_115 ⟨Nat.le_of_ble_eq_true rfl, Nat.le_of_ble_eq_true rfl⟩ (fun z5707 F9 H locs hT hz5707 => ?_)
          obtain ⟨fz5707, hz5707⟩ := hz5707
          rw [fz5707] at hT
          refine lv_if_ne (tgt := 123) hx hb dX6_isFit_118 (by decide) (fun c5708 => ?_) (fun c5708 => ?_)
          · have w5709 := cv_ne (rfl : z5707.toInt = z5707.toInt) (by decide : (0 : Int32).toInt = 0) c5708
            obtain ⟨z5710, ez5710⟩ : ∃ y : Int32, y = z5694 + 1 := ⟨_, rfl⟩
            have hz5710 : z5710.toInt = z5694.toInt + 1 := ar_add ez5710 rfl (by decide : (1 : Int32).toInt = 1) (by omega) (by omega)
            refine lv_iinc (v := z5710) (lv' := [(6, .int z5710), (8, .int z5702), (7, .int z5700), (0, .ref p0), (1, .ref p1), (2, .int p2), (3, .int z5691), (4, .int z5692), (5, .int z5693)]) hx hb dX6_isFit_123 hl (k := 8) rfl (by rw [ez5710]; rfl) (by decide) rfl (fun ls hl => ?_)
            refine lv_goto (tgt := 66) hx hb dX6_isFit_126 (by decide) ?_
            exact ih66 z5691 z5692 z5693 z5710 _ _ _ (by omega) (by omega) (by omega) (by omega) (by omega) hT  (lv_sub hl [3, 4, 5, 6, 7, 8, 0] rfl)
          · have w5711 := cv_eq (rfl : z5707.toInt = z5707.toInt) (by decide : (0 : Int32).toInt = 0) c5708
            refine lv_iconst (v := 0) hx hb dX6_isFit_121 (by decide) ?_
            exact t_zret hQ X hT (by decide) (⟨rfl, (by decide)⟩) (Nat.le_of_ble_eq_true rfl) (Nat.le_of_ble_eq_true rfl) dX6_isFit_122
  refine lv_aload_n hx hb dX6_isFit_0 rfl (lv_at hl 1 rfl) ?_
  refine t_get (C := RX7) (T := TX7) (N := 7) X hT m1 g1 rfl rfl 2 (by decide) qw_383 inlX7 rfl dX6_isFit_1 (fun v5712 hv5712 ov5712 => ?_)
  obtain ⟨b5713, rfl, mb5713, gb5713⟩ := okV_r ov5712
  have gb5713 : tag b5713 = 8 := by simpa using gb5713
  refine lv_iload_n hx hb dX6_isFit_4 rfl (lv_at hl 2 rfl) ?_
  refine t_ild X hT mb5713 gb5713 rfl (by omega) dX6_isFit_5 (fun z5714 vz5714 rz5714 => ?_)
  have rz5714 : 0 ≤ z5714.toInt ∧ z5714.toInt ≤ 6 := rz5714
  refine lv_iconst (v := 1) hx hb dX6_isFit_6 (by decide) ?_
  refine lv_iadd hx hb dX6_isFit_7 ?_
  refine lv_topi (fun z5715 ez5715 => ?_)
  have hz5715 : z5715.toInt = z5714.toInt + 1 := ar_add ez5715 (rfl : z5714.toInt = z5714.toInt) (by decide : (1 : Int32).toInt = 1) (by omega) (by omega)
  have rz5715 : 1 ≤ z5715.toInt ∧ z5715.toInt ≤ 7 := by omega
  refine lv_istore_n (lv' := [(3, .int z5715), (0, .ref p0), (1, .ref p1), (2, .int p2)]) hx hb dX6_isFit_8 rfl hl (by decide) rfl (fun ls hl => ?_)
  refine lv_aload_n hx hb dX6_isFit_9 rfl (lv_at hl 1 rfl) ?_
  refine t_get (C := RX1) (T := TX1) (N := 20) X hT m0 g0 rfl rfl 11 (by decide) qw_405 inlX1 rfl dX6_isFit_10 (fun v5716 hv5716 ov5716 => ?_)
  obtain ⟨b5717, rfl, mb5717, gb5717⟩ := okV_r ov5716
  have gb5717 : tag b5717 = 4 := by simpa using gb5717
  refine lv_iload_n hx hb dX6_isFit_13 rfl (lv_at hl 3 rfl) ?_
  refine t_ild X hT mb5717 gb5717 rfl (by omega) dX6_isFit_14 (fun z5718 vz5718 rz5718 => ?_)
  have rz5718 : 0 ≤ z5718.toInt ∧ z5718.toInt ≤ 11 := rz5718
  refine lv_istore (lv' := [(4, .int z5718), (3, .int z5715), (0, .ref p0), (1, .ref p1), (2, .int p2)]) hx hb dX6_isFit_15 hl (by decide) rfl (fun ls hl => ?_)
  refine lv_aload_n hx hb dX6_isFit_17 rfl (lv_at hl 2 rfl) ?_
  refine t_get (C := RX1) (T := TX1) (N := 20) X hT m0 g0 rfl rfl 12 (by decide) qw_406 inlX1 rfl dX6_isFit_18 (fun v5719 hv5719 ov5719 => ?_)
  obtain ⟨b5720, rfl, mb5720, gb5720⟩ := okV_r ov5719
  have gb5720 : tag b5720 = 4 := by simpa using gb5720
  refine lv_iload_n hx hb dX6_isFit_21 rfl (lv_at hl 4 rfl) ?_
  refine t_ild X hT mb5720 gb5720 rfl (by omega) dX6_isFit_22 (fun z5721 vz5721 rz5721 => ?_)
  have rz5721 : 0 ≤ z5721.toInt ∧ z5721.toInt ≤ 11 := rz5721
  refine lv_istore (lv' := [(5, .int z5721), (4, .int z5718), (3, .int z5715), (0, .ref p0), (1, .ref p1), (2, .int p2)]) hx hb dX6_isFit_23 hl (by decide) rfl (fun ls hl => ?_)
  refine lv_iload_n hx hb dX6_isFit_25 rfl (lv_at hl 2 rfl) ?_
  refine lv_bipush (v := 6) hx hb dX6_isFit_26 (by decide) ?_
  refine lv_icmp_gt (tgt := 61) hx hb dX6_isFit_28 (by decide) (fun c5722 => ?_) (fun c5722 => ?_)
  · have w5723 := cv_lt (by decide : (6 : Int32).toInt = 6) (rfl : z5715.toInt = z5715.toInt) c5722
    refine lv_iconst (v := 0) hx hb dX6_isFit_61 (by decide) ?_
    exact t_zret hQ X hT (by decide) (⟨rfl, (by decide)⟩) (Nat.le_of_ble_eq_true rfl) (Nat.le_of_ble_eq_true rfl) dX6_isFit_62
  · have w5724 := cv_nlt (by decide : (6 : Int32).toInt = 6) (rfl : z5715.toInt = z5715.toInt) c5722
    refine lv_aload_n hx hb dX6_isFit_31 rfl (lv_at hl 3 rfl) ?_
    refine lv_iload hx hb dX6_isFit_32 (lv_at hl 1 rfl) ?_
    refine lv_iload_n hx hb dX6_isFit_34 rfl (lv_at hl 2 rfl) ?_
    refine lv_isub hx hb dX6_isFit_35 ?_
    refine lv_topi (fun z5725 ez5725 => ?_)
    have hz5725 : z5725.toInt = z5718.toInt - z5715.toInt := ar_sub ez5725 (rfl : z5718.toInt = z5718.toInt) (rfl : z5715.toInt = z5715.toInt) (by omega) (by omega)
    have rz5725 : (-6) ≤ z5725.toInt ∧ z5725.toInt ≤ 10 := by omega
    refine lv_iload hx hb dX6_isFit_36 (lv_at hl 0 rfl) ?_
    refine lv_iload_n hx hb dX6_isFit_38 rfl (lv_at hl 2 rfl) ?_
    refine lv_isub hx hb dX6_isFit_39 ?_
    refine lv_topi (fun z5726 ez5726 => ?_)
    have hz5726 : z5726.toInt = z5721.toInt - z5715.toInt := ar_sub ez5726 (rfl : z5721.toInt = z5721.toInt) (rfl : z5715.toInt = z5715.toInt) (by omega) (by omega)
    have rz5726 : (-6) ≤ z5726.toInt ∧ z5726.toInt ≤ 10 := by omega
    refine t_cVi (n := 2) (C := RX1) (T := TX1) (N := 20) (As := [.int z5725, .int z5726]) (rest := []) X hT (kt39_X1_isOn l G tag L F hT.2.2.2 p0 z5725 z5726 m0 g0) m0 g0 rfl rfl qw_384 qw_385 qw_386 qw_17 qw_387 ⟨rfl, by decide +kernel, by decide +kernel, by decide +kernel⟩ ⟨Nat.le_of_ble_eq_true rfl, Nat.le_of_ble_eq_true rfl⟩ hl rfl rfl (Nat.le_of_ble_eq_true rfl) dX6_isFit_40 ⟨Nat.le_of_ble_eq_true rfl, Nat.le_of_ble_eq_true rfl⟩ (fun z5727 F9 H locs hT hz5727 => ?_)
    obtain ⟨fz5727, hz5727⟩ := hz5727
    rw [fz5727] at hT
    refine lv_if_eq (tgt := 61) hx hb dX6_isFit_43 (by decide) (fun c5728 => ?_) (fun c5728 => ?_)
    · have w5729 := cv_eq (rfl : z5727.toInt = z5727.toInt) (by decide : (0 : Int32).toInt = 0) c5728
      refine lv_iconst (v := 0) hx hb dX6_isFit_61 (by decide) ?_
      exact t_zret hQ X hT (by decide) (⟨rfl, (by decide)⟩) (Nat.le_of_ble_eq_true rfl) (Nat.le_of_ble_eq_true rfl) dX6_isFit_62
    · have w5730 := cv_ne (rfl : z5727.toInt = z5727.toInt) (by decide : (0 : Int32).toInt = 0) c5728
      refine lv_aload_n hx hb dX6_isFit_46 rfl (lv_at hl 3 rfl) ?_
      refine lv_iload hx hb dX6_isFit_47 (lv_at hl 1 rfl) ?_
      refine lv_iload_n hx hb dX6_isFit_49 rfl (lv_at hl 2 rfl) ?_
      refine lv_iadd hx hb dX6_isFit_50 ?_
      refine lv_topi (fun z5731 ez5731 => ?_)
      have hz5731 : z5731.toInt = z5718.toInt + z5715.toInt := ar_add ez5731 (rfl : z5718.toInt = z5718.toInt) (rfl : z5715.toInt = z5715.toInt) (by omega) (by omega)
      have rz5731 : 1 ≤ z5731.toInt ∧ z5731.toInt ≤ 17 := by omega
      refine lv_iload hx hb dX6_isFit_51 (lv_at hl 0 rfl) ?_
      refine lv_iload_n hx hb dX6_isFit_53 rfl (lv_at hl 2 rfl) ?_
      refine lv_iadd hx hb dX6_isFit_54 ?_
      refine lv_topi (fun z5732 ez5732 => ?_)
      have hz5732 : z5732.toInt = z5721.toInt + z5715.toInt := ar_add ez5732 (rfl : z5721.toInt = z5721.toInt) (rfl : z5715.toInt = z5715.toInt) (by omega) (by omega)
      have rz5732 : 1 ≤ z5732.toInt ∧ z5732.toInt ≤ 17 := by omega
      refine t_cVi (n := 2) (C := RX1) (T := TX1) (N := 20) (As := [.int z5731, .int z5732]) (rest := []) X hT (kt39_X1_isOn l G tag L F hT.2.2.2 p0 z5731 z5732 m0 g0) m0 g0 rfl rfl qw_384 qw_385 qw_386 qw_17 qw_387 ⟨rfl, by decide +kernel, by decide +kernel, by decide +kernel⟩ ⟨Nat.le_of_ble_eq_true rfl, Nat.le_of_ble_eq_true rfl⟩ hl rfl rfl (Nat.le_of_ble_eq_true rfl) dX6_isFit_55 ⟨Nat.le_of_ble_eq_true rfl, Nat.le_of_ble_eq_true rfl⟩ (fun z5733 F9 H locs hT hz5733 => ?_)
      obtain ⟨fz5733, hz5733⟩ := hz5733
      rw [fz5733] at hT
      refine lv_if_ne (tgt := 63) hx hb dX6_isFit_58 (by decide) (fun c5734 => ?_) (fun c5734 => ?_)
      · have w5735 := cv_ne (rfl : z5733.toInt = z5733.toInt) (by decide : (0 : Int32).toInt = 0) c5734
        refine lv_iconst (v := 0) hx hb dX6_isFit_63 (by decide) ?_
        refine lv_istore (lv' := [(6, .int 0), (5, .int z5721), (4, .int z5718), (3, .int z5715), (0, .ref p0), (1, .ref p1), (2, .int p2)]) hx hb dX6_isFit_64 hl (by decide) rfl (fun ls hl => ?_)
        have kk5736 : (0 : Int32).toInt = 0 := by decide
        exact K66 49 z5715 z5718 z5721 0 _ _ _ (by omega) (by omega) (by omega) (by omega) (by decide) hT  (lv_sub hl [4, 5, 6, 3, 2, 1, 0] rfl)
      · have w5737 := cv_eq (rfl : z5733.toInt = z5733.toInt) (by decide : (0 : Int32).toInt = 0) c5734
        refine lv_iconst (v := 0) hx hb dX6_isFit_61 (by decide) ?_
        exact t_zret hQ X hT (by decide) (⟨rfl, (by decide)⟩) (Nat.le_of_ble_eq_true rfl) (Nat.le_of_ble_eq_true rfl) dX6_isFit_62
set_option maxHeartbeats 4000000 in
set_option maxRecDepth 100000 in
theorem kt47_X6_isMet (l : Launch) (G : KG) (tag : Nat → Nat) (L : List Nat) (F : Nat → va_E) (ho : okT G ttC tag L F) (p0 : Nat) (p1 : Nat) (p2 : Int32) (p3 : Int32) (m0 : p0 ∈ L) (g0 : tag p0 = 18) (m1 : p1 ∈ L) (g1 : tag p1 = 19) (h2 : 0 ≤ p2.toInt ∧ p2.toInt ≤ 3) (h3 : 0 ≤ p3.toInt ∧ p3.toInt ≤ 3) : TMi l yX6_isMet cX6_isMet 7 (some .boolean) { frames := 1, cells := 0, slots := 0, locals := 13 } G ttC tag L F [.ref p0, .ref p1, .int p2, .int p3] (fun r F1 => F1 = F ∧ (0 ≤ r.toInt ∧ r.toInt ≤ 1)) := by
  refine t_bodyi (y := yX6_isMet) (cd := cX6_isMet) (mL := 7) (rt := (some .boolean)) (rm := { frames := 1, cells := 0, slots := 0, locals := 13 }) (av := [.ref p0, .ref p1, .int p2, .int p3]) (by decide) (Nat.le_of_ble_eq_true rfl) ho ?_
  intro p e s m args below meth c ls A Q hQ X hT hl
  have hx := X.1.1
  have hb := X.1.2.1
  have hl : lv_has ls 7 [(0, .ref p0), (1, .ref p1), (2, .int p2), (3, .int p3)] := hl
  refine lv_aload_n hx hb dX6_isMet_0 rfl (lv_at hl 1 rfl) ?_
  refine t_get (C := RX7) (T := TX7) (N := 7) X hT m1 g1 rfl rfl 2 (by decide) qw_383 inlX7 rfl dX6_isMet_1 (fun v5854 hv5854 ov5854 => ?_)
  obtain ⟨b5855, rfl, mb5855, gb5855⟩ := okV_r ov5854
  have gb5855 : tag b5855 = 8 := by simpa using gb5855
  refine lv_iload_n hx hb dX6_isMet_4 rfl (lv_at hl 2 rfl) ?_
  refine t_ild X hT mb5855 gb5855 rfl (by omega) dX6_isMet_5 (fun z5856 vz5856 rz5856 => ?_)
  have rz5856 : 0 ≤ z5856.toInt ∧ z5856.toInt ≤ 6 := rz5856
  refine lv_aload_n hx hb dX6_isMet_6 rfl (lv_at hl 1 rfl) ?_
  refine t_get (C := RX7) (T := TX7) (N := 7) X hT m1 g1 rfl rfl 2 (by decide) qw_383 inlX7 rfl dX6_isMet_7 (fun v5857 hv5857 ov5857 => ?_)
  obtain rfl : v5857 = .ref b5855 := hv5857.symm.trans hv5854
  refine lv_iload_n hx hb dX6_isMet_10 rfl (lv_at hl 3 rfl) ?_
  refine t_ild X hT mb5855 gb5855 rfl (by omega) dX6_isMet_11 (fun z5858 vz5858 rz5858 => ?_)
  have rz5858 : 0 ≤ z5858.toInt ∧ z5858.toInt ≤ 6 := rz5858
  refine lv_iadd hx hb dX6_isMet_12 ?_
  refine lv_topi (fun z5859 ez5859 => ?_)
  have hz5859 : z5859.toInt = z5856.toInt + z5858.toInt := ar_add ez5859 (rfl : z5856.toInt = z5856.toInt) (rfl : z5858.toInt = z5858.toInt) (by omega) (by omega)
  have rz5859 : 0 ≤ z5859.toInt ∧ z5859.toInt ≤ 12 := by omega
  refine lv_istore (lv' := [(4, .int z5859), (0, .ref p0), (1, .ref p1), (2, .int p2), (3, .int p3)]) hx hb dX6_isMet_13 hl (by decide) rfl (fun ls hl => ?_)
  refine lv_aload_n hx hb dX6_isMet_15 rfl (lv_at hl 1 rfl) ?_
  refine t_get (C := RX1) (T := TX1) (N := 20) X hT m0 g0 rfl rfl 11 (by decide) qw_405 inlX1 rfl dX6_isMet_16 (fun v5860 hv5860 ov5860 => ?_)
  obtain ⟨b5861, rfl, mb5861, gb5861⟩ := okV_r ov5860
  have gb5861 : tag b5861 = 4 := by simpa using gb5861
  refine lv_iload_n hx hb dX6_isMet_19 rfl (lv_at hl 3 rfl) ?_
  refine t_ild X hT mb5861 gb5861 rfl (by omega) dX6_isMet_20 (fun z5862 vz5862 rz5862 => ?_)
  have rz5862 : 0 ≤ z5862.toInt ∧ z5862.toInt ≤ 11 := rz5862
  refine lv_aload_n hx hb dX6_isMet_21 rfl (lv_at hl 1 rfl) ?_
  refine t_get (C := RX1) (T := TX1) (N := 20) X hT m0 g0 rfl rfl 11 (by decide) qw_405 inlX1 rfl dX6_isMet_22 (fun v5863 hv5863 ov5863 => ?_)
  obtain rfl : v5863 = .ref b5861 := hv5863.symm.trans hv5860
  refine lv_iload_n hx hb dX6_isMet_25 rfl (lv_at hl 4 rfl) ?_
  refine t_ild X hT mb5861 gb5861 rfl (by omega) dX6_isMet_26 (fun z5864 vz5864 rz5864 => ?_)
  have rz5864 : 0 ≤ z5864.toInt ∧ z5864.toInt ≤ 11 := rz5864
  refine lv_isub hx hb dX6_isMet_27 ?_
  refine lv_topi (fun z5865 ez5865 => ?_)
  have hz5865 : z5865.toInt = z5862.toInt - z5864.toInt := ar_sub ez5865 (rfl : z5862.toInt = z5862.toInt) (rfl : z5864.toInt = z5864.toInt) (by omega) (by omega)
  have rz5865 : (-11) ≤ z5865.toInt ∧ z5865.toInt ≤ 11 := by omega
  refine t_mabs X hl qw_1200 qw_1201 qw_850 qw_1202 (Nat.le_of_ble_eq_true rfl) (Nat.le_of_ble_eq_true rfl) (Nat.le_of_ble_eq_true rfl) (Nat.le_of_ble_eq_true rfl) dX6_isMet_28 (fun z5866 ez5866 => ?_)
  have hz5866 := mabs_e ez5866 (rfl : z5865.toInt = z5865.toInt) (by omega)
  refine lv_istore (lv' := [(5, .int z5866), (4, .int z5859), (0, .ref p0), (1, .ref p1), (2, .int p2), (3, .int p3)]) hx hb dX6_isMet_31 hl (by decide) rfl (fun ls hl => ?_)
  refine lv_aload_n hx hb dX6_isMet_33 rfl (lv_at hl 2 rfl) ?_
  refine t_get (C := RX1) (T := TX1) (N := 20) X hT m0 g0 rfl rfl 12 (by decide) qw_406 inlX1 rfl dX6_isMet_34 (fun v5867 hv5867 ov5867 => ?_)
  obtain ⟨b5868, rfl, mb5868, gb5868⟩ := okV_r ov5867
  have gb5868 : tag b5868 = 4 := by simpa using gb5868
  refine lv_iload_n hx hb dX6_isMet_37 rfl (lv_at hl 4 rfl) ?_
  refine t_ild X hT mb5868 gb5868 rfl (by omega) dX6_isMet_38 (fun z5869 vz5869 rz5869 => ?_)
  have rz5869 : 0 ≤ z5869.toInt ∧ z5869.toInt ≤ 11 := rz5869
  refine lv_aload_n hx hb dX6_isMet_39 rfl (lv_at hl 2 rfl) ?_
  refine t_get (C := RX1) (T := TX1) (N := 20) X hT m0 g0 rfl rfl 12 (by decide) qw_406 inlX1 rfl dX6_isMet_40 (fun v5870 hv5870 ov5870 => ?_)
  obtain rfl : v5870 = .ref b5868 := hv5870.symm.trans hv5867
  refine lv_iload_n hx hb dX6_isMet_43 rfl (lv_at hl 5 rfl) ?_
  refine t_ild X hT mb5868 gb5868 rfl (by omega) dX6_isMet_44 (fun z5871 vz5871 rz5871 => ?_)
  have rz5871 : 0 ≤ z5871.toInt ∧ z5871.toInt ≤ 11 := rz5871
  refine lv_isub hx hb dX6_isMet_45 ?_
  refine lv_topi (fun z5872 ez5872 => ?_)
  have hz5872 : z5872.toInt = z5869.toInt - z5871.toInt := ar_sub ez5872 (rfl : z5869.toInt = z5869.toInt) (rfl : z5871.toInt = z5871.toInt) (by omega) (by omega)
  have rz5872 : (-11) ≤ z5872.toInt ∧ z5872.toInt ≤ 11 := by omega
  refine t_mabs X hl qw_1200 qw_1201 qw_850 qw_1202 (Nat.le_of_ble_eq_true rfl) (Nat.le_of_ble_eq_true rfl) (Nat.le_of_ble_eq_true rfl) (Nat.le_of_ble_eq_true rfl) dX6_isMet_46 (fun z5873 ez5873 => ?_)
  have hz5873 := mabs_e ez5873 (rfl : z5872.toInt = z5872.toInt) (by omega)
  refine lv_istore (lv' := [(6, .int z5873), (5, .int z5866), (4, .int z5859), (0, .ref p0), (1, .ref p1), (2, .int p2), (3, .int p3)]) hx hb dX6_isMet_49 hl (by decide) rfl (fun ls hl => ?_)
  refine lv_iload hx hb dX6_isMet_51 (lv_at hl 1 rfl) ?_
  refine lv_iload hx hb dX6_isMet_53 (lv_at hl 0 rfl) ?_
  refine t_mmax X hl qw_1203 qw_849 qw_850 qw_851 (Nat.le_of_ble_eq_true rfl) (Nat.le_of_ble_eq_true rfl) (Nat.le_of_ble_eq_true rfl) (Nat.le_of_ble_eq_true rfl) dX6_isMet_55 (fun z5874 ez5874 => ?_)
  have hz5874 := mmax_e ez5874 (rfl : z5866.toInt = z5866.toInt) (rfl : z5873.toInt = z5873.toInt)
  refine lv_iload hx hb dX6_isMet_58 (lv_at hl 2 rfl) ?_
  refine lv_iconst (v := 1) hx hb dX6_isMet_60 (by decide) ?_
  refine lv_iadd hx hb dX6_isMet_61 ?_
  refine lv_topi (fun z5875 ez5875 => ?_)
  have hz5875 : z5875.toInt = z5859.toInt + 1 := ar_add ez5875 (rfl : z5859.toInt = z5859.toInt) (by decide : (1 : Int32).toInt = 1) (by omega) (by omega)
  have rz5875 : 1 ≤ z5875.toInt ∧ z5875.toInt ≤ 13 := by omega
  refine lv_icmp_gt (tgt := 81) hx hb dX6_isMet_62 (by decide) (fun c5876 => ?_) (fun c5876 => ?_)
  · have w5877 := cv_lt (rfl : z5875.toInt = z5875.toInt) (rfl : z5874.toInt = z5874.toInt) c5876
    refine lv_iconst (v := 0) hx hb dX6_isMet_81 (by decide) ?_
    exact t_zret hQ X hT (by decide) (⟨rfl, (by decide)⟩) (Nat.le_of_ble_eq_true rfl) (Nat.le_of_ble_eq_true rfl) dX6_isMet_82
  · have w5878 := cv_nlt (rfl : z5875.toInt = z5875.toInt) (rfl : z5874.toInt = z5874.toInt) c5876
    refine lv_iload hx hb dX6_isMet_65 (lv_at hl 1 rfl) ?_
    refine lv_iload hx hb dX6_isMet_67 (lv_at hl 0 rfl) ?_
    refine t_mmin X hl qw_1204 qw_1018 qw_850 qw_1019 (Nat.le_of_ble_eq_true rfl) (Nat.le_of_ble_eq_true rfl) (Nat.le_of_ble_eq_true rfl) (Nat.le_of_ble_eq_true rfl) dX6_isMet_69 (fun z5879 ez5879 => ?_)
    have hz5879 := mmin_e ez5879 (rfl : z5866.toInt = z5866.toInt) (rfl : z5873.toInt = z5873.toInt)
    refine lv_iload hx hb dX6_isMet_72 (lv_at hl 2 rfl) ?_
    refine lv_icmp_gt (tgt := 81) hx hb dX6_isMet_74 (by decide) (fun c5880 => ?_) (fun c5880 => ?_)
    · have w5881 := cv_lt (rfl : z5859.toInt = z5859.toInt) (rfl : z5879.toInt = z5879.toInt) c5880
      refine lv_iconst (v := 0) hx hb dX6_isMet_81 (by decide) ?_
      exact t_zret hQ X hT (by decide) (⟨rfl, (by decide)⟩) (Nat.le_of_ble_eq_true rfl) (Nat.le_of_ble_eq_true rfl) dX6_isMet_82
    · have w5882 := cv_nlt (rfl : z5859.toInt = z5859.toInt) (rfl : z5879.toInt = z5879.toInt) c5880
      refine lv_iconst (v := 1) hx hb dX6_isMet_77 (by decide) ?_
      refine lv_goto (tgt := 82) hx hb dX6_isMet_78 (by decide) ?_
      exact t_zret hQ X hT (by decide) (⟨rfl, (by decide)⟩) (Nat.le_of_ble_eq_true rfl) (Nat.le_of_ble_eq_true rfl) dX6_isMet_82
