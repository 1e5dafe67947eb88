set_option maxHeartbeats 4000000 in
set_option maxRecDepth 100000 in
theorem kt12_X1_apart (l : Launch) (G : KG) (tag : Nat → Nat) (L : List Nat) (F : Nat → va_E) (ho : okT G ttC tag L F) (p0 : Nat) (p1 : Int32) (p2 : Int32) (p3 : Int32) (m0 : p0 ∈ L) (g0 : tag p0 = 18) (h1 : 0 ≤ p1.toInt ∧ p1.toInt ≤ 3) : TMi l yX1_apart cX1_apart 6 (some .int) { frames := 0, cells := 0, slots := 0, locals := 0 } G ttC tag L F [.ref p0, .int p1, .int p2, .int p3] (fun r F1 => F1 = F ∧ ((-2147483648) ≤ r.toInt ∧ r.toInt ≤ 2147483647)) := by
  refine t_bodyi (y := yX1_apart) (cd := cX1_apart) (mL := 6) (rt := (some .int)) (rm := { frames := 0, cells := 0, slots := 0, locals := 0 }) (av := [.ref p0, .int p1, .int p2, .int p3]) (by decide) (Nat.le_of_ble_eq_true rfl) ho ?_
  intro p e s m args below meth c ls A Q hQ X hT hl
  have hx := X.1.1
  have hb := X.1.2.1
  have hl : lv_has ls 6 [(0, .ref p0), (1, .int p1), (2, .int p2), (3, .int p3)] := hl
  have rp2 := rg_all p2
  have rp3 := rg_all p3
  have K60 : ∀ (z2986 : Int32) (z2987 : Int32) (H : Heap) (locs : List Loc) (ls : Array Slot), TH G ttC A s tag L F H locs → lv_has ls 6 [(0, .ref p0), (1, .int p1), (2, .int p2), (3, .int p3), (4, .int z2986)] → W p l e { frames := 0, cells := 0, slots := 0, locals := 0 } s m args below meth c H locs 0 0 Q (F0 m 60 ls [.int z2987]) := by
    intro z2986 z2987 H locs ls hT hl
    have rz2986 := rg_all z2986
    have rz2987 := rg_all z2987
    refine lv_istore (lv' := [(5, .int z2987), (0, .ref p0), (1, .int p1), (2, .int p2), (3, .int p3), (4, .int z2986)]) hx hb dX1_apart_60 hl (by decide) rfl (fun ls hl => ?_)
    refine lv_iload hx hb dX1_apart_62 (lv_at hl 5 rfl) ?_
    refine lv_iload hx hb dX1_apart_64 (lv_at hl 0 rfl) ?_
    refine lv_icmp_ge (tgt := 74) hx hb dX1_apart_66 (by decide) (fun c2988 => ?_) (fun c2988 => ?_)
    · have w2989 := cv_le (rfl : z2987.toInt = z2987.toInt) (rfl : z2986.toInt = z2986.toInt) c2988
      refine lv_iload hx hb dX1_apart_74 (lv_at hl 5 rfl) ?_
      exact t_iret hQ X hT (⟨rfl, rg_all _⟩) (Nat.le_of_ble_eq_true rfl) (Nat.le_of_ble_eq_true rfl) dX1_apart_76
    · have w2990 := cv_nle (rfl : z2987.toInt = z2987.toInt) (rfl : z2986.toInt = z2986.toInt) c2988
      refine lv_iload hx hb dX1_apart_69 (lv_at hl 0 rfl) ?_
      refine lv_goto (tgt := 76) hx hb dX1_apart_71 (by decide) ?_
      exact t_iret hQ X hT (⟨rfl, rg_all _⟩) (Nat.le_of_ble_eq_true rfl) (Nat.le_of_ble_eq_true rfl) dX1_apart_76
  have K29 : ∀ (z2991 : Int32) (H : Heap) (locs : List Loc) (ls : Array Slot), TH G ttC A s tag L F H locs → lv_has ls 6 [(0, .ref p0), (1, .int p1), (2, .int p2), (3, .int p3)] → W p l e { frames := 0, cells := 0, slots := 0, locals := 0 } s m args below meth c H locs 0 0 Q (F0 m 29 ls [.int z2991]) := by
    intro z2991 H locs ls hT hl
    have rz2991 := rg_all z2991
    refine lv_istore (lv' := [(4, .int z2991), (0, .ref p0), (1, .int p1), (2, .int p2), (3, .int p3)]) hx hb dX1_apart_29 hl (by decide) rfl (fun ls hl => ?_)
    refine lv_iload_n hx hb dX1_apart_31 rfl (lv_at hl 4 rfl) ?_
    refine lv_aload_n hx hb dX1_apart_32 rfl (lv_at hl 1 rfl) ?_
    refine t_get (C := RX1) (T := TX1) (N := 20) X hT m0 g0 rfl rfl 12 (by decide) qw_53 inlX1 rfl dX1_apart_33 (fun v2992 hv2992 ov2992 => ?_)
    obtain ⟨b2993, rfl, mb2993, gb2993⟩ := okV_r ov2992
    have gb2993 : tag b2993 = 4 := tg_of gb2993
    refine lv_iload_n hx hb dX1_apart_36 rfl (lv_at hl 2 rfl) ?_
    refine t_ild X hT mb2993 gb2993 rfl (by omega) dX1_apart_37 (fun z2994 vz2994 rz2994 => ?_)
    have rz2994 : 0 ≤ z2994.toInt ∧ z2994.toInt ≤ 11 := rz2994
    refine lv_icmp_ge (tgt := 52) hx hb dX1_apart_38 (by decide) (fun c2995 => ?_) (fun c2995 => ?_)
    · have w2996 := cv_le (rfl : z2994.toInt = z2994.toInt) (rfl : p3.toInt = p3.toInt) c2995
      refine lv_iload_n hx hb dX1_apart_52 rfl (lv_at hl 4 rfl) ?_
      refine lv_aload_n hx hb dX1_apart_53 rfl (lv_at hl 1 rfl) ?_
      refine t_get (C := RX1) (T := TX1) (N := 20) X hT m0 g0 rfl rfl 12 (by decide) qw_53 inlX1 rfl dX1_apart_54 (fun v2997 hv2997 ov2997 => ?_)
      obtain rfl : v2997 = .ref b2993 := hv2997.symm.trans hv2992
      refine lv_iload_n hx hb dX1_apart_57 rfl (lv_at hl 2 rfl) ?_
      refine t_ild X hT mb2993 gb2993 rfl (by omega) dX1_apart_58 (fun z2998 vz2998 rz2998 => ?_)
      obtain rfl : z2994 = z2998 := vz2994.symm.trans vz2998
      refine lv_isub hx hb dX1_apart_59 ?_
      refine lv_topi (fun z2999 ez2999 => ?_)
      have hz2999 : z2999.toInt = p3.toInt - z2994.toInt := ar_sub ez2999 (rfl : p3.toInt = p3.toInt) (rfl : z2994.toInt = z2994.toInt) (by omega) (by omega)
      have rz2999 : (-11) ≤ z2999.toInt ∧ z2999.toInt ≤ 2147483647 := by omega
      exact K60 z2991 z2999 _ _ _  hT  (lv_sub hl [1, 2, 3, 4, 0] rfl)
    · have w3000 := cv_nle (rfl : z2994.toInt = z2994.toInt) (rfl : p3.toInt = p3.toInt) c2995
      refine lv_aload_n hx hb dX1_apart_41 rfl (lv_at hl 1 rfl) ?_
      refine t_get (C := RX1) (T := TX1) (N := 20) X hT m0 g0 rfl rfl 12 (by decide) qw_53 inlX1 rfl dX1_apart_42 (fun v3001 hv3001 ov3001 => ?_)
      obtain rfl : v3001 = .ref b2993 := hv3001.symm.trans hv2992
      refine lv_iload_n hx hb dX1_apart_45 rfl (lv_at hl 2 rfl) ?_
      refine t_ild X hT mb2993 gb2993 rfl (by omega) dX1_apart_46 (fun z3002 vz3002 rz3002 => ?_)
      obtain rfl : z2994 = z3002 := vz2994.symm.trans vz3002
      refine lv_iload_n hx hb dX1_apart_47 rfl (lv_at hl 4 rfl) ?_
      refine lv_isub hx hb dX1_apart_48 ?_
      refine lv_topi (fun z3003 ez3003 => ?_)
      have rz3003 := rg_all z3003
      refine lv_goto (tgt := 60) hx hb dX1_apart_49 (by decide) ?_
      exact K60 z2991 z3003 _ _ _  hT  (lv_sub hl [1, 2, 3, 4, 0] rfl)
  refine lv_iload_n hx hb dX1_apart_0 rfl (lv_at hl 2 rfl) ?_
  refine lv_aload_n hx hb dX1_apart_1 rfl (lv_at hl 0 rfl) ?_
  refine t_get (C := RX1) (T := TX1) (N := 20) X hT m0 g0 rfl rfl 11 (by decide) qw_52 inlX1 rfl dX1_apart_2 (fun v3004 hv3004 ov3004 => ?_)
  obtain ⟨b3005, rfl, mb3005, gb3005⟩ := okV_r ov3004
  have gb3005 : tag b3005 = 4 := tg_of gb3005
  refine lv_iload_n hx hb dX1_apart_5 rfl (lv_at hl 1 rfl) ?_
  refine t_ild X hT mb3005 gb3005 rfl (by omega) dX1_apart_6 (fun z3006 vz3006 rz3006 => ?_)
  have rz3006 : 0 ≤ z3006.toInt ∧ z3006.toInt ≤ 11 := rz3006
  refine lv_icmp_ge (tgt := 21) hx hb dX1_apart_7 (by decide) (fun c3007 => ?_) (fun c3007 => ?_)
  · have w3008 := cv_le (rfl : z3006.toInt = z3006.toInt) (rfl : p2.toInt = p2.toInt) c3007
    refine lv_iload_n hx hb dX1_apart_21 rfl (lv_at hl 2 rfl) ?_
    refine lv_aload_n hx hb dX1_apart_22 rfl (lv_at hl 0 rfl) ?_
    refine t_get (C := RX1) (T := TX1) (N := 20) X hT m0 g0 rfl rfl 11 (by decide) qw_52 inlX1 rfl dX1_apart_23 (fun v3009 hv3009 ov3009 => ?_)
    obtain rfl : v3009 = .ref b3005 := hv3009.symm.trans hv3004
    refine lv_iload_n hx hb dX1_apart_26 rfl (lv_at hl 1 rfl) ?_
    refine t_ild X hT mb3005 gb3005 rfl (by omega) dX1_apart_27 (fun z3010 vz3010 rz3010 => ?_)
    obtain rfl : z3006 = z3010 := vz3006.symm.trans vz3010
    refine lv_isub hx hb dX1_apart_28 ?_
    refine lv_topi (fun z3011 ez3011 => ?_)
    have hz3011 : z3011.toInt = p2.toInt - z3006.toInt := ar_sub ez3011 (rfl : p2.toInt = p2.toInt) (rfl : z3006.toInt = z3006.toInt) (by omega) (by omega)
    have rz3011 : (-11) ≤ z3011.toInt ∧ z3011.toInt ≤ 2147483647 := by omega
    exact K29 z3011 _ _ _  hT  (lv_sub hl [0, 1, 2, 3] rfl)
  · have w3012 := cv_nle (rfl : z3006.toInt = z3006.toInt) (rfl : p2.toInt = p2.toInt) c3007
    refine lv_aload_n hx hb dX1_apart_10 rfl (lv_at hl 0 rfl) ?_
    refine t_get (C := RX1) (T := TX1) (N := 20) X hT m0 g0 rfl rfl 11 (by decide) qw_52 inlX1 rfl dX1_apart_11 (fun v3013 hv3013 ov3013 => ?_)
    obtain rfl : v3013 = .ref b3005 := hv3013.symm.trans hv3004
    refine lv_iload_n hx hb dX1_apart_14 rfl (lv_at hl 1 rfl) ?_
    refine t_ild X hT mb3005 gb3005 rfl (by omega) dX1_apart_15 (fun z3014 vz3014 rz3014 => ?_)
    obtain rfl : z3006 = z3014 := vz3006.symm.trans vz3014
    refine lv_iload_n hx hb dX1_apart_16 rfl (lv_at hl 2 rfl) ?_
    refine lv_isub hx hb dX1_apart_17 ?_
    refine lv_topi (fun z3015 ez3015 => ?_)
    have rz3015 := rg_all z3015
    refine lv_goto (tgt := 29) hx hb dX1_apart_18 (by decide) ?_
    exact K29 z3015 _ _ _  hT  (lv_sub hl [0, 1, 2, 3] rfl)
set_option maxHeartbeats 4000000 in
set_option maxRecDepth 100000 in
theorem kt13_X1_isTold (l : Launch) (G : KG) (tag : Nat → Nat) (L : List Nat) (F : Nat → va_E) (ho : okT G ttC tag L F) (p0 : Nat) (p1 : Int32) (p2 : Int32) (m0 : p0 ∈ L) (g0 : tag p0 = 18) (h1 : 0 ≤ p1.toInt ∧ p1.toInt ≤ 5) (h2 : 0 ≤ p2.toInt ∧ p2.toInt ≤ 5) : TMi l yX1_isTold cX1_isTold 3 (some .boolean) { frames := 0, cells := 0, slots := 0, locals := 0 } G ttC tag L F [.ref p0, .int p1, .int p2] (fun r F1 => F1 = F ∧ (0 ≤ r.toInt ∧ r.toInt ≤ 1)) := by
  refine t_bodyi (y := yX1_isTold) (cd := cX1_isTold) (mL := 3) (rt := (some .boolean)) (rm := { frames := 0, cells := 0, slots := 0, locals := 0 }) (av := [.ref p0, .int p1, .int p2]) (by decide) (Nat.le_of_ble_eq_true rfl) ho ?_
  intro p e s m args below meth c ls A Q hQ X hT hl
  have hx := X.1.1
  have hb := X.1.2.1
  have hl : lv_has ls 3 [(0, .ref p0), (1, .int p1), (2, .int p2)] := hl
  have K28 : ∀  (H : Heap) (locs : List Loc) (ls : Array Slot), TH G ttC A s tag L F H locs → lv_has ls 3 [(0, .ref p0), (1, .int p1), (2, .int p2)] → W p l e { frames := 0, cells := 0, slots := 0, locals := 0 } s m args below meth c H locs 0 0 Q (F0 m 28 ls []) := by
    intro H locs ls hT hl
    refine lv_iconst (v := 1) hx hb dX1_isTold_28 (by decide) ?_
    refine lv_goto (tgt := 33) hx hb dX1_isTold_29 (by decide) ?_
    exact t_zret hQ X hT (by decide) (⟨rfl, (by decide)⟩) (Nat.le_of_ble_eq_true rfl) (Nat.le_of_ble_eq_true rfl) dX1_isTold_33
  refine lv_aload_n hx hb dX1_isTold_0 rfl (lv_at hl 0 rfl) ?_
  refine t_get (C := RX1) (T := TX1) (N := 20) X hT m0 g0 rfl rfl 17 (by decide) qw_56 inlX1 rfl dX1_isTold_1 (fun v3192 hv3192 ov3192 => ?_)
  obtain ⟨b3193, rfl, mb3193, gb3193⟩ := okV_r ov3192
  have gb3193 : tag b3193 = 7 := tg_of gb3193
  refine lv_iload_n hx hb dX1_isTold_4 rfl (lv_at hl 2 rfl) ?_
  refine t_ild X hT mb3193 gb3193 rfl (by omega) dX1_isTold_5 (fun z3194 vz3194 rz3194 => ?_)
  have rz3194 : (-2147483648) ≤ z3194.toInt ∧ z3194.toInt ≤ 2147483647 := rz3194
  refine lv_iload_n hx hb dX1_isTold_6 rfl (lv_at hl 1 rfl) ?_
  refine lv_ishr hx hb dX1_isTold_7 ?_
  refine lv_topi (fun z3195 ez3195 => ?_)
  have rz3195 := rg_all z3195
  refine lv_iconst (v := 1) hx hb dX1_isTold_8 (by decide) ?_
  refine lv_iand hx hb dX1_isTold_9 ?_
  refine lv_topi (fun z3196 ez3196 => ?_)
  have rz3196 : 0 ≤ z3196.toInt ∧ z3196.toInt ≤ 1 := ar_and ez3196 1 (by decide) (by decide)
  refine lv_iconst (v := 1) hx hb dX1_isTold_10 (by decide) ?_
  refine lv_icmp_eq (tgt := 28) hx hb dX1_isTold_11 (by decide) (fun c3197 => ?_) (fun c3197 => ?_)
  · have w3198 := cv_eq (rfl : z3196.toInt = z3196.toInt) (by decide : (1 : Int32).toInt = 1) c3197
    exact K28  _ _ _  hT  (lv_sub hl [0, 1, 2] rfl)
  · have w3199 := cv_ne (rfl : z3196.toInt = z3196.toInt) (by decide : (1 : Int32).toInt = 1) c3197
    refine lv_aload_n hx hb dX1_isTold_14 rfl (lv_at hl 0 rfl) ?_
    refine t_get (C := RX1) (T := TX1) (N := 20) X hT m0 g0 rfl rfl 17 (by decide) qw_56 inlX1 rfl dX1_isTold_15 (fun v3200 hv3200 ov3200 => ?_)
    obtain rfl : v3200 = .ref b3193 := hv3200.symm.trans hv3192
    refine lv_iload_n hx hb dX1_isTold_18 rfl (lv_at hl 1 rfl) ?_
    refine t_ild X hT mb3193 gb3193 rfl (by omega) dX1_isTold_19 (fun z3201 vz3201 rz3201 => ?_)
    have rz3201 : (-2147483648) ≤ z3201.toInt ∧ z3201.toInt ≤ 2147483647 := rz3201
    refine lv_iload_n hx hb dX1_isTold_20 rfl (lv_at hl 2 rfl) ?_
    refine lv_ishr hx hb dX1_isTold_21 ?_
    refine lv_topi (fun z3202 ez3202 => ?_)
    have rz3202 := rg_all z3202
    refine lv_iconst (v := 1) hx hb dX1_isTold_22 (by decide) ?_
    refine lv_iand hx hb dX1_isTold_23 ?_
    refine lv_topi (fun z3203 ez3203 => ?_)
    have rz3203 : 0 ≤ z3203.toInt ∧ z3203.toInt ≤ 1 := ar_and ez3203 1 (by decide) (by decide)
    refine lv_iconst (v := 1) hx hb dX1_isTold_24 (by decide) ?_
    refine lv_icmp_ne (tgt := 32) hx hb dX1_isTold_25 (by decide) (fun c3204 => ?_) (fun c3204 => ?_)
    · have w3205 := cv_ne (rfl : z3203.toInt = z3203.toInt) (by decide : (1 : Int32).toInt = 1) c3204
      refine lv_iconst (v := 0) hx hb dX1_isTold_32 (by decide) ?_
      exact t_zret hQ X hT (by decide) (⟨rfl, (by decide)⟩) (Nat.le_of_ble_eq_true rfl) (Nat.le_of_ble_eq_true rfl) dX1_isTold_33
    · have w3206 := cv_eq (rfl : z3203.toInt = z3203.toInt) (by decide : (1 : Int32).toInt = 1) c3204
      exact K28  _ _ _  hT  (lv_sub hl [0, 1, 2] rfl)
set_option maxHeartbeats 4000000 in
set_option maxRecDepth 100000 in
theorem kt14_X7_clear (l : Launch) (G : KG) (tag : Nat → Nat) (L : List Nat) (Fo : Nat → va_E) (ho : okT G ttC tag L Fo) (p0 : Nat) (m0 : p0 ∈ L) (g0 : tag p0 = 19) : TMv l yX7_clear cX7_clear 2 { frames := 0, cells := 0, slots := 0, locals := 0 } G ttC tag L Fo [.ref p0] (fun F1 => ((∀ b j : Nat, (tag b ≠ 19 ∨ j ≠ 0) → (tag b ≠ 19 ∨ j ≠ 1) → fld F1 b j = fld Fo b j) ∧ EF tag F1 Fo)) := by
  refine t_bodyv (y := yX7_clear) (cd := cX7_clear) (mL := 2) (rm := { frames := 0, cells := 0, slots := 0, locals := 0 }) (av := [.ref p0]) (by decide) (Nat.le_of_ble_eq_true rfl) ho ?_
  intro p e s m args below meth c ls A Q hQ X hT hl
  have hx := X.1.1
  have hb := X.1.2.1
  have hl : lv_has ls 2 [(0, .ref p0)] := hl
  obtain ⟨F, hFo⟩ : ∃ F : Nat → va_E, F = Fo := ⟨_, rfl⟩
  rw [← hFo] at hT
  have hfr : (∀ b j : Nat, (tag b ≠ 19 ∨ j ≠ 0) → (tag b ≠ 19 ∨ j ≠ 1) → fld F b j = fld Fo b j) ∧ EF tag F Fo := by
    rw [hFo]
    exact ⟨by intros; rfl, fun _ _ _ => rfl⟩
  have K12 : ∀ (n : Nat) (z3349 : Int32) (z3350 : Int32) (z3351 : Int32) (F : Nat → va_E) (H : Heap) (locs : List Loc) (ls : Array Slot), (4 - z3349.toInt < (n : Int)) → (0 ≤ z3349.toInt ∧ z3349.toInt ≤ 4) → (0 ≤ z3350.toInt ∧ z3350.toInt ≤ 0) → (0 ≤ z3351.toInt ∧ z3351.toInt ≤ 0) → TH G ttC A s tag L F H locs → ((∀ b j : Nat, (tag b ≠ 19 ∨ j ≠ 0) → (tag b ≠ 19 ∨ j ≠ 1) → fld F b j = fld Fo b j) ∧ EF tag F Fo) → fld F p0 0 = .int z3350 → fld F p0 1 = .int z3351 → lv_has ls 2 [(0, .ref p0), (1, .int z3349)] → W p l e { frames := 0, cells := 0, slots := 0, locals := 0 } s m args below meth c H locs 0 0 Q (F0 m 12 ls []) := by
    intro n
    induction n with
    | zero =>
      intro z3349 z3350 z3351 F H locs ls hn rz3349 rz3350 rz3351 hT hfr qz3350 qz3351 hl
      exfalso
      omega
    | succ n ih12 =>
      intro z3349 z3350 z3351 F H locs ls hn rz3349 rz3350 rz3351 hT hfr qz3350 qz3351 hl
      refine lv_iload_n hx hb dX7_clear_12 rfl (lv_at hl 1 rfl) ?_
      refine lv_iconst (v := 4) hx hb dX7_clear_13 (by decide) ?_
      refine lv_icmp_ge (tgt := 30) hx hb dX7_clear_14 (by decide) (fun c3352 => ?_) (fun c3352 => ?_)
      · have w3353 := cv_le (by decide : (4 : Int32).toInt = 4) (rfl : z3349.toInt = z3349.toInt) c3352
        exact t_vret hQ X hT hfr (Nat.le_of_ble_eq_true rfl) (Nat.le_of_ble_eq_true rfl) dX7_clear_30
      · have w3354 := cv_nle (by decide : (4 : Int32).toInt = 4) (rfl : z3349.toInt = z3349.toInt) c3352
        refine lv_aload_n hx hb dX7_clear_17 rfl (lv_at hl 0 rfl) ?_
        refine t_get (C := RX7) (T := TX7) (N := 7) X hT m0 g0 rfl rfl 2 (by decide) qw_62 inlX7 rfl dX7_clear_18 (fun v3355 hv3355 ov3355 => ?_)
        obtain ⟨b3356, rfl, mb3356, gb3356⟩ := okV_r ov3355
        have gb3356 : tag b3356 = 8 := tg_of gb3356
        refine lv_iload_n hx hb dX7_clear_21 rfl (lv_at hl 1 rfl) ?_
        refine lv_iconst (v := 0) hx hb dX7_clear_22 (by decide) ?_
        refine t_ist X hT mb3356 gb3356 rfl (by omega) (show 0 ≤ (0 : Int32).toInt ∧ (0 : Int32).toInt ≤ 6 from (by decide)) dX7_clear_23 (fun F H locs hT v3357 h1v3357 h2v3357 => ?_)
        have qz3350 := (h2v3357 _ _).trans qz3350
        have qz3351 := (h2v3357 _ _).trans qz3351
        have hv3355 := (h2v3357 _ _).trans hv3355
        have hfr : (∀ b j : Nat, (tag b ≠ 19 ∨ j ≠ 0) → (tag b ≠ 19 ∨ j ≠ 1) → fld F b j = fld Fo b j) ∧ EF tag F Fo := ⟨fun b j n19_0 n19_1 => (h2v3357 b j).trans (hfr.1 b j n19_0 n19_1), fun b j hb => (h1v3357 b j (Or.inl (ns_ne hb gb3356 (by decide)))).trans (hfr.2 b j hb)⟩
        obtain ⟨z3358, ez3358⟩ : ∃ y : Int32, y = z3349 + 1 := ⟨_, rfl⟩
        have hz3358 : z3358.toInt = z3349.toInt + 1 := ar_add ez3358 rfl (by decide : (1 : Int32).toInt = 1) (by omega) (by omega)
        refine lv_iinc (v := z3358) (lv' := [(1, .int z3358), (0, .ref p0)]) hx hb dX7_clear_24 hl (k := 1) rfl (by rw [ez3358]; rfl) (by decide) rfl (fun ls hl => ?_)
        refine lv_goto (tgt := 12) hx hb dX7_clear_27 (by decide) ?_
        exact ih12 z3358 z3350 z3351 _ _ _ _ (by omega) (by omega) (by omega) (by omega) hT hfr qz3350 qz3351 (lv_sub hl [1, 0] rfl)
  refine lv_aload_n hx hb dX7_clear_0 rfl (lv_at hl 0 rfl) ?_
  refine lv_iconst (v := 0) hx hb dX7_clear_1 (by decide) ?_
  refine t_put (C := RX7) (T := TX7) (N := 7) (v := .int 0) X hT m0 g0 rfl tyX7 tyX7_ok nmX7 rfl 0 (by decide) qw_187 inlX7 rfl (by first | rfl | decide) (by first | rfl | decide) rfl (⟨_, rfl, (show (-2147483648) ≤ (0 : Int32).toInt from (by decide)), (show (0 : Int32).toInt ≤ 2147483647 from (by decide))⟩) dX7_clear_2 (fun F H locs hT v3359 h1v3359 h2v3359 => ?_)
  have hfr : (∀ b j : Nat, (tag b ≠ 19 ∨ j ≠ 0) → (tag b ≠ 19 ∨ j ≠ 1) → fld F b j = fld Fo b j) ∧ EF tag F Fo := ⟨fun b j n19_0 n19_1 => (h1v3359 b j (fr_ne g0 n19_0)).trans (hfr.1 b j n19_0 n19_1), fun b j hb => (h2v3359 b j).trans (hfr.2 b j hb)⟩
  refine lv_aload_n hx hb dX7_clear_5 rfl (lv_at hl 0 rfl) ?_
  refine lv_iconst (v := 0) hx hb dX7_clear_6 (by decide) ?_
  refine t_put (C := RX7) (T := TX7) (N := 7) (v := .int 0) X hT m0 g0 rfl tyX7 tyX7_ok nmX7 rfl 1 (by decide) qw_188 inlX7 rfl (by first | rfl | decide) (by first | rfl | decide) rfl (⟨_, rfl, (show (-2147483648) ≤ (0 : Int32).toInt from (by decide)), (show (0 : Int32).toInt ≤ 2147483647 from (by decide))⟩) dX7_clear_7 (fun F H locs hT v3360 h1v3360 h2v3360 => ?_)
  have v3359 := (h1v3360 _ _ (Or.inr (by decide))).trans v3359
  have hfr : (∀ b j : Nat, (tag b ≠ 19 ∨ j ≠ 0) → (tag b ≠ 19 ∨ j ≠ 1) → fld F b j = fld Fo b j) ∧ EF tag F Fo := ⟨fun b j n19_0 n19_1 => (h1v3360 b j (fr_ne g0 n19_1)).trans (hfr.1 b j n19_0 n19_1), fun b j hb => (h2v3360 b j).trans (hfr.2 b j hb)⟩
  refine lv_iconst (v := 0) hx hb dX7_clear_10 (by decide) ?_
  refine lv_istore_n (lv' := [(1, .int 0), (0, .ref p0)]) hx hb dX7_clear_11 rfl hl (by decide) rfl (fun ls hl => ?_)
  have kk3361 : (0 : Int32).toInt = 0 := by decide
  exact K12 5 0 0 0 _ _ _ _ (by omega) (by decide) (by decide) (by decide) hT hfr v3359 v3360 (lv_sub hl [1, 0] rfl)
set_option maxHeartbeats 4000000 in
set_option maxRecDepth 100000 in
theorem kt15_X7_partOf (l : Launch) (G : KG) (tag : Nat → Nat) (L : List Nat) (F : Nat → va_E) (ho : okT G ttC tag L F) (p0 : Nat) (p1 : Int32) (p2 : Int32) (p3 : Int32) (m0 : p0 ∈ L) (g0 : tag p0 = 19) : TMi l yX7_partOf cX7_partOf 5 (some .int) { frames := 0, cells := 0, slots := 0, locals := 0 } G ttC tag L F [.ref p0, .int p1, .int p2, .int p3] (fun r F1 => F1 = F ∧ ((-2147483648) ≤ r.toInt ∧ r.toInt ≤ 2147483647)) := by
  refine t_bodyi (y := yX7_partOf) (cd := cX7_partOf) (mL := 5) (rt := (some .int)) (rm := { frames := 0, cells := 0, slots := 0, locals := 0 }) (av := [.ref p0, .int p1, .int p2, .int p3]) (by decide) (Nat.le_of_ble_eq_true rfl) ho ?_
  intro p e s m args below meth c ls A Q hQ X hT hl
  have hx := X.1.1
  have hb := X.1.2.1
  have hl : lv_has ls 5 [(0, .ref p0), (1, .int p1), (2, .int p2), (3, .int p3)] := hl
  have rp1 := rg_all p1
  have rp2 := rg_all p2
  have rp3 := rg_all p3
  refine lv_iload_n hx hb dX7_partOf_0 rfl (lv_at hl 1 rfl) ?_
  refine lv_bipush (v := 6) hx hb dX7_partOf_1 (by decide) ?_
  refine lv_imul hx hb dX7_partOf_3 ?_
  refine lv_topi (fun z3538 ez3538 => ?_)
  have rz3538 := rg_all z3538
  refine lv_iload_n hx hb dX7_partOf_4 rfl (lv_at hl 2 rfl) ?_
  refine lv_iadd hx hb dX7_partOf_5 ?_
  refine lv_topi (fun z3539 ez3539 => ?_)
  have rz3539 := rg_all z3539
  refine lv_iconst (v := 1) hx hb dX7_partOf_6 (by decide) ?_
  refine lv_isub hx hb dX7_partOf_7 ?_
  refine lv_topi (fun z3540 ez3540 => ?_)
  have rz3540 := rg_all z3540
  refine lv_bipush (v := 8) hx hb dX7_partOf_8 (by decide) ?_
  refine lv_imul hx hb dX7_partOf_10 ?_
  refine lv_topi (fun z3541 ez3541 => ?_)
  have rz3541 := rg_all z3541
  refine lv_iload_n hx hb dX7_partOf_11 rfl (lv_at hl 3 rfl) ?_
  refine lv_iadd hx hb dX7_partOf_12 ?_
  refine lv_topi (fun z3542 ez3542 => ?_)
  have rz3542 := rg_all z3542
  refine lv_istore (lv' := [(4, .int z3542), (0, .ref p0), (1, .int p1), (2, .int p2), (3, .int p3)]) hx hb dX7_partOf_13 hl (by decide) rfl (fun ls hl => ?_)
  refine lv_iload hx hb dX7_partOf_15 (lv_at hl 0 rfl) ?_
  refine lv_if_lt (tgt := 40) hx hb dX7_partOf_17 (by decide) (fun c3543 => ?_) (fun c3543 => ?_)
  · have w3544 := cv_lt (rfl : z3542.toInt = z3542.toInt) (by decide : (0 : Int32).toInt = 0) c3543
    refine lv_iconst (v := 0) hx hb dX7_partOf_40 (by decide) ?_
    exact t_iret hQ X hT (⟨rfl, rg_all _⟩) (Nat.le_of_ble_eq_true rfl) (Nat.le_of_ble_eq_true rfl) dX7_partOf_41
  · have w3545 := cv_nlt (rfl : z3542.toInt = z3542.toInt) (by decide : (0 : Int32).toInt = 0) c3543
    refine lv_iload hx hb dX7_partOf_20 (lv_at hl 0 rfl) ?_
    refine lv_aload_n hx hb dX7_partOf_22 rfl (lv_at hl 1 rfl) ?_
    refine t_get (C := RX7) (T := TX7) (N := 7) X hT m0 g0 rfl rfl 6 (by decide) qw_66 inlX7 rfl dX7_partOf_23 (fun v3546 hv3546 ov3546 => ?_)
    obtain ⟨b3547, rfl, mb3547, gb3547⟩ := okV_r ov3546
    have gb3547 : tag b3547 = 9 := tg_of gb3547
    refine t_alen X hT mb3547 gb3547 rfl (by decide) dX7_partOf_26 ?_
    refine lv_topi (fun z3548 ez3548 => ?_)
    obtain rfl : z3548 = 192 := ez3548.trans (by rfl)
    refine lv_icmp_ge (tgt := 40) hx hb dX7_partOf_27 (by decide) (fun c3549 => ?_) (fun c3549 => ?_)
    · have w3550 := cv_le (by decide : (192 : Int32).toInt = 192) (rfl : z3542.toInt = z3542.toInt) c3549
      refine lv_iconst (v := 0) hx hb dX7_partOf_40 (by decide) ?_
      exact t_iret hQ X hT (⟨rfl, rg_all _⟩) (Nat.le_of_ble_eq_true rfl) (Nat.le_of_ble_eq_true rfl) dX7_partOf_41
    · have w3551 := cv_nle (by decide : (192 : Int32).toInt = 192) (rfl : z3542.toInt = z3542.toInt) c3549
      refine lv_aload_n hx hb dX7_partOf_30 rfl (lv_at hl 1 rfl) ?_
      refine t_get (C := RX7) (T := TX7) (N := 7) X hT m0 g0 rfl rfl 6 (by decide) qw_66 inlX7 rfl dX7_partOf_31 (fun v3552 hv3552 ov3552 => ?_)
      obtain rfl : v3552 = .ref b3547 := hv3552.symm.trans hv3546
      refine lv_iload hx hb dX7_partOf_34 (lv_at hl 0 rfl) ?_
      refine t_ild X hT mb3547 gb3547 rfl (by omega) dX7_partOf_36 (fun z3553 vz3553 rz3553 => ?_)
      have rz3553 : (-2147483648) ≤ z3553.toInt ∧ z3553.toInt ≤ 2147483647 := rz3553
      refine lv_goto (tgt := 41) hx hb dX7_partOf_37 (by decide) ?_
      exact t_iret hQ X hT (⟨rfl, rg_all _⟩) (Nat.le_of_ble_eq_true rfl) (Nat.le_of_ble_eq_true rfl) dX7_partOf_41
set_option maxHeartbeats 4000000 in
set_option maxRecDepth 100000 in
theorem kt16_X7_setPart (l : Launch) (G : KG) (tag : Nat → Nat) (L : List Nat) (Fo : Nat → va_E) (ho : okT G ttC tag L Fo) (p0 : Nat) (p1 : Int32) (p2 : Int32) (p3 : Int32) (p4 : Int32) (m0 : p0 ∈ L) (g0 : tag p0 = 19) : TMv l yX7_setPart cX7_setPart 6 { frames := 0, cells := 0, slots := 0, locals := 0 } G ttC tag L Fo [.ref p0, .int p1, .int p2, .int p3, .int p4] (fun F1 => ((∀ b j : Nat, fld F1 b j = fld Fo b j) ∧ EF tag F1 Fo)) := by
  refine t_bodyv (y := yX7_setPart) (cd := cX7_setPart) (mL := 6) (rm := { frames := 0, cells := 0, slots := 0, locals := 0 }) (av := [.ref p0, .int p1, .int p2, .int p3, .int p4]) (by decide) (Nat.le_of_ble_eq_true rfl) ho ?_
  intro p e s m args below meth c ls A Q hQ X hT hl
  have hx := X.1.1
  have hb := X.1.2.1
  have hl : lv_has ls 6 [(0, .ref p0), (1, .int p1), (2, .int p2), (3, .int p3), (4, .int p4)] := hl
  have rp1 := rg_all p1
  have rp2 := rg_all p2
  have rp3 := rg_all p3
  have rp4 := rg_all p4
  obtain ⟨F, hFo⟩ : ∃ F : Nat → va_E, F = Fo := ⟨_, rfl⟩
  rw [← hFo] at hT
  have hfr : (∀ b j : Nat, fld F b j = fld Fo b j) ∧ EF tag F Fo := by
    rw [hFo]
    exact ⟨by intros; rfl, fun _ _ _ => rfl⟩
  refine lv_iload_n hx hb dX7_setPart_0 rfl (lv_at hl 1 rfl) ?_
  refine lv_bipush (v := 6) hx hb dX7_setPart_1 (by decide) ?_
  refine lv_imul hx hb dX7_setPart_3 ?_
  refine lv_topi (fun z3730 ez3730 => ?_)
  have rz3730 := rg_all z3730
  refine lv_iload_n hx hb dX7_setPart_4 rfl (lv_at hl 2 rfl) ?_
  refine lv_iadd hx hb dX7_setPart_5 ?_
  refine lv_topi (fun z3731 ez3731 => ?_)
  have rz3731 := rg_all z3731
  refine lv_iconst (v := 1) hx hb dX7_setPart_6 (by decide) ?_
  refine lv_isub hx hb dX7_setPart_7 ?_
  refine lv_topi (fun z3732 ez3732 => ?_)
  have rz3732 := rg_all z3732
  refine lv_bipush (v := 8) hx hb dX7_setPart_8 (by decide) ?_
  refine lv_imul hx hb dX7_setPart_10 ?_
  refine lv_topi (fun z3733 ez3733 => ?_)
  have rz3733 := rg_all z3733
  refine lv_iload_n hx hb dX7_setPart_11 rfl (lv_at hl 3 rfl) ?_
  refine lv_iadd hx hb dX7_setPart_12 ?_
  refine lv_topi (fun z3734 ez3734 => ?_)
  have rz3734 := rg_all z3734
  refine lv_istore (lv' := [(5, .int z3734), (0, .ref p0), (1, .int p1), (2, .int p2), (3, .int p3), (4, .int p4)]) hx hb dX7_setPart_13 hl (by decide) rfl (fun ls hl => ?_)
  refine lv_iload hx hb dX7_setPart_15 (lv_at hl 0 rfl) ?_
  refine lv_if_lt (tgt := 39) hx hb dX7_setPart_17 (by decide) (fun c3735 => ?_) (fun c3735 => ?_)
  · have w3736 := cv_lt (rfl : z3734.toInt = z3734.toInt) (by decide : (0 : Int32).toInt = 0) c3735
    exact t_vret hQ X hT hfr (Nat.le_of_ble_eq_true rfl) (Nat.le_of_ble_eq_true rfl) dX7_setPart_39
  · have w3737 := cv_nlt (rfl : z3734.toInt = z3734.toInt) (by decide : (0 : Int32).toInt = 0) c3735
    refine lv_iload hx hb dX7_setPart_20 (lv_at hl 0 rfl) ?_
    refine lv_aload_n hx hb dX7_setPart_22 rfl (lv_at hl 1 rfl) ?_
    refine t_get (C := RX7) (T := TX7) (N := 7) X hT m0 g0 rfl rfl 6 (by decide) qw_66 inlX7 rfl dX7_setPart_23 (fun v3738 hv3738 ov3738 => ?_)
    obtain ⟨b3739, rfl, mb3739, gb3739⟩ := okV_r ov3738
    have gb3739 : tag b3739 = 9 := tg_of gb3739
    refine t_alen X hT mb3739 gb3739 rfl (by decide) dX7_setPart_26 ?_
    refine lv_topi (fun z3740 ez3740 => ?_)
    obtain rfl : z3740 = 192 := ez3740.trans (by rfl)
    refine lv_icmp_ge (tgt := 39) hx hb dX7_setPart_27 (by decide) (fun c3741 => ?_) (fun c3741 => ?_)
    · have w3742 := cv_le (by decide : (192 : Int32).toInt = 192) (rfl : z3734.toInt = z3734.toInt) c3741
      exact t_vret hQ X hT hfr (Nat.le_of_ble_eq_true rfl) (Nat.le_of_ble_eq_true rfl) dX7_setPart_39
    · have w3743 := cv_nle (by decide : (192 : Int32).toInt = 192) (rfl : z3734.toInt = z3734.toInt) c3741
      refine lv_aload_n hx hb dX7_setPart_30 rfl (lv_at hl 1 rfl) ?_
      refine t_get (C := RX7) (T := TX7) (N := 7) X hT m0 g0 rfl rfl 6 (by decide) qw_66 inlX7 rfl dX7_setPart_31 (fun v3744 hv3744 ov3744 => ?_)
      obtain rfl : v3744 = .ref b3739 := hv3744.symm.trans hv3738
      refine lv_iload hx hb dX7_setPart_34 (lv_at hl 0 rfl) ?_
      refine lv_iload hx hb dX7_setPart_36 (lv_at hl 5 rfl) ?_
      refine t_ist X hT mb3739 gb3739 rfl (by omega) (show (-2147483648) ≤ (p4 : Int32).toInt ∧ (p4 : Int32).toInt ≤ 2147483647 from (by omega)) dX7_setPart_38 (fun F H locs hT v3745 h1v3745 h2v3745 => ?_)
      have hv3738 := (h2v3745 _ _).trans hv3738
      have hfr : (∀ b j : Nat, fld F b j = fld Fo b j) ∧ EF tag F Fo := ⟨fun b j  => (h2v3745 b j).trans (hfr.1 b j ), fun b j hb => (h1v3745 b j (Or.inl (ns_ne hb gb3739 (by decide)))).trans (hfr.2 b j hb)⟩
      exact t_vret hQ X hT hfr (Nat.le_of_ble_eq_true rfl) (Nat.le_of_ble_eq_true rfl) dX7_setPart_39
set_option maxHeartbeats 4000000 in
set_option maxRecDepth 100000 in
theorem kt17_X7_addSkin (l : Launch) (G : KG) (tag : Nat → Nat) (L : List Nat) (Fo : Nat → va_E) (ho : okT G ttC tag L Fo) (p0 : Nat) (p1 : Int32) (p2 : Int32) (p3 : Int32) (p4 : Int32) (p5 : Int32) (p6 : Int32) (m0 : p0 ∈ L) (g0 : tag p0 = 19) (h1 : 0 ≤ p1.toInt ∧ p1.toInt ≤ 3) : TMv l yX7_addSkin cX7_addSkin 8 { frames := 1, cells := 0, slots := 0, locals := 25 } G ttC tag L Fo [.ref p0, .int p1, .int p2, .int p3, .int p4, .int p5, .int p6] (fun F1 => ((∀ b j : Nat, fld F1 b j = fld Fo b j) ∧ EF tag F1 Fo)) := by
  refine t_bodyv (y := yX7_addSkin) (cd := cX7_addSkin) (mL := 8) (rm := { frames := 1, cells := 0, slots := 0, locals := 25 }) (av := [.ref p0, .int p1, .int p2, .int p3, .int p4, .int p5, .int p6]) (by decide) (Nat.le_of_ble_eq_true rfl) ho ?_
  intro p e s m args below meth c ls A Q hQ X hT hl
  have hx := X.1.1
  have hb := X.1.2.1
  have hl : lv_has ls 8 [(0, .ref p0), (1, .int p1), (2, .int p2), (3, .int p3), (4, .int p4), (5, .int p5), (6, .int p6)] := hl
  have rp2 := rg_all p2
  have rp3 := rg_all p3
  have rp4 := rg_all p4
  have rp5 := rg_all p5
  have rp6 := rg_all p6
  obtain ⟨F, hFo⟩ : ∃ F : Nat → va_E, F = Fo := ⟨_, rfl⟩
  rw [← hFo] at hT
  have hfr : (∀ b j : Nat, fld F b j = fld Fo b j) ∧ EF tag F Fo := by
    rw [hFo]
    exact ⟨by intros; rfl, fun _ _ _ => rfl⟩
  refine lv_aload_n hx hb dX7_addSkin_0 rfl (lv_at hl 0 rfl) ?_
  refine t_get (C := RX7) (T := TX7) (N := 7) X hT m0 g0 rfl rfl 2 (by decide) qw_62 inlX7 rfl dX7_addSkin_1 (fun v3966 hv3966 ov3966 => ?_)
  obtain ⟨b3967, rfl, mb3967, gb3967⟩ := okV_r ov3966
  have gb3967 : tag b3967 = 8 := tg_of gb3967
  refine lv_iload_n hx hb dX7_addSkin_4 rfl (lv_at hl 1 rfl) ?_
  refine t_ild X hT mb3967 gb3967 rfl (by omega) dX7_addSkin_5 (fun z3968 vz3968 rz3968 => ?_)
  have rz3968 : 0 ≤ z3968.toInt ∧ z3968.toInt ≤ 6 := rz3968
  refine lv_bipush (v := 6) hx hb dX7_addSkin_6 (by decide) ?_
  refine lv_icmp_lt (tgt := 12) hx hb dX7_addSkin_8 (by decide) (fun c3969 => ?_) (fun c3969 => ?_)
  · have w3970 := cv_lt (rfl : z3968.toInt = z3968.toInt) (by decide : (6 : Int32).toInt = 6) c3969
    refine lv_aload_n hx hb dX7_addSkin_12 rfl (lv_at hl 0 rfl) ?_
    refine t_get (C := RX7) (T := TX7) (N := 7) X hT m0 g0 rfl rfl 2 (by decide) qw_62 inlX7 rfl dX7_addSkin_13 (fun v3971 hv3971 ov3971 => ?_)
    obtain rfl : v3971 = .ref b3967 := hv3971.symm.trans hv3966
    refine lv_iload_n hx hb dX7_addSkin_16 rfl (lv_at hl 1 rfl) ?_
    refine lv_dup2_11 hx hb dX7_addSkin_17 rfl rfl ?_
    refine t_ild X hT mb3967 gb3967 rfl (by omega) dX7_addSkin_18 (fun z3972 vz3972 rz3972 => ?_)
    obtain rfl : z3968 = z3972 := vz3968.symm.trans vz3972
    refine lv_iconst (v := 1) hx hb dX7_addSkin_19 (by decide) ?_
    refine lv_iadd hx hb dX7_addSkin_20 ?_
    refine lv_topi (fun z3973 ez3973 => ?_)
    have hz3973 : z3973.toInt = z3968.toInt + 1 := ar_add ez3973 (rfl : z3968.toInt = z3968.toInt) (by decide : (1 : Int32).toInt = 1) (by omega) (by omega)
    have rz3973 : 1 ≤ z3973.toInt ∧ z3973.toInt ≤ 6 := by omega
    refine t_ist X hT mb3967 gb3967 rfl (by omega) (show 0 ≤ (z3973 : Int32).toInt ∧ (z3973 : Int32).toInt ≤ 6 from (by omega)) dX7_addSkin_21 (fun F H locs hT v3974 h1v3974 h2v3974 => ?_)
    have hv3966 := (h2v3974 _ _).trans hv3966
    have hfr : (∀ b j : Nat, fld F b j = fld Fo b j) ∧ EF tag F Fo := ⟨fun b j  => (h2v3974 b j).trans (hfr.1 b j ), fun b j hb => (h1v3974 b j (Or.inl (ns_ne hb gb3967 (by decide)))).trans (hfr.2 b j hb)⟩
    refine lv_aload_n hx hb dX7_addSkin_22 rfl (lv_at hl 0 rfl) ?_
    refine t_get (C := RX7) (T := TX7) (N := 7) X hT m0 g0 rfl rfl 2 (by decide) qw_62 inlX7 rfl dX7_addSkin_23 (fun v3975 hv3975 ov3975 => ?_)
    obtain rfl : v3975 = .ref b3967 := hv3975.symm.trans hv3966
    refine lv_iload_n hx hb dX7_addSkin_26 rfl (lv_at hl 1 rfl) ?_
    refine t_ild X hT mb3967 gb3967 rfl (by omega) dX7_addSkin_27 (fun z3976 vz3976 rz3976 => ?_)
    obtain rfl : z3973 = z3976 := v3974.symm.trans vz3976
    refine lv_istore (lv' := [(7, .int z3973), (0, .ref p0), (1, .int p1), (2, .int p2), (3, .int p3), (4, .int p4), (5, .int p5), (6, .int p6)]) hx hb dX7_addSkin_28 hl (by decide) rfl (fun ls hl => ?_)
    refine lv_aload_n hx hb dX7_addSkin_30 rfl (lv_at hl 1 rfl) ?_
    refine lv_iload_n hx hb dX7_addSkin_31 rfl (lv_at hl 2 rfl) ?_
    refine lv_iload hx hb dX7_addSkin_32 (lv_at hl 0 rfl) ?_
    refine lv_iconst (v := 0) hx hb dX7_addSkin_34 (by decide) ?_
    refine lv_iload_n hx hb dX7_addSkin_35 rfl (lv_at hl 3 rfl) ?_
    refine t_cVv (n := 4) (C := RX7) (T := TX7) (N := 7) (As := [.int p1, .int z3973, .int 0, .int p2]) (rest := []) X hT (kt16_X7_setPart l G tag L F hT.2.2.2 p0 p1 z3973 0 p2 m0 g0) m0 g0 rfl rfl qw_422 qw_423 qw_424 qw_22 qw_425 ⟨rfl, by decide +kernel, by decide +kernel, by decide +kernel⟩ ⟨Nat.le_of_ble_eq_true rfl, Nat.le_of_ble_eq_true rfl⟩ hl rfl rfl (Nat.le_of_ble_eq_true rfl) dX7_addSkin_36 ⟨Nat.le_of_ble_eq_true rfl, Nat.le_of_ble_eq_true rfl⟩ (fun F H locs hT hz3977 => ?_)
    have yz3977 := hz3977
    have hv3966 := (yz3977.1 _ 2 ).trans hv3966
    have hfr : (∀ b j : Nat, fld F b j = fld Fo b j) ∧ EF tag F Fo := ⟨fun b j  => (yz3977.1 b j ).trans (hfr.1 b j ), fun b j hb => (yz3977.2 b j hb).trans (hfr.2 b j hb)⟩
    refine lv_aload_n hx hb dX7_addSkin_39 rfl (lv_at hl 1 rfl) ?_
    refine lv_iload_n hx hb dX7_addSkin_40 rfl (lv_at hl 2 rfl) ?_
    refine lv_iload hx hb dX7_addSkin_41 (lv_at hl 0 rfl) ?_
    refine lv_iconst (v := 1) hx hb dX7_addSkin_43 (by decide) ?_
    refine lv_iload_n hx hb dX7_addSkin_44 rfl (lv_at hl 4 rfl) ?_
    refine t_cVv (n := 4) (C := RX7) (T := TX7) (N := 7) (As := [.int p1, .int z3973, .int 1, .int p3]) (rest := []) X hT (kt16_X7_setPart l G tag L F hT.2.2.2 p0 p1 z3973 1 p3 m0 g0) m0 g0 rfl rfl qw_422 qw_423 qw_424 qw_22 qw_425 ⟨rfl, by decide +kernel, by decide +kernel, by decide +kernel⟩ ⟨Nat.le_of_ble_eq_true rfl, Nat.le_of_ble_eq_true rfl⟩ hl rfl rfl (Nat.le_of_ble_eq_true rfl) dX7_addSkin_45 ⟨Nat.le_of_ble_eq_true rfl, Nat.le_of_ble_eq_true rfl⟩ (fun F H locs hT hz3978 => ?_)
    have yz3978 := hz3978
    have hv3966 := (yz3978.1 _ 2 ).trans hv3966
    have hfr : (∀ b j : Nat, fld F b j = fld Fo b j) ∧ EF tag F Fo := ⟨fun b j  => (yz3978.1 b j ).trans (hfr.1 b j ), fun b j hb => (yz3978.2 b j hb).trans (hfr.2 b j hb)⟩
    refine lv_aload_n hx hb dX7_addSkin_48 rfl (lv_at hl 1 rfl) ?_
    refine lv_iload_n hx hb dX7_addSkin_49 rfl (lv_at hl 2 rfl) ?_
    refine lv_iload hx hb dX7_addSkin_50 (lv_at hl 0 rfl) ?_
    refine lv_iconst (v := 2) hx hb dX7_addSkin_52 (by decide) ?_
    refine lv_iload hx hb dX7_addSkin_53 (lv_at hl 5 rfl) ?_
    refine t_cVv (n := 4) (C := RX7) (T := TX7) (N := 7) (As := [.int p1, .int z3973, .int 2, .int p4]) (rest := []) X hT (kt16_X7_setPart l G tag L F hT.2.2.2 p0 p1 z3973 2 p4 m0 g0) m0 g0 rfl rfl qw_422 qw_423 qw_424 qw_22 qw_425 ⟨rfl, by decide +kernel, by decide +kernel, by decide +kernel⟩ ⟨Nat.le_of_ble_eq_true rfl, Nat.le_of_ble_eq_true rfl⟩ hl rfl rfl (Nat.le_of_ble_eq_true rfl) dX7_addSkin_55 ⟨Nat.le_of_ble_eq_true rfl, Nat.le_of_ble_eq_true rfl⟩ (fun F H locs hT hz3979 => ?_)
    have yz3979 := hz3979
    have hv3966 := (yz3979.1 _ 2 ).trans hv3966
    have hfr : (∀ b j : Nat, fld F b j = fld Fo b j) ∧ EF tag F Fo := ⟨fun b j  => (yz3979.1 b j ).trans (hfr.1 b j ), fun b j hb => (yz3979.2 b j hb).trans (hfr.2 b j hb)⟩
    refine lv_aload_n hx hb dX7_addSkin_58 rfl (lv_at hl 1 rfl) ?_
    refine lv_iload_n hx hb dX7_addSkin_59 rfl (lv_at hl 2 rfl) ?_
    refine lv_iload hx hb dX7_addSkin_60 (lv_at hl 0 rfl) ?_
    refine lv_iconst (v := 3) hx hb dX7_addSkin_62 (by decide) ?_
    refine lv_iload hx hb dX7_addSkin_63 (lv_at hl 6 rfl) ?_
    refine t_cVv (n := 4) (C := RX7) (T := TX7) (N := 7) (As := [.int p1, .int z3973, .int 3, .int p5]) (rest := []) X hT (kt16_X7_setPart l G tag L F hT.2.2.2 p0 p1 z3973 3 p5 m0 g0) m0 g0 rfl rfl qw_422 qw_423 qw_424 qw_22 qw_425 ⟨rfl, by decide +kernel, by decide +kernel, by decide +kernel⟩ ⟨Nat.le_of_ble_eq_true rfl, Nat.le_of_ble_eq_true rfl⟩ hl rfl rfl (Nat.le_of_ble_eq_true rfl) dX7_addSkin_65 ⟨Nat.le_of_ble_eq_true rfl, Nat.le_of_ble_eq_true rfl⟩ (fun F H locs hT hz3980 => ?_)
    have yz3980 := hz3980
    have hv3966 := (yz3980.1 _ 2 ).trans hv3966
    have hfr : (∀ b j : Nat, fld F b j = fld Fo b j) ∧ EF tag F Fo := ⟨fun b j  => (yz3980.1 b j ).trans (hfr.1 b j ), fun b j hb => (yz3980.2 b j hb).trans (hfr.2 b j hb)⟩
    refine lv_aload_n hx hb dX7_addSkin_68 rfl (lv_at hl 1 rfl) ?_
    refine lv_iload_n hx hb dX7_addSkin_69 rfl (lv_at hl 2 rfl) ?_
    refine lv_iload hx hb dX7_addSkin_70 (lv_at hl 0 rfl) ?_
    refine lv_iconst (v := 4) hx hb dX7_addSkin_72 (by decide) ?_
    refine lv_iconst (v := 0) hx hb dX7_addSkin_73 (by decide) ?_
    refine t_cVv (n := 4) (C := RX7) (T := TX7) (N := 7) (As := [.int p1, .int z3973, .int 4, .int 0]) (rest := []) X hT (kt16_X7_setPart l G tag L F hT.2.2.2 p0 p1 z3973 4 0 m0 g0) m0 g0 rfl rfl qw_422 qw_423 qw_424 qw_22 qw_425 ⟨rfl, by decide +kernel, by decide +kernel, by decide +kernel⟩ ⟨Nat.le_of_ble_eq_true rfl, Nat.le_of_ble_eq_true rfl⟩ hl rfl rfl (Nat.le_of_ble_eq_true rfl) dX7_addSkin_74 ⟨Nat.le_of_ble_eq_true rfl, Nat.le_of_ble_eq_true rfl⟩ (fun F H locs hT hz3981 => ?_)
    have yz3981 := hz3981
    have hv3966 := (yz3981.1 _ 2 ).trans hv3966
    have hfr : (∀ b j : Nat, fld F b j = fld Fo b j) ∧ EF tag F Fo := ⟨fun b j  => (yz3981.1 b j ).trans (hfr.1 b j ), fun b j hb => (yz3981.2 b j hb).trans (hfr.2 b j hb)⟩
    refine lv_aload_n hx hb dX7_addSkin_77 rfl (lv_at hl 1 rfl) ?_
    refine lv_iload_n hx hb dX7_addSkin_78 rfl (lv_at hl 2 rfl) ?_
    refine lv_iload hx hb dX7_addSkin_79 (lv_at hl 0 rfl) ?_
    refine lv_iconst (v := 5) hx hb dX7_addSkin_81 (by decide) ?_
    refine lv_iconst (v := 0) hx hb dX7_addSkin_82 (by decide) ?_
    refine t_cVv (n := 4) (C := RX7) (T := TX7) (N := 7) (As := [.int p1, .int z3973, .int 5, .int 0]) (rest := []) X hT (kt16_X7_setPart l G tag L F hT.2.2.2 p0 p1 z3973 5 0 m0 g0) m0 g0 rfl rfl qw_422 qw_423 qw_424 qw_22 qw_425 ⟨rfl, by decide +kernel, by decide +kernel, by decide +kernel⟩ ⟨Nat.le_of_ble_eq_true rfl, Nat.le_of_ble_eq_true rfl⟩ hl rfl rfl (Nat.le_of_ble_eq_true rfl) dX7_addSkin_83 ⟨Nat.le_of_ble_eq_true rfl, Nat.le_of_ble_eq_true rfl⟩ (fun F H locs hT hz3982 => ?_)
    have yz3982 := hz3982
    have hv3966 := (yz3982.1 _ 2 ).trans hv3966
    have hfr : (∀ b j : Nat, fld F b j = fld Fo b j) ∧ EF tag F Fo := ⟨fun b j  => (yz3982.1 b j ).trans (hfr.1 b j ), fun b j hb => (yz3982.2 b j hb).trans (hfr.2 b j hb)⟩
    refine lv_aload_n hx hb dX7_addSkin_86 rfl (lv_at hl 1 rfl) ?_
    refine lv_iload_n hx hb dX7_addSkin_87 rfl (lv_at hl 2 rfl) ?_
    refine lv_iload hx hb dX7_addSkin_88 (lv_at hl 0 rfl) ?_
    refine lv_bipush (v := 6) hx hb dX7_addSkin_90 (by decide) ?_
    refine lv_iconst (v := 0) hx hb dX7_addSkin_92 (by decide) ?_
    refine t_cVv (n := 4) (C := RX7) (T := TX7) (N := 7) (As := [.int p1, .int z3973, .int 6, .int 0]) (rest := []) X hT (kt16_X7_setPart l G tag L F hT.2.2.2 p0 p1 z3973 6 0 m0 g0) m0 g0 rfl rfl qw_422 qw_423 qw_424 qw_22 qw_425 ⟨rfl, by decide +kernel, by decide +kernel, by decide +kernel⟩ ⟨Nat.le_of_ble_eq_true rfl, Nat.le_of_ble_eq_true rfl⟩ hl rfl rfl (Nat.le_of_ble_eq_true rfl) dX7_addSkin_93 ⟨Nat.le_of_ble_eq_true rfl, Nat.le_of_ble_eq_true rfl⟩ (fun F H locs hT hz3983 => ?_)
    have yz3983 := hz3983
    have hv3966 := (yz3983.1 _ 2 ).trans hv3966
    have hfr : (∀ b j : Nat, fld F b j = fld Fo b j) ∧ EF tag F Fo := ⟨fun b j  => (yz3983.1 b j ).trans (hfr.1 b j ), fun b j hb => (yz3983.2 b j hb).trans (hfr.2 b j hb)⟩
    refine lv_aload_n hx hb dX7_addSkin_96 rfl (lv_at hl 1 rfl) ?_
    refine lv_iload_n hx hb dX7_addSkin_97 rfl (lv_at hl 2 rfl) ?_
    refine lv_iload hx hb dX7_addSkin_98 (lv_at hl 0 rfl) ?_
    refine lv_bipush (v := 7) hx hb dX7_addSkin_100 (by decide) ?_
    refine lv_iload hx hb dX7_addSkin_102 (lv_at hl 7 rfl) ?_
    refine t_cVv (n := 4) (C := RX7) (T := TX7) (N := 7) (As := [.int p1, .int z3973, .int 7, .int p6]) (rest := []) X hT (kt16_X7_setPart l G tag L F hT.2.2.2 p0 p1 z3973 7 p6 m0 g0) m0 g0 rfl rfl qw_422 qw_423 qw_424 qw_22 qw_425 ⟨rfl, by decide +kernel, by decide +kernel, by decide +kernel⟩ ⟨Nat.le_of_ble_eq_true rfl, Nat.le_of_ble_eq_true rfl⟩ hl rfl rfl (Nat.le_of_ble_eq_true rfl) dX7_addSkin_104 ⟨Nat.le_of_ble_eq_true rfl, Nat.le_of_ble_eq_true rfl⟩ (fun F H locs hT hz3984 => ?_)
    have yz3984 := hz3984
    have hv3966 := (yz3984.1 _ 2 ).trans hv3966
    have hfr : (∀ b j : Nat, fld F b j = fld Fo b j) ∧ EF tag F Fo := ⟨fun b j  => (yz3984.1 b j ).trans (hfr.1 b j ), fun b j hb => (yz3984.2 b j hb).trans (hfr.2 b j hb)⟩
    exact t_vret hQ X hT hfr (Nat.le_of_ble_eq_true rfl) (Nat.le_of_ble_eq_true rfl) dX7_addSkin_107
  · have w3985 := cv_nlt (rfl : z3968.toInt = z3968.toInt) (by decide : (6 : Int32).toInt = 6) c3969
    exact t_vret hQ X hT hfr (Nat.le_of_ble_eq_true rfl) (Nat.le_of_ble_eq_true rfl) dX7_addSkin_11
set_option maxHeartbeats 4000000 in
set_option maxRecDepth 100000 in
theorem kt18_X7_stands (l : Launch) (G : KG) (tag : Nat → Nat) (L : List Nat) (F : Nat → va_E) (ho : okT G ttC tag L F) (p0 : Nat) (p1 : Int32) (p2 : Int32) (m0 : p0 ∈ L) (g0 : tag p0 = 19) : TMi l yX7_stands cX7_stands 3 (some .boolean) { frames := 1, cells := 0, slots := 0, locals := 24 } G ttC tag L F [.ref p0, .int p1, .int p2] (fun r F1 => F1 = F ∧ (0 ≤ r.toInt ∧ r.toInt ≤ 1)) := by
  refine t_bodyi (y := yX7_stands) (cd := cX7_stands) (mL := 3) (rt := (some .boolean)) (rm := { frames := 1, cells := 0, slots := 0, locals := 24 }) (av := [.ref p0, .int p1, .int p2]) (by decide) (Nat.le_of_ble_eq_true rfl) ho ?_
  intro p e s m args below meth c ls A Q hQ X hT hl
  have hx := X.1.1
  have hb := X.1.2.1
  have hl : lv_has ls 3 [(0, .ref p0), (1, .int p1), (2, .int p2)] := hl
  have rp1 := rg_all p1
  have rp2 := rg_all p2
  refine lv_aload_n hx hb dX7_stands_0 rfl (lv_at hl 0 rfl) ?_
  refine lv_iload_n hx hb dX7_stands_1 rfl (lv_at hl 1 rfl) ?_
  refine lv_iload_n hx hb dX7_stands_2 rfl (lv_at hl 2 rfl) ?_
  refine lv_iconst (v := 5) hx hb dX7_stands_3 (by decide) ?_
  refine t_cVi (n := 3) (C := RX7) (T := TX7) (N := 7) (As := [.int p1, .int p2, .int 5]) (rest := []) X hT (kt15_X7_partOf l G tag L F hT.2.2.2 p0 p1 p2 5 m0 g0) m0 g0 rfl rfl qw_856 qw_778 qw_779 qw_22 qw_780 ⟨rfl, by decide +kernel, by decide +kernel, by decide +kernel⟩ ⟨Nat.le_of_ble_eq_true rfl, Nat.le_of_ble_eq_true rfl⟩ hl rfl rfl (Nat.le_of_ble_eq_true rfl) dX7_stands_4 ⟨Nat.le_of_ble_eq_true rfl, Nat.le_of_ble_eq_true rfl⟩ (fun z4030 F9 H locs hT hz4030 => ?_)
  obtain ⟨fz4030, hz4030⟩ := hz4030
  rw [fz4030] at hT
  refine lv_if_ne (tgt := 14) hx hb dX7_stands_7 (by decide) (fun c4031 => ?_) (fun c4031 => ?_)
  · have w4032 := cv_ne (rfl : z4030.toInt = z4030.toInt) (by decide : (0 : Int32).toInt = 0) c4031
    refine lv_iconst (v := 0) hx hb dX7_stands_14 (by decide) ?_
    exact t_zret hQ X hT (by decide) (⟨rfl, (by decide)⟩) (Nat.le_of_ble_eq_true rfl) (Nat.le_of_ble_eq_true rfl) dX7_stands_15
  · have w4033 := cv_eq (rfl : z4030.toInt = z4030.toInt) (by decide : (0 : Int32).toInt = 0) c4031
    refine lv_iconst (v := 1) hx hb dX7_stands_10 (by decide) ?_
    refine lv_goto (tgt := 15) hx hb dX7_stands_11 (by decide) ?_
    exact t_zret hQ X hT (by decide) (⟨rfl, (by decide)⟩) (Nat.le_of_ble_eq_true rfl) (Nat.le_of_ble_eq_true rfl) dX7_stands_15
set_option maxHeartbeats 4000000 in
set_option maxRecDepth 100000 in
theorem kt19_X7_isOpen (l : Launch) (G : KG) (tag : Nat → Nat) (L : List Nat) (F : Nat → va_E) (ho : okT G ttC tag L F) (p0 : Nat) (p1 : Int32) (p2 : Int32) (m0 : p0 ∈ L) (g0 : tag p0 = 19) : TMi l yX7_isOpen cX7_isOpen 3 (some .boolean) { frames := 2, cells := 0, slots := 0, locals := 46 } G ttC tag L F [.ref p0, .int p1, .int p2] (fun r F1 => F1 = F ∧ (0 ≤ r.toInt ∧ r.toInt ≤ 1)) := by
  refine t_bodyi (y := yX7_isOpen) (cd := cX7_isOpen) (mL := 3) (rt := (some .boolean)) (rm := { frames := 2, cells := 0, slots := 0, locals := 46 }) (av := [.ref p0, .int p1, .int p2]) (by decide) (Nat.le_of_ble_eq_true rfl) ho ?_
  intro p e s m args below meth c ls A Q hQ X hT hl
  have hx := X.1.1
  have hb := X.1.2.1
  have hl : lv_has ls 3 [(0, .ref p0), (1, .int p1), (2, .int p2)] := hl
  have rp1 := rg_all p1
  have rp2 := rg_all p2
  refine lv_aload_n hx hb dX7_isOpen_0 rfl (lv_at hl 0 rfl) ?_
  refine lv_iload_n hx hb dX7_isOpen_1 rfl (lv_at hl 1 rfl) ?_
  refine lv_iload_n hx hb dX7_isOpen_2 rfl (lv_at hl 2 rfl) ?_
  refine t_cVi (n := 2) (C := RX7) (T := TX7) (N := 7) (As := [.int p1, .int p2]) (rest := []) X hT (kt18_X7_stands l G tag L F hT.2.2.2 p0 p1 p2 m0 g0) m0 g0 rfl rfl qw_987 qw_853 qw_854 qw_22 qw_855 ⟨rfl, by decide +kernel, by decide +kernel, by decide +kernel⟩ ⟨Nat.le_of_ble_eq_true rfl, Nat.le_of_ble_eq_true rfl⟩ hl rfl rfl (Nat.le_of_ble_eq_true rfl) dX7_isOpen_3 ⟨Nat.le_of_ble_eq_true rfl, Nat.le_of_ble_eq_true rfl⟩ (fun z4122 F9 H locs hT hz4122 => ?_)
  obtain ⟨fz4122, hz4122⟩ := hz4122
  rw [fz4122] at hT
  refine lv_if_eq (tgt := 24) hx hb dX7_isOpen_6 (by decide) (fun c4123 => ?_) (fun c4123 => ?_)
  · have w4124 := cv_eq (rfl : z4122.toInt = z4122.toInt) (by decide : (0 : Int32).toInt = 0) c4123
    refine lv_iconst (v := 0) hx hb dX7_isOpen_24 (by decide) ?_
    exact t_zret hQ X hT (by decide) (⟨rfl, (by decide)⟩) (Nat.le_of_ble_eq_true rfl) (Nat.le_of_ble_eq_true rfl) dX7_isOpen_25
  · have w4125 := cv_ne (rfl : z4122.toInt = z4122.toInt) (by decide : (0 : Int32).toInt = 0) c4123
    refine lv_aload_n hx hb dX7_isOpen_9 rfl (lv_at hl 0 rfl) ?_
    refine lv_iload_n hx hb dX7_isOpen_10 rfl (lv_at hl 1 rfl) ?_
    refine lv_iload_n hx hb dX7_isOpen_11 rfl (lv_at hl 2 rfl) ?_
    refine lv_bipush (v := 6) hx hb dX7_isOpen_12 (by decide) ?_
    refine t_cVi (n := 3) (C := RX7) (T := TX7) (N := 7) (As := [.int p1, .int p2, .int 6]) (rest := []) X hT (kt15_X7_partOf l G tag L F hT.2.2.2 p0 p1 p2 6 m0 g0) m0 g0 rfl rfl qw_856 qw_778 qw_779 qw_22 qw_780 ⟨rfl, by decide +kernel, by decide +kernel, by decide +kernel⟩ ⟨Nat.le_of_ble_eq_true rfl, Nat.le_of_ble_eq_true rfl⟩ hl rfl rfl (Nat.le_of_ble_eq_true rfl) dX7_isOpen_14 ⟨Nat.le_of_ble_eq_true rfl, Nat.le_of_ble_eq_true rfl⟩ (fun z4126 F9 H locs hT hz4126 => ?_)
    obtain ⟨fz4126, hz4126⟩ := hz4126
    rw [fz4126] at hT
    refine lv_if_ne (tgt := 24) hx hb dX7_isOpen_17 (by decide) (fun c4127 => ?_) (fun c4127 => ?_)
    · have w4128 := cv_ne (rfl : z4126.toInt = z4126.toInt) (by decide : (0 : Int32).toInt = 0) c4127
      refine lv_iconst (v := 0) hx hb dX7_isOpen_24 (by decide) ?_
      exact t_zret hQ X hT (by decide) (⟨rfl, (by decide)⟩) (Nat.le_of_ble_eq_true rfl) (Nat.le_of_ble_eq_true rfl) dX7_isOpen_25
    · have w4129 := cv_eq (rfl : z4126.toInt = z4126.toInt) (by decide : (0 : Int32).toInt = 0) c4127
      refine lv_iconst (v := 1) hx hb dX7_isOpen_20 (by decide) ?_
      refine lv_goto (tgt := 25) hx hb dX7_isOpen_21 (by decide) ?_
      exact t_zret hQ X hT (by decide) (⟨rfl, (by decide)⟩) (Nat.le_of_ble_eq_true rfl) (Nat.le_of_ble_eq_true rfl) dX7_isOpen_25
set_option maxHeartbeats 4000000 in
set_option maxRecDepth 100000 in
theorem kt20_X7_isCrowded (l : Launch) (G : KG) (tag : Nat → Nat) (L : List Nat) (F : Nat → va_E) (ho : okT G ttC tag L F) (p0 : Nat) (p1 : Int32) (m0 : p0 ∈ L) (g0 : tag p0 = 19) (h1 : 0 ≤ p1.toInt ∧ p1.toInt ≤ 3) : TMi l yX7_isCrowded cX7_isCrowded 3 (some .boolean) { frames := 0, cells := 0, slots := 0, locals := 0 } G ttC tag L F [.ref p0, .int p1] (fun r F1 => F1 = F ∧ (0 ≤ r.toInt ∧ r.toInt ≤ 1)) := by
  refine t_bodyi (y := yX7_isCrowded) (cd := cX7_isCrowded) (mL := 3) (rt := (some .boolean)) (rm := { frames := 0, cells := 0, slots := 0, locals := 0 }) (av := [.ref p0, .int p1]) (by decide) (Nat.le_of_ble_eq_true rfl) ho ?_
  intro p e s m args below meth c ls A Q hQ X hT hl
  have hx := X.1.1
  have hb := X.1.2.1
  have hl : lv_has ls 3 [(0, .ref p0), (1, .int p1)] := hl
  have K22 : ∀ (z4306 : Int32) (H : Heap) (locs : List Loc) (ls : Array Slot), (1 ≤ z4306.toInt ∧ z4306.toInt ≤ 48) → TH G ttC A s tag L F H locs → lv_has ls 3 [(0, .ref p0), (1, .int p1)] → W p l e { frames := 0, cells := 0, slots := 0, locals := 0 } s m args below meth c H locs 0 0 Q (F0 m 22 ls [.int z4306]) := by
    intro z4306 H locs ls rz4306 hT hl
    refine lv_istore_n (lv' := [(2, .int z4306), (0, .ref p0), (1, .int p1)]) hx hb dX7_isCrowded_22 rfl hl (by decide) rfl (fun ls hl => ?_)
    refine lv_aload_n hx hb dX7_isCrowded_23 rfl (lv_at hl 1 rfl) ?_
    refine t_get (C := RX7) (T := TX7) (N := 7) X hT m0 g0 rfl rfl 3 (by decide) qw_63 inlX7 rfl dX7_isCrowded_24 (fun v4307 hv4307 ov4307 => ?_)
    obtain ⟨b4308, rfl, mb4308, gb4308⟩ := okV_r ov4307
    have gb4308 : tag b4308 = 5 := tg_of gb4308
    refine lv_iload_n hx hb dX7_isCrowded_27 rfl (lv_at hl 2 rfl) ?_
    refine t_ild X hT mb4308 gb4308 rfl (by omega) dX7_isCrowded_28 (fun z4309 vz4309 rz4309 => ?_)
    have rz4309 : (-2147483648) ≤ z4309.toInt ∧ z4309.toInt ≤ 2147483647 := rz4309
    refine lv_iload_n hx hb dX7_isCrowded_29 rfl (lv_at hl 0 rfl) ?_
    refine lv_icmp_le (tgt := 37) hx hb dX7_isCrowded_30 (by decide) (fun c4310 => ?_) (fun c4310 => ?_)
    · have w4311 := cv_le (rfl : z4309.toInt = z4309.toInt) (rfl : z4306.toInt = z4306.toInt) c4310
      refine lv_iconst (v := 0) hx hb dX7_isCrowded_37 (by decide) ?_
      exact t_zret hQ X hT (by decide) (⟨rfl, (by decide)⟩) (Nat.le_of_ble_eq_true rfl) (Nat.le_of_ble_eq_true rfl) dX7_isCrowded_38
    · have w4312 := cv_nle (rfl : z4309.toInt = z4309.toInt) (rfl : z4306.toInt = z4306.toInt) c4310
      refine lv_iconst (v := 1) hx hb dX7_isCrowded_33 (by decide) ?_
      refine lv_goto (tgt := 38) hx hb dX7_isCrowded_34 (by decide) ?_
      exact t_zret hQ X hT (by decide) (⟨rfl, (by decide)⟩) (Nat.le_of_ble_eq_true rfl) (Nat.le_of_ble_eq_true rfl) dX7_isCrowded_38
  refine lv_aload_n hx hb dX7_isCrowded_0 rfl (lv_at hl 0 rfl) ?_
  refine t_get (C := RX7) (T := TX7) (N := 7) X hT m0 g0 rfl rfl 2 (by decide) qw_62 inlX7 rfl dX7_isCrowded_1 (fun v4313 hv4313 ov4313 => ?_)
  obtain ⟨b4314, rfl, mb4314, gb4314⟩ := okV_r ov4313
  have gb4314 : tag b4314 = 8 := tg_of gb4314
  refine lv_iload_n hx hb dX7_isCrowded_4 rfl (lv_at hl 1 rfl) ?_
  refine t_ild X hT mb4314 gb4314 rfl (by omega) dX7_isCrowded_5 (fun z4315 vz4315 rz4315 => ?_)
  have rz4315 : 0 ≤ z4315.toInt ∧ z4315.toInt ≤ 6 := rz4315
  refine lv_if_ne (tgt := 13) hx hb dX7_isCrowded_6 (by decide) (fun c4316 => ?_) (fun c4316 => ?_)
  · have w4317 := cv_ne (rfl : z4315.toInt = z4315.toInt) (by decide : (0 : Int32).toInt = 0) c4316
    refine lv_bipush (v := 8) hx hb dX7_isCrowded_13 (by decide) ?_
    refine lv_aload_n hx hb dX7_isCrowded_15 rfl (lv_at hl 0 rfl) ?_
    refine t_get (C := RX7) (T := TX7) (N := 7) X hT m0 g0 rfl rfl 2 (by decide) qw_62 inlX7 rfl dX7_isCrowded_16 (fun v4318 hv4318 ov4318 => ?_)
    obtain rfl : v4318 = .ref b4314 := hv4318.symm.trans hv4313
    refine lv_iload_n hx hb dX7_isCrowded_19 rfl (lv_at hl 1 rfl) ?_
    refine t_ild X hT mb4314 gb4314 rfl (by omega) dX7_isCrowded_20 (fun z4319 vz4319 rz4319 => ?_)
    obtain rfl : z4315 = z4319 := vz4315.symm.trans vz4319
    refine lv_imul hx hb dX7_isCrowded_21 ?_
    refine lv_topi (fun z4320 ez4320 => ?_)
    have hz4320 : z4320.toInt = 8 * z4315.toInt := ar_mul ez4320 (by decide : (8 : Int32).toInt = 8) (rfl : z4315.toInt = z4315.toInt) (by omega) (by omega)
    have rz4320 : 8 ≤ z4320.toInt ∧ z4320.toInt ≤ 48 := by omega
    exact K22 z4320 _ _ _ (by omega) hT  (lv_sub hl [0, 1] rfl)
  · have w4321 := cv_eq (rfl : z4315.toInt = z4315.toInt) (by decide : (0 : Int32).toInt = 0) c4316
    refine lv_iconst (v := 1) hx hb dX7_isCrowded_9 (by decide) ?_
    refine lv_goto (tgt := 22) hx hb dX7_isCrowded_10 (by decide) ?_
    exact K22 1 _ _ _ (by decide) hT  (lv_sub hl [0, 1] rfl)
set_option maxHeartbeats 4000000 in
set_option maxRecDepth 100000 in
theorem kt21_X7_inmost (l : Launch) (G : KG) (tag : Nat → Nat) (L : List Nat) (F : Nat → va_E) (ho : okT G ttC tag L F) (p0 : Nat) (p1 : Int32) (m0 : p0 ∈ L) (g0 : tag p0 = 19) (h1 : 0 ≤ p1.toInt ∧ p1.toInt ≤ 3) : TMi l yX7_inmost cX7_inmost 3 (some .int) { frames := 2, cells := 0, slots := 0, locals := 46 } G ttC tag L F [.ref p0, .int p1] (fun r F1 => F1 = F ∧ (0 ≤ r.toInt ∧ r.toInt ≤ 6)) := by
  refine t_bodyi (y := yX7_inmost) (cd := cX7_inmost) (mL := 3) (rt := (some .int)) (rm := { frames := 2, cells := 0, slots := 0, locals := 46 }) (av := [.ref p0, .int p1]) (by decide) (Nat.le_of_ble_eq_true rfl) ho ?_
  intro p e s m args below meth c ls A Q hQ X hT hl
  have hx := X.1.1
  have hb := X.1.2.1
  have hl : lv_has ls 3 [(0, .ref p0), (1, .int p1)] := hl
  have K2 : ∀ (n : Nat) (z4526 : Int32) (H : Heap) (locs : List Loc) (ls : Array Slot), (7 - z4526.toInt < (n : Int)) → (1 ≤ z4526.toInt ∧ z4526.toInt ≤ 7) → TH G ttC A s tag L F H locs → lv_has ls 3 [(0, .ref p0), (1, .int p1), (2, .int z4526)] → W p l e { frames := 2, cells := 0, slots := 0, locals := 46 } s m args below meth c H locs 0 0 Q (F0 m 2 ls []) := by
    intro n
    induction n with
    | zero =>
      intro z4526 H locs ls hn rz4526 hT hl
      exfalso
      omega
    | succ n ih2 =>
      intro z4526 H locs ls hn rz4526 hT hl
      refine lv_iload_n hx hb dX7_inmost_2 rfl (lv_at hl 2 rfl) ?_
      refine lv_aload_n hx hb dX7_inmost_3 rfl (lv_at hl 0 rfl) ?_
      refine t_get (C := RX7) (T := TX7) (N := 7) X hT m0 g0 rfl rfl 2 (by decide) qw_62 inlX7 rfl dX7_inmost_4 (fun v4527 hv4527 ov4527 => ?_)
      obtain ⟨b4528, rfl, mb4528, gb4528⟩ := okV_r ov4527
      have gb4528 : tag b4528 = 8 := tg_of gb4528
      refine lv_iload_n hx hb dX7_inmost_7 rfl (lv_at hl 1 rfl) ?_
      refine t_ild X hT mb4528 gb4528 rfl (by omega) dX7_inmost_8 (fun z4529 vz4529 rz4529 => ?_)
      have rz4529 : 0 ≤ z4529.toInt ∧ z4529.toInt ≤ 6 := rz4529
      refine lv_icmp_gt (tgt := 29) hx hb dX7_inmost_9 (by decide) (fun c4530 => ?_) (fun c4530 => ?_)
      · have w4531 := cv_lt (rfl : z4529.toInt = z4529.toInt) (rfl : z4526.toInt = z4526.toInt) c4530
        refine lv_iconst (v := 0) hx hb dX7_inmost_29 (by decide) ?_
        exact t_iret hQ X hT (⟨rfl, (by decide)⟩) (Nat.le_of_ble_eq_true rfl) (Nat.le_of_ble_eq_true rfl) dX7_inmost_30
      · have w4532 := cv_nlt (rfl : z4529.toInt = z4529.toInt) (rfl : z4526.toInt = z4526.toInt) c4530
        refine lv_aload_n hx hb dX7_inmost_12 rfl (lv_at hl 0 rfl) ?_
        refine lv_iload_n hx hb dX7_inmost_13 rfl (lv_at hl 1 rfl) ?_
        refine lv_iload_n hx hb dX7_inmost_14 rfl (lv_at hl 2 rfl) ?_
        refine t_cVi (n := 2) (C := RX7) (T := TX7) (N := 7) (As := [.int p1, .int z4526]) (rest := []) X hT (kt18_X7_stands l G tag L F hT.2.2.2 p0 p1 z4526 m0 g0) m0 g0 rfl rfl qw_987 qw_853 qw_854 qw_22 qw_855 ⟨rfl, by decide +kernel, by decide +kernel, by decide +kernel⟩ ⟨Nat.le_of_ble_eq_true rfl, Nat.le_of_ble_eq_true rfl⟩ hl rfl rfl (Nat.le_of_ble_eq_true rfl) dX7_inmost_15 ⟨Nat.le_of_ble_eq_true rfl, Nat.le_of_ble_eq_true rfl⟩ (fun z4533 F9 H locs hT hz4533 => ?_)
        obtain ⟨fz4533, hz4533⟩ := hz4533
        rw [fz4533] at hT
        refine lv_if_eq (tgt := 23) hx hb dX7_inmost_18 (by decide) (fun c4534 => ?_) (fun c4534 => ?_)
        · have w4535 := cv_eq (rfl : z4533.toInt = z4533.toInt) (by decide : (0 : Int32).toInt = 0) c4534
          obtain ⟨z4536, ez4536⟩ : ∃ y : Int32, y = z4526 + 1 := ⟨_, rfl⟩
          have hz4536 : z4536.toInt = z4526.toInt + 1 := ar_add ez4536 rfl (by decide : (1 : Int32).toInt = 1) (by omega) (by omega)
          refine lv_iinc (v := z4536) (lv' := [(2, .int z4536), (0, .ref p0), (1, .int p1)]) hx hb dX7_inmost_23 hl (k := 2) rfl (by rw [ez4536]; rfl) (by decide) rfl (fun ls hl => ?_)
          refine lv_goto (tgt := 2) hx hb dX7_inmost_26 (by decide) ?_
          exact ih2 z4536 _ _ _ (by omega) (by omega) hT  (lv_sub hl [1, 2, 0] rfl)
        · have w4537 := cv_ne (rfl : z4533.toInt = z4533.toInt) (by decide : (0 : Int32).toInt = 0) c4534
          refine lv_iload_n hx hb dX7_inmost_21 rfl (lv_at hl 2 rfl) ?_
          exact t_iret hQ X hT (⟨rfl, (by omega)⟩) (Nat.le_of_ble_eq_true rfl) (Nat.le_of_ble_eq_true rfl) dX7_inmost_22
  refine lv_iconst (v := 1) hx hb dX7_inmost_0 (by decide) ?_
  refine lv_istore_n (lv' := [(2, .int 1), (0, .ref p0), (1, .int p1)]) hx hb dX7_inmost_1 rfl hl (by decide) rfl (fun ls hl => ?_)
  have kk4538 : (1 : Int32).toInt = 1 := by decide
  exact K2 7 1 _ _ _ (by omega) (by decide) hT  (lv_sub hl [1, 2, 0] rfl)
set_option maxHeartbeats 4000000 in
set_option maxRecDepth 100000 in
theorem kt22_X7_fallen (l : Launch) (G : KG) (tag : Nat → Nat) (L : List Nat) (F : Nat → va_E) (ho : okT G ttC tag L F) (p0 : Nat) (p1 : Int32) (m0 : p0 ∈ L) (g0 : tag p0 = 19) (h1 : 0 ≤ p1.toInt ∧ p1.toInt ≤ 3) : TMi l yX7_fallen cX7_fallen 4 (some .int) { frames := 2, cells := 0, slots := 0, locals := 46 } G ttC tag L F [.ref p0, .int p1] (fun r F1 => F1 = F ∧ ((-2147483648) ≤ r.toInt ∧ r.toInt ≤ 2147483647)) := by
  refine t_bodyi (y := yX7_fallen) (cd := cX7_fallen) (mL := 4) (rt := (some .int)) (rm := { frames := 2, cells := 0, slots := 0, locals := 46 }) (av := [.ref p0, .int p1]) (by decide) (Nat.le_of_ble_eq_true rfl) ho ?_
  intro p e s m args below meth c ls A Q hQ X hT hl
  have hx := X.1.1
  have hb := X.1.2.1
  have hl : lv_has ls 4 [(0, .ref p0), (1, .int p1)] := hl
  have K4 : ∀ (n : Nat) (z5097 : Int32) (z5098 : Int32) (H : Heap) (locs : List Loc) (ls : Array Slot), (7 - z5098.toInt < (n : Int)) → (1 ≤ z5098.toInt ∧ z5098.toInt ≤ 7) → TH G ttC A s tag L F H locs → lv_has ls 4 [(0, .ref p0), (1, .int p1), (2, .int z5097), (3, .int z5098)] → W p l e { frames := 2, cells := 0, slots := 0, locals := 46 } s m args below meth c H locs 0 0 Q (F0 m 4 ls []) := by
    intro n
    induction n with
    | zero =>
      intro z5097 z5098 H locs ls hn rz5098 hT hl
      have rz5097 := rg_all z5097
      exfalso
      omega
    | succ n ih4 =>
      intro z5097 z5098 H locs ls hn rz5098 hT hl
      have rz5097 := rg_all z5097
      have K26 : ∀ (z5099 : Int32) (H : Heap) (locs : List Loc) (ls : Array Slot), (1 ≤ z5098.toInt ∧ z5098.toInt ≤ 6) → TH G ttC A s tag L F H locs → lv_has ls 4 [(0, .ref p0), (1, .int p1), (2, .int z5099), (3, .int z5098)] → W p l e { frames := 2, cells := 0, slots := 0, locals := 46 } s m args below meth c H locs 0 0 Q (F0 m 26 ls []) := by
        intro z5099 H locs ls r9s5100 hT hl
        have rz5099 := rg_all z5099
        obtain ⟨z5101, ez5101⟩ : ∃ y : Int32, y = z5098 + 1 := ⟨_, rfl⟩
        have hz5101 : z5101.toInt = z5098.toInt + 1 := ar_add ez5101 rfl (by decide : (1 : Int32).toInt = 1) (by omega) (by omega)
        refine lv_iinc (v := z5101) (lv' := [(3, .int z5101), (0, .ref p0), (1, .int p1), (2, .int z5099)]) hx hb dX7_fallen_26 hl (k := 3) rfl (by rw [ez5101]; rfl) (by decide) rfl (fun ls hl => ?_)
        refine lv_goto (tgt := 4) hx hb dX7_fallen_29 (by decide) ?_
        exact ih4 z5099 z5101 _ _ _ (by omega) (by omega) hT  (lv_sub hl [1, 2, 3, 0] rfl)
      refine lv_iload_n hx hb dX7_fallen_4 rfl (lv_at hl 3 rfl) ?_
      refine lv_aload_n hx hb dX7_fallen_5 rfl (lv_at hl 0 rfl) ?_
      refine t_get (C := RX7) (T := TX7) (N := 7) X hT m0 g0 rfl rfl 2 (by decide) qw_62 inlX7 rfl dX7_fallen_6 (fun v5102 hv5102 ov5102 => ?_)
      obtain ⟨b5103, rfl, mb5103, gb5103⟩ := okV_r ov5102
      have gb5103 : tag b5103 = 8 := tg_of gb5103
      refine lv_iload_n hx hb dX7_fallen_9 rfl (lv_at hl 1 rfl) ?_
      refine t_ild X hT mb5103 gb5103 rfl (by omega) dX7_fallen_10 (fun z5104 vz5104 rz5104 => ?_)
      have rz5104 : 0 ≤ z5104.toInt ∧ z5104.toInt ≤ 6 := rz5104
      refine lv_icmp_gt (tgt := 32) hx hb dX7_fallen_11 (by decide) (fun c5105 => ?_) (fun c5105 => ?_)
      · have w5106 := cv_lt (rfl : z5104.toInt = z5104.toInt) (rfl : z5098.toInt = z5098.toInt) c5105
        refine lv_iload_n hx hb dX7_fallen_32 rfl (lv_at hl 2 rfl) ?_
        exact t_iret hQ X hT (⟨rfl, rg_all _⟩) (Nat.le_of_ble_eq_true rfl) (Nat.le_of_ble_eq_true rfl) dX7_fallen_33
      · have w5107 := cv_nlt (rfl : z5104.toInt = z5104.toInt) (rfl : z5098.toInt = z5098.toInt) c5105
        refine lv_aload_n hx hb dX7_fallen_14 rfl (lv_at hl 0 rfl) ?_
        refine lv_iload_n hx hb dX7_fallen_15 rfl (lv_at hl 1 rfl) ?_
        refine lv_iload_n hx hb dX7_fallen_16 rfl (lv_at hl 3 rfl) ?_
        refine t_cVi (n := 2) (C := RX7) (T := TX7) (N := 7) (As := [.int p1, .int z5098]) (rest := []) X hT (kt18_X7_stands l G tag L F hT.2.2.2 p0 p1 z5098 m0 g0) m0 g0 rfl rfl qw_987 qw_853 qw_854 qw_22 qw_855 ⟨rfl, by decide +kernel, by decide +kernel, by decide +kernel⟩ ⟨Nat.le_of_ble_eq_true rfl, Nat.le_of_ble_eq_true rfl⟩ hl rfl rfl (Nat.le_of_ble_eq_true rfl) dX7_fallen_17 ⟨Nat.le_of_ble_eq_true rfl, Nat.le_of_ble_eq_true rfl⟩ (fun z5108 F9 H locs hT hz5108 => ?_)
        obtain ⟨fz5108, hz5108⟩ := hz5108
        rw [fz5108] at hT
        refine lv_if_ne (tgt := 26) hx hb dX7_fallen_20 (by decide) (fun c5109 => ?_) (fun c5109 => ?_)
        · have w5110 := cv_ne (rfl : z5108.toInt = z5108.toInt) (by decide : (0 : Int32).toInt = 0) c5109
          exact K26 z5097 _ _ _ (by omega) hT  (lv_sub hl [0, 1, 2, 3] rfl)
        · have w5111 := cv_eq (rfl : z5108.toInt = z5108.toInt) (by decide : (0 : Int32).toInt = 0) c5109
          obtain ⟨z5112, ez5112⟩ : ∃ y : Int32, y = z5097 + 1 := ⟨_, rfl⟩
          have rz5112 := rg_all z5112
          refine lv_iinc (v := z5112) (lv' := [(2, .int z5112), (0, .ref p0), (1, .int p1), (3, .int z5098)]) hx hb dX7_fallen_23 hl (k := 2) rfl (by rw [ez5112]; rfl) (by decide) rfl (fun ls hl => ?_)
          exact K26 z5112 _ _ _ (by omega) hT  (lv_sub hl [1, 2, 0, 3] rfl)
  refine lv_iconst (v := 0) hx hb dX7_fallen_0 (by decide) ?_
  refine lv_istore_n (lv' := [(2, .int 0), (0, .ref p0), (1, .int p1)]) hx hb dX7_fallen_1 rfl hl (by decide) rfl (fun ls hl => ?_)
  refine lv_iconst (v := 1) hx hb dX7_fallen_2 (by decide) ?_
  refine lv_istore_n (lv' := [(3, .int 1), (2, .int 0), (0, .ref p0), (1, .int p1)]) hx hb dX7_fallen_3 rfl hl (by decide) rfl (fun ls hl => ?_)
  have kk5113 : (0 : Int32).toInt = 0 := by decide
  have kk5114 : (1 : Int32).toInt = 1 := by decide
  exact K4 7 0 1 _ _ _ (by omega) (by decide) hT  (lv_sub hl [2, 3, 1, 0] rfl)
