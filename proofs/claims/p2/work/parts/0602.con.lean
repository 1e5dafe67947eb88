set_option maxHeartbeats 4000000 in
set_option maxRecDepth 100000 in
theorem kt306_X1_apart (l : Launch) (G : KG) (tag : Nat → Nat) (L : List Nat) (F : Nat → va_E) (ho : okT G ttC tag L F) (p0 : Nat) (p1 : Int32) (p2 : Int32) (p3 : Int32) (m0 : p0 ∈ L) (g0 : tag p0 = 18) (h1 : 0 ≤ p1.toInt ∧ p1.toInt ≤ 3) : TMi l yX1_apart cX1_apart 6 (some .int) { frames := 0, cells := 0, slots := 0, locals := 0 } G ttC tag L F [.ref p0, .int p1, .int p2, .int p3] (fun r F1 => F1 = F ∧ ((-2147483648) ≤ r.toInt ∧ r.toInt ≤ 2147483647)) := by
  refine t_bodyi (y := yX1_apart) (cd := cX1_apart) (mL := 6) (rt := (some .int)) (rm := { frames := 0, cells := 0, slots := 0, locals := 0 }) (av := [.ref p0, .int p1, .int p2, .int p3]) (by decide) (Nat.le_of_ble_eq_true rfl) ho ?_
  intro p e s m args below meth c ls A Q hQ X hT hl
  have hx := X.1.1
  have hb := X.1.2.1
  have hl : lv_has ls 6 [(0, .ref p0), (1, .int p1), (2, .int p2), (3, .int p3)] := hl
  have rp2 := rg_all p2
  have rp3 := rg_all p3
  have K60 : ∀ (z88974 : Int32) (z88975 : Int32) (H : Heap) (locs : List Loc) (ls : Array Slot), TH G ttC A s tag L F H locs → lv_has ls 6 [(0, .ref p0), (1, .int p1), (2, .int p2), (3, .int p3), (4, .int z88974)] → W p l e { frames := 0, cells := 0, slots := 0, locals := 0 } s m args below meth c H locs 0 0 Q (F0 m 60 ls [.int z88975]) := by
    intro z88974 z88975 H locs ls hT hl
    have rz88974 := rg_all z88974
    have rz88975 := rg_all z88975
    refine lv_istore (lv' := [(5, .int z88975), (0, .ref p0), (1, .int p1), (2, .int p2), (3, .int p3), (4, .int z88974)]) hx hb dX1_apart_60 hl (by decide) rfl (fun ls hl => ?_)
    refine lv_iload hx hb dX1_apart_62 (lv_at hl 5 rfl) ?_
    refine lv_iload hx hb dX1_apart_64 (lv_at hl 0 rfl) ?_
    refine lv_icmp_ge (tgt := 74) hx hb dX1_apart_66 (by decide) (fun c88976 => ?_) (fun c88976 => ?_)
    · have w88977 := cv_le (rfl : z88975.toInt = z88975.toInt) (rfl : z88974.toInt = z88974.toInt) c88976
      refine lv_iload hx hb dX1_apart_74 (lv_at hl 5 rfl) ?_
      exact t_iret hQ X hT (⟨rfl, rg_all _⟩) (Nat.le_of_ble_eq_true rfl) (Nat.le_of_ble_eq_true rfl) dX1_apart_76
    · have w88978 := cv_nle (rfl : z88975.toInt = z88975.toInt) (rfl : z88974.toInt = z88974.toInt) c88976
      refine lv_iload hx hb dX1_apart_69 (lv_at hl 0 rfl) ?_
      refine lv_goto (tgt := 76) hx hb dX1_apart_71 (by decide) ?_
      exact t_iret hQ X hT (⟨rfl, rg_all _⟩) (Nat.le_of_ble_eq_true rfl) (Nat.le_of_ble_eq_true rfl) dX1_apart_76
  have K29 : ∀ (z88979 : Int32) (H : Heap) (locs : List Loc) (ls : Array Slot), TH G ttC A s tag L F H locs → lv_has ls 6 [(0, .ref p0), (1, .int p1), (2, .int p2), (3, .int p3)] → W p l e { frames := 0, cells := 0, slots := 0, locals := 0 } s m args below meth c H locs 0 0 Q (F0 m 29 ls [.int z88979]) := by
    intro z88979 H locs ls hT hl
    have rz88979 := rg_all z88979
    refine lv_istore (lv' := [(4, .int z88979), (0, .ref p0), (1, .int p1), (2, .int p2), (3, .int p3)]) hx hb dX1_apart_29 hl (by decide) rfl (fun ls hl => ?_)
    refine lv_iload_n hx hb dX1_apart_31 rfl (lv_at hl 4 rfl) ?_
    refine lv_aload_n hx hb dX1_apart_32 rfl (lv_at hl 1 rfl) ?_
    refine t_get (C := RX1) (T := TX1) (N := 20) X hT m0 g0 rfl rfl 12 (by decide) qw_53 inlX1 rfl dX1_apart_33 (fun v88980 hv88980 ov88980 => ?_)
    obtain ⟨b88981, rfl, mb88981, gb88981⟩ := okV_r ov88980
    have gb88981 : tag b88981 = 4 := tg_of gb88981
    refine lv_iload_n hx hb dX1_apart_36 rfl (lv_at hl 2 rfl) ?_
    refine t_ild X hT mb88981 gb88981 rfl (by omega) dX1_apart_37 (fun z88982 vz88982 rz88982 => ?_)
    have rz88982 : 0 ≤ z88982.toInt ∧ z88982.toInt ≤ 11 := rz88982
    refine lv_icmp_ge (tgt := 52) hx hb dX1_apart_38 (by decide) (fun c88983 => ?_) (fun c88983 => ?_)
    · have w88984 := cv_le (rfl : z88982.toInt = z88982.toInt) (rfl : p3.toInt = p3.toInt) c88983
      refine lv_iload_n hx hb dX1_apart_52 rfl (lv_at hl 4 rfl) ?_
      refine lv_aload_n hx hb dX1_apart_53 rfl (lv_at hl 1 rfl) ?_
      refine t_get (C := RX1) (T := TX1) (N := 20) X hT m0 g0 rfl rfl 12 (by decide) qw_53 inlX1 rfl dX1_apart_54 (fun v88985 hv88985 ov88985 => ?_)
      obtain rfl : v88985 = .ref b88981 := hv88985.symm.trans hv88980
      refine lv_iload_n hx hb dX1_apart_57 rfl (lv_at hl 2 rfl) ?_
      refine t_ild X hT mb88981 gb88981 rfl (by omega) dX1_apart_58 (fun z88986 vz88986 rz88986 => ?_)
      obtain rfl : z88982 = z88986 := vz88982.symm.trans vz88986
      refine lv_isub hx hb dX1_apart_59 ?_
      refine lv_topi (fun z88987 ez88987 => ?_)
      have hz88987 : z88987.toInt = p3.toInt - z88982.toInt := ar_sub ez88987 (rfl : p3.toInt = p3.toInt) (rfl : z88982.toInt = z88982.toInt) (by omega) (by omega)
      have rz88987 : (-11) ≤ z88987.toInt ∧ z88987.toInt ≤ 2147483647 := by omega
      exact K60 z88979 z88987 _ _ _  hT  (lv_sub hl [1, 2, 3, 4, 0] rfl)
    · have w88988 := cv_nle (rfl : z88982.toInt = z88982.toInt) (rfl : p3.toInt = p3.toInt) c88983
      refine lv_aload_n hx hb dX1_apart_41 rfl (lv_at hl 1 rfl) ?_
      refine t_get (C := RX1) (T := TX1) (N := 20) X hT m0 g0 rfl rfl 12 (by decide) qw_53 inlX1 rfl dX1_apart_42 (fun v88989 hv88989 ov88989 => ?_)
      obtain rfl : v88989 = .ref b88981 := hv88989.symm.trans hv88980
      refine lv_iload_n hx hb dX1_apart_45 rfl (lv_at hl 2 rfl) ?_
      refine t_ild X hT mb88981 gb88981 rfl (by omega) dX1_apart_46 (fun z88990 vz88990 rz88990 => ?_)
      obtain rfl : z88982 = z88990 := vz88982.symm.trans vz88990
      refine lv_iload_n hx hb dX1_apart_47 rfl (lv_at hl 4 rfl) ?_
      refine lv_isub hx hb dX1_apart_48 ?_
      refine lv_topi (fun z88991 ez88991 => ?_)
      have rz88991 := rg_all z88991
      refine lv_goto (tgt := 60) hx hb dX1_apart_49 (by decide) ?_
      exact K60 z88979 z88991 _ _ _  hT  (lv_sub hl [1, 2, 3, 4, 0] rfl)
  refine lv_iload_n hx hb dX1_apart_0 rfl (lv_at hl 2 rfl) ?_
  refine lv_aload_n hx hb dX1_apart_1 rfl (lv_at hl 0 rfl) ?_
  refine t_get (C := RX1) (T := TX1) (N := 20) X hT m0 g0 rfl rfl 11 (by decide) qw_52 inlX1 rfl dX1_apart_2 (fun v88992 hv88992 ov88992 => ?_)
  obtain ⟨b88993, rfl, mb88993, gb88993⟩ := okV_r ov88992
  have gb88993 : tag b88993 = 4 := tg_of gb88993
  refine lv_iload_n hx hb dX1_apart_5 rfl (lv_at hl 1 rfl) ?_
  refine t_ild X hT mb88993 gb88993 rfl (by omega) dX1_apart_6 (fun z88994 vz88994 rz88994 => ?_)
  have rz88994 : 0 ≤ z88994.toInt ∧ z88994.toInt ≤ 11 := rz88994
  refine lv_icmp_ge (tgt := 21) hx hb dX1_apart_7 (by decide) (fun c88995 => ?_) (fun c88995 => ?_)
  · have w88996 := cv_le (rfl : z88994.toInt = z88994.toInt) (rfl : p2.toInt = p2.toInt) c88995
    refine lv_iload_n hx hb dX1_apart_21 rfl (lv_at hl 2 rfl) ?_
    refine lv_aload_n hx hb dX1_apart_22 rfl (lv_at hl 0 rfl) ?_
    refine t_get (C := RX1) (T := TX1) (N := 20) X hT m0 g0 rfl rfl 11 (by decide) qw_52 inlX1 rfl dX1_apart_23 (fun v88997 hv88997 ov88997 => ?_)
    obtain rfl : v88997 = .ref b88993 := hv88997.symm.trans hv88992
    refine lv_iload_n hx hb dX1_apart_26 rfl (lv_at hl 1 rfl) ?_
    refine t_ild X hT mb88993 gb88993 rfl (by omega) dX1_apart_27 (fun z88998 vz88998 rz88998 => ?_)
    obtain rfl : z88994 = z88998 := vz88994.symm.trans vz88998
    refine lv_isub hx hb dX1_apart_28 ?_
    refine lv_topi (fun z88999 ez88999 => ?_)
    have hz88999 : z88999.toInt = p2.toInt - z88994.toInt := ar_sub ez88999 (rfl : p2.toInt = p2.toInt) (rfl : z88994.toInt = z88994.toInt) (by omega) (by omega)
    have rz88999 : (-11) ≤ z88999.toInt ∧ z88999.toInt ≤ 2147483647 := by omega
    exact K29 z88999 _ _ _  hT  (lv_sub hl [0, 1, 2, 3] rfl)
  · have w89000 := cv_nle (rfl : z88994.toInt = z88994.toInt) (rfl : p2.toInt = p2.toInt) c88995
    refine lv_aload_n hx hb dX1_apart_10 rfl (lv_at hl 0 rfl) ?_
    refine t_get (C := RX1) (T := TX1) (N := 20) X hT m0 g0 rfl rfl 11 (by decide) qw_52 inlX1 rfl dX1_apart_11 (fun v89001 hv89001 ov89001 => ?_)
    obtain rfl : v89001 = .ref b88993 := hv89001.symm.trans hv88992
    refine lv_iload_n hx hb dX1_apart_14 rfl (lv_at hl 1 rfl) ?_
    refine t_ild X hT mb88993 gb88993 rfl (by omega) dX1_apart_15 (fun z89002 vz89002 rz89002 => ?_)
    obtain rfl : z88994 = z89002 := vz88994.symm.trans vz89002
    refine lv_iload_n hx hb dX1_apart_16 rfl (lv_at hl 2 rfl) ?_
    refine lv_isub hx hb dX1_apart_17 ?_
    refine lv_topi (fun z89003 ez89003 => ?_)
    have rz89003 := rg_all z89003
    refine lv_goto (tgt := 29) hx hb dX1_apart_18 (by decide) ?_
    exact K29 z89003 _ _ _  hT  (lv_sub hl [0, 1, 2, 3] rfl)
set_option maxHeartbeats 4000000 in
set_option maxRecDepth 100000 in
theorem kt307_X1_isTold (l : Launch) (G : KG) (tag : Nat → Nat) (L : List Nat) (F : Nat → va_E) (ho : okT G ttC tag L F) (p0 : Nat) (p1 : Int32) (p2 : Int32) (m0 : p0 ∈ L) (g0 : tag p0 = 18) (h1 : 0 ≤ p1.toInt ∧ p1.toInt ≤ 5) (h2 : 0 ≤ p2.toInt ∧ p2.toInt ≤ 5) : TMi l yX1_isTold cX1_isTold 3 (some .boolean) { frames := 0, cells := 0, slots := 0, locals := 0 } G ttC tag L F [.ref p0, .int p1, .int p2] (fun r F1 => F1 = F ∧ (0 ≤ r.toInt ∧ r.toInt ≤ 1)) := by
  refine t_bodyi (y := yX1_isTold) (cd := cX1_isTold) (mL := 3) (rt := (some .boolean)) (rm := { frames := 0, cells := 0, slots := 0, locals := 0 }) (av := [.ref p0, .int p1, .int p2]) (by decide) (Nat.le_of_ble_eq_true rfl) ho ?_
  intro p e s m args below meth c ls A Q hQ X hT hl
  have hx := X.1.1
  have hb := X.1.2.1
  have hl : lv_has ls 3 [(0, .ref p0), (1, .int p1), (2, .int p2)] := hl
  have K28 : ∀  (H : Heap) (locs : List Loc) (ls : Array Slot), TH G ttC A s tag L F H locs → lv_has ls 3 [(0, .ref p0), (1, .int p1), (2, .int p2)] → W p l e { frames := 0, cells := 0, slots := 0, locals := 0 } s m args below meth c H locs 0 0 Q (F0 m 28 ls []) := by
    intro H locs ls hT hl
    refine lv_iconst (v := 1) hx hb dX1_isTold_28 (by decide) ?_
    refine lv_goto (tgt := 33) hx hb dX1_isTold_29 (by decide) ?_
    exact t_zret hQ X hT (by decide) (⟨rfl, (by decide)⟩) (Nat.le_of_ble_eq_true rfl) (Nat.le_of_ble_eq_true rfl) dX1_isTold_33
  refine lv_aload_n hx hb dX1_isTold_0 rfl (lv_at hl 0 rfl) ?_
  refine t_get (C := RX1) (T := TX1) (N := 20) X hT m0 g0 rfl rfl 17 (by decide) qw_56 inlX1 rfl dX1_isTold_1 (fun v89180 hv89180 ov89180 => ?_)
  obtain ⟨b89181, rfl, mb89181, gb89181⟩ := okV_r ov89180
  have gb89181 : tag b89181 = 7 := tg_of gb89181
  refine lv_iload_n hx hb dX1_isTold_4 rfl (lv_at hl 2 rfl) ?_
  refine t_ild X hT mb89181 gb89181 rfl (by omega) dX1_isTold_5 (fun z89182 vz89182 rz89182 => ?_)
  have rz89182 : (-2147483648) ≤ z89182.toInt ∧ z89182.toInt ≤ 2147483647 := rz89182
  refine lv_iload_n hx hb dX1_isTold_6 rfl (lv_at hl 1 rfl) ?_
  refine lv_ishr hx hb dX1_isTold_7 ?_
  refine lv_topi (fun z89183 ez89183 => ?_)
  have rz89183 := rg_all z89183
  refine lv_iconst (v := 1) hx hb dX1_isTold_8 (by decide) ?_
  refine lv_iand hx hb dX1_isTold_9 ?_
  refine lv_topi (fun z89184 ez89184 => ?_)
  have rz89184 : 0 ≤ z89184.toInt ∧ z89184.toInt ≤ 1 := ar_and ez89184 1 (by decide) (by decide)
  refine lv_iconst (v := 1) hx hb dX1_isTold_10 (by decide) ?_
  refine lv_icmp_eq (tgt := 28) hx hb dX1_isTold_11 (by decide) (fun c89185 => ?_) (fun c89185 => ?_)
  · have w89186 := cv_eq (rfl : z89184.toInt = z89184.toInt) (by decide : (1 : Int32).toInt = 1) c89185
    exact K28  _ _ _  hT  (lv_sub hl [0, 1, 2] rfl)
  · have w89187 := cv_ne (rfl : z89184.toInt = z89184.toInt) (by decide : (1 : Int32).toInt = 1) c89185
    refine lv_aload_n hx hb dX1_isTold_14 rfl (lv_at hl 0 rfl) ?_
    refine t_get (C := RX1) (T := TX1) (N := 20) X hT m0 g0 rfl rfl 17 (by decide) qw_56 inlX1 rfl dX1_isTold_15 (fun v89188 hv89188 ov89188 => ?_)
    obtain rfl : v89188 = .ref b89181 := hv89188.symm.trans hv89180
    refine lv_iload_n hx hb dX1_isTold_18 rfl (lv_at hl 1 rfl) ?_
    refine t_ild X hT mb89181 gb89181 rfl (by omega) dX1_isTold_19 (fun z89189 vz89189 rz89189 => ?_)
    have rz89189 : (-2147483648) ≤ z89189.toInt ∧ z89189.toInt ≤ 2147483647 := rz89189
    refine lv_iload_n hx hb dX1_isTold_20 rfl (lv_at hl 2 rfl) ?_
    refine lv_ishr hx hb dX1_isTold_21 ?_
    refine lv_topi (fun z89190 ez89190 => ?_)
    have rz89190 := rg_all z89190
    refine lv_iconst (v := 1) hx hb dX1_isTold_22 (by decide) ?_
    refine lv_iand hx hb dX1_isTold_23 ?_
    refine lv_topi (fun z89191 ez89191 => ?_)
    have rz89191 : 0 ≤ z89191.toInt ∧ z89191.toInt ≤ 1 := ar_and ez89191 1 (by decide) (by decide)
    refine lv_iconst (v := 1) hx hb dX1_isTold_24 (by decide) ?_
    refine lv_icmp_ne (tgt := 32) hx hb dX1_isTold_25 (by decide) (fun c89192 => ?_) (fun c89192 => ?_)
    · have w89193 := cv_ne (rfl : z89191.toInt = z89191.toInt) (by decide : (1 : Int32).toInt = 1) c89192
      refine lv_iconst (v := 0) hx hb dX1_isTold_32 (by decide) ?_
      exact t_zret hQ X hT (by decide) (⟨rfl, (by decide)⟩) (Nat.le_of_ble_eq_true rfl) (Nat.le_of_ble_eq_true rfl) dX1_isTold_33
    · have w89194 := cv_eq (rfl : z89191.toInt = z89191.toInt) (by decide : (1 : Int32).toInt = 1) c89192
      exact K28  _ _ _  hT  (lv_sub hl [0, 1, 2] rfl)
set_option maxHeartbeats 4000000 in
set_option maxRecDepth 100000 in
theorem kt308_X7_clear (l : Launch) (G : KG) (tag : Nat → Nat) (L : List Nat) (Fo : Nat → va_E) (ho : okT G ttC tag L Fo) (p0 : Nat) (m0 : p0 ∈ L) (g0 : tag p0 = 19) : TMv l yX7_clear cX7_clear 2 { frames := 0, cells := 0, slots := 0, locals := 0 } G ttC tag L Fo [.ref p0] (fun F1 => ((∀ b j : Nat, (tag b ≠ 19 ∨ j ≠ 0) → (tag b ≠ 19 ∨ j ≠ 1) → fld F1 b j = fld Fo b j) ∧ EF tag F1 Fo)) := by
  refine t_bodyv (y := yX7_clear) (cd := cX7_clear) (mL := 2) (rm := { frames := 0, cells := 0, slots := 0, locals := 0 }) (av := [.ref p0]) (by decide) (Nat.le_of_ble_eq_true rfl) ho ?_
  intro p e s m args below meth c ls A Q hQ X hT hl
  have hx := X.1.1
  have hb := X.1.2.1
  have hl : lv_has ls 2 [(0, .ref p0)] := hl
  obtain ⟨F, hFo⟩ : ∃ F : Nat → va_E, F = Fo := ⟨_, rfl⟩
  rw [← hFo] at hT
  have hfr : (∀ b j : Nat, (tag b ≠ 19 ∨ j ≠ 0) → (tag b ≠ 19 ∨ j ≠ 1) → fld F b j = fld Fo b j) ∧ EF tag F Fo := by
    rw [hFo]
    exact ⟨by intros; rfl, fun _ _ _ => rfl⟩
  have K12 : ∀ (n : Nat) (z89337 : Int32) (z89338 : Int32) (z89339 : Int32) (F : Nat → va_E) (H : Heap) (locs : List Loc) (ls : Array Slot), (4 - z89337.toInt < (n : Int)) → (0 ≤ z89337.toInt ∧ z89337.toInt ≤ 4) → (0 ≤ z89338.toInt ∧ z89338.toInt ≤ 0) → (0 ≤ z89339.toInt ∧ z89339.toInt ≤ 0) → TH G ttC A s tag L F H locs → ((∀ b j : Nat, (tag b ≠ 19 ∨ j ≠ 0) → (tag b ≠ 19 ∨ j ≠ 1) → fld F b j = fld Fo b j) ∧ EF tag F Fo) → fld F p0 0 = .int z89338 → fld F p0 1 = .int z89339 → lv_has ls 2 [(0, .ref p0), (1, .int z89337)] → W p l e { frames := 0, cells := 0, slots := 0, locals := 0 } s m args below meth c H locs 0 0 Q (F0 m 12 ls []) := by
    intro n
    induction n with
    | zero =>
      intro z89337 z89338 z89339 F H locs ls hn rz89337 rz89338 rz89339 hT hfr qz89338 qz89339 hl
      exfalso
      omega
    | succ n ih12 =>
      intro z89337 z89338 z89339 F H locs ls hn rz89337 rz89338 rz89339 hT hfr qz89338 qz89339 hl
      refine lv_iload_n hx hb dX7_clear_12 rfl (lv_at hl 1 rfl) ?_
      refine lv_iconst (v := 4) hx hb dX7_clear_13 (by decide) ?_
      refine lv_icmp_ge (tgt := 30) hx hb dX7_clear_14 (by decide) (fun c89340 => ?_) (fun c89340 => ?_)
      · have w89341 := cv_le (by decide : (4 : Int32).toInt = 4) (rfl : z89337.toInt = z89337.toInt) c89340
        exact t_vret hQ X hT hfr (Nat.le_of_ble_eq_true rfl) (Nat.le_of_ble_eq_true rfl) dX7_clear_30
      · have w89342 := cv_nle (by decide : (4 : Int32).toInt = 4) (rfl : z89337.toInt = z89337.toInt) c89340
        refine lv_aload_n hx hb dX7_clear_17 rfl (lv_at hl 0 rfl) ?_
        refine t_get (C := RX7) (T := TX7) (N := 7) X hT m0 g0 rfl rfl 2 (by decide) qw_62 inlX7 rfl dX7_clear_18 (fun v89343 hv89343 ov89343 => ?_)
        obtain ⟨b89344, rfl, mb89344, gb89344⟩ := okV_r ov89343
        have gb89344 : tag b89344 = 8 := tg_of gb89344
        refine lv_iload_n hx hb dX7_clear_21 rfl (lv_at hl 1 rfl) ?_
        refine lv_iconst (v := 0) hx hb dX7_clear_22 (by decide) ?_
        refine t_ist X hT mb89344 gb89344 rfl (by omega) (show 0 ≤ (0 : Int32).toInt ∧ (0 : Int32).toInt ≤ 6 from (by decide)) dX7_clear_23 (fun F H locs hT v89345 h1v89345 h2v89345 => ?_)
        have qz89338 := (h2v89345 _ _).trans qz89338
        have qz89339 := (h2v89345 _ _).trans qz89339
        have hv89343 := (h2v89345 _ _).trans hv89343
        have hfr : (∀ b j : Nat, (tag b ≠ 19 ∨ j ≠ 0) → (tag b ≠ 19 ∨ j ≠ 1) → fld F b j = fld Fo b j) ∧ EF tag F Fo := ⟨fun b j n19_0 n19_1 => (h2v89345 b j).trans (hfr.1 b j n19_0 n19_1), fun b j hb => (h1v89345 b j (Or.inl (ns_ne hb gb89344 (by decide)))).trans (hfr.2 b j hb)⟩
        obtain ⟨z89346, ez89346⟩ : ∃ y : Int32, y = z89337 + 1 := ⟨_, rfl⟩
        have hz89346 : z89346.toInt = z89337.toInt + 1 := ar_add ez89346 rfl (by decide : (1 : Int32).toInt = 1) (by omega) (by omega)
        refine lv_iinc (v := z89346) (lv' := [(1, .int z89346), (0, .ref p0)]) hx hb dX7_clear_24 hl (k := 1) rfl (by rw [ez89346]; rfl) (by decide) rfl (fun ls hl => ?_)
        refine lv_goto (tgt := 12) hx hb dX7_clear_27 (by decide) ?_
        exact ih12 z89346 z89338 z89339 _ _ _ _ (by omega) (by omega) (by omega) (by omega) hT hfr qz89338 qz89339 (lv_sub hl [1, 0] rfl)
  refine lv_aload_n hx hb dX7_clear_0 rfl (lv_at hl 0 rfl) ?_
  refine lv_iconst (v := 0) hx hb dX7_clear_1 (by decide) ?_
  refine t_put (C := RX7) (T := TX7) (N := 7) (v := .int 0) X hT m0 g0 rfl tyX7 tyX7_ok nmX7 rfl 0 (by decide) qw_187 inlX7 rfl (by first | rfl | decide) (by first | rfl | decide) rfl (⟨_, rfl, (show (-2147483648) ≤ (0 : Int32).toInt from (by decide)), (show (0 : Int32).toInt ≤ 2147483647 from (by decide))⟩) dX7_clear_2 (fun F H locs hT v89347 h1v89347 h2v89347 => ?_)
  have hfr : (∀ b j : Nat, (tag b ≠ 19 ∨ j ≠ 0) → (tag b ≠ 19 ∨ j ≠ 1) → fld F b j = fld Fo b j) ∧ EF tag F Fo := ⟨fun b j n19_0 n19_1 => (h1v89347 b j (fr_ne g0 n19_0)).trans (hfr.1 b j n19_0 n19_1), fun b j hb => (h2v89347 b j).trans (hfr.2 b j hb)⟩
  refine lv_aload_n hx hb dX7_clear_5 rfl (lv_at hl 0 rfl) ?_
  refine lv_iconst (v := 0) hx hb dX7_clear_6 (by decide) ?_
  refine t_put (C := RX7) (T := TX7) (N := 7) (v := .int 0) X hT m0 g0 rfl tyX7 tyX7_ok nmX7 rfl 1 (by decide) qw_188 inlX7 rfl (by first | rfl | decide) (by first | rfl | decide) rfl (⟨_, rfl, (show (-2147483648) ≤ (0 : Int32).toInt from (by decide)), (show (0 : Int32).toInt ≤ 2147483647 from (by decide))⟩) dX7_clear_7 (fun F H locs hT v89348 h1v89348 h2v89348 => ?_)
  have v89347 := (h1v89348 _ _ (Or.inr (by decide))).trans v89347
  have hfr : (∀ b j : Nat, (tag b ≠ 19 ∨ j ≠ 0) → (tag b ≠ 19 ∨ j ≠ 1) → fld F b j = fld Fo b j) ∧ EF tag F Fo := ⟨fun b j n19_0 n19_1 => (h1v89348 b j (fr_ne g0 n19_1)).trans (hfr.1 b j n19_0 n19_1), fun b j hb => (h2v89348 b j).trans (hfr.2 b j hb)⟩
  refine lv_iconst (v := 0) hx hb dX7_clear_10 (by decide) ?_
  refine lv_istore_n (lv' := [(1, .int 0), (0, .ref p0)]) hx hb dX7_clear_11 rfl hl (by decide) rfl (fun ls hl => ?_)
  have kk89349 : (0 : Int32).toInt = 0 := by decide
  exact K12 5 0 0 0 _ _ _ _ (by omega) (by decide) (by decide) (by decide) hT hfr v89347 v89348 (lv_sub hl [1, 0] rfl)
set_option maxHeartbeats 4000000 in
set_option maxRecDepth 100000 in
theorem kt309_X7_partOf (l : Launch) (G : KG) (tag : Nat → Nat) (L : List Nat) (F : Nat → va_E) (ho : okT G ttC tag L F) (p0 : Nat) (p1 : Int32) (p2 : Int32) (p3 : Int32) (m0 : p0 ∈ L) (g0 : tag p0 = 19) : TMi l yX7_partOf cX7_partOf 5 (some .int) { frames := 0, cells := 0, slots := 0, locals := 0 } G ttC tag L F [.ref p0, .int p1, .int p2, .int p3] (fun r F1 => F1 = F ∧ ((-2147483648) ≤ r.toInt ∧ r.toInt ≤ 2147483647)) := by
  refine t_bodyi (y := yX7_partOf) (cd := cX7_partOf) (mL := 5) (rt := (some .int)) (rm := { frames := 0, cells := 0, slots := 0, locals := 0 }) (av := [.ref p0, .int p1, .int p2, .int p3]) (by decide) (Nat.le_of_ble_eq_true rfl) ho ?_
  intro p e s m args below meth c ls A Q hQ X hT hl
  have hx := X.1.1
  have hb := X.1.2.1
  have hl : lv_has ls 5 [(0, .ref p0), (1, .int p1), (2, .int p2), (3, .int p3)] := hl
  have rp1 := rg_all p1
  have rp2 := rg_all p2
  have rp3 := rg_all p3
  refine lv_iload_n hx hb dX7_partOf_0 rfl (lv_at hl 1 rfl) ?_
  refine lv_bipush (v := 6) hx hb dX7_partOf_1 (by decide) ?_
  refine lv_imul hx hb dX7_partOf_3 ?_
  refine lv_topi (fun z89526 ez89526 => ?_)
  have rz89526 := rg_all z89526
  refine lv_iload_n hx hb dX7_partOf_4 rfl (lv_at hl 2 rfl) ?_
  refine lv_iadd hx hb dX7_partOf_5 ?_
  refine lv_topi (fun z89527 ez89527 => ?_)
  have rz89527 := rg_all z89527
  refine lv_iconst (v := 1) hx hb dX7_partOf_6 (by decide) ?_
  refine lv_isub hx hb dX7_partOf_7 ?_
  refine lv_topi (fun z89528 ez89528 => ?_)
  have rz89528 := rg_all z89528
  refine lv_bipush (v := 8) hx hb dX7_partOf_8 (by decide) ?_
  refine lv_imul hx hb dX7_partOf_10 ?_
  refine lv_topi (fun z89529 ez89529 => ?_)
  have rz89529 := rg_all z89529
  refine lv_iload_n hx hb dX7_partOf_11 rfl (lv_at hl 3 rfl) ?_
  refine lv_iadd hx hb dX7_partOf_12 ?_
  refine lv_topi (fun z89530 ez89530 => ?_)
  have rz89530 := rg_all z89530
  refine lv_istore (lv' := [(4, .int z89530), (0, .ref p0), (1, .int p1), (2, .int p2), (3, .int p3)]) hx hb dX7_partOf_13 hl (by decide) rfl (fun ls hl => ?_)
  refine lv_iload hx hb dX7_partOf_15 (lv_at hl 0 rfl) ?_
  refine lv_if_lt (tgt := 40) hx hb dX7_partOf_17 (by decide) (fun c89531 => ?_) (fun c89531 => ?_)
  · have w89532 := cv_lt (rfl : z89530.toInt = z89530.toInt) (by decide : (0 : Int32).toInt = 0) c89531
    refine lv_iconst (v := 0) hx hb dX7_partOf_40 (by decide) ?_
    exact t_iret hQ X hT (⟨rfl, rg_all _⟩) (Nat.le_of_ble_eq_true rfl) (Nat.le_of_ble_eq_true rfl) dX7_partOf_41
  · have w89533 := cv_nlt (rfl : z89530.toInt = z89530.toInt) (by decide : (0 : Int32).toInt = 0) c89531
    refine lv_iload hx hb dX7_partOf_20 (lv_at hl 0 rfl) ?_
    refine lv_aload_n hx hb dX7_partOf_22 rfl (lv_at hl 1 rfl) ?_
    refine t_get (C := RX7) (T := TX7) (N := 7) X hT m0 g0 rfl rfl 6 (by decide) qw_66 inlX7 rfl dX7_partOf_23 (fun v89534 hv89534 ov89534 => ?_)
    obtain ⟨b89535, rfl, mb89535, gb89535⟩ := okV_r ov89534
    have gb89535 : tag b89535 = 9 := tg_of gb89535
    refine t_alen X hT mb89535 gb89535 rfl (by decide) dX7_partOf_26 ?_
    refine lv_topi (fun z89536 ez89536 => ?_)
    obtain rfl : z89536 = 192 := ez89536.trans (by rfl)
    refine lv_icmp_ge (tgt := 40) hx hb dX7_partOf_27 (by decide) (fun c89537 => ?_) (fun c89537 => ?_)
    · have w89538 := cv_le (by decide : (192 : Int32).toInt = 192) (rfl : z89530.toInt = z89530.toInt) c89537
      refine lv_iconst (v := 0) hx hb dX7_partOf_40 (by decide) ?_
      exact t_iret hQ X hT (⟨rfl, rg_all _⟩) (Nat.le_of_ble_eq_true rfl) (Nat.le_of_ble_eq_true rfl) dX7_partOf_41
    · have w89539 := cv_nle (by decide : (192 : Int32).toInt = 192) (rfl : z89530.toInt = z89530.toInt) c89537
      refine lv_aload_n hx hb dX7_partOf_30 rfl (lv_at hl 1 rfl) ?_
      refine t_get (C := RX7) (T := TX7) (N := 7) X hT m0 g0 rfl rfl 6 (by decide) qw_66 inlX7 rfl dX7_partOf_31 (fun v89540 hv89540 ov89540 => ?_)
      obtain rfl : v89540 = .ref b89535 := hv89540.symm.trans hv89534
      refine lv_iload hx hb dX7_partOf_34 (lv_at hl 0 rfl) ?_
      refine t_ild X hT mb89535 gb89535 rfl (by omega) dX7_partOf_36 (fun z89541 vz89541 rz89541 => ?_)
      have rz89541 : (-2147483648) ≤ z89541.toInt ∧ z89541.toInt ≤ 2147483647 := rz89541
      refine lv_goto (tgt := 41) hx hb dX7_partOf_37 (by decide) ?_
      exact t_iret hQ X hT (⟨rfl, rg_all _⟩) (Nat.le_of_ble_eq_true rfl) (Nat.le_of_ble_eq_true rfl) dX7_partOf_41
set_option maxHeartbeats 4000000 in
set_option maxRecDepth 100000 in
theorem kt310_X7_setPart (l : Launch) (G : KG) (tag : Nat → Nat) (L : List Nat) (Fo : Nat → va_E) (ho : okT G ttC tag L Fo) (p0 : Nat) (p1 : Int32) (p2 : Int32) (p3 : Int32) (p4 : Int32) (m0 : p0 ∈ L) (g0 : tag p0 = 19) : TMv l yX7_setPart cX7_setPart 6 { frames := 0, cells := 0, slots := 0, locals := 0 } G ttC tag L Fo [.ref p0, .int p1, .int p2, .int p3, .int p4] (fun F1 => ((∀ b j : Nat, fld F1 b j = fld Fo b j) ∧ EF tag F1 Fo)) := by
  refine t_bodyv (y := yX7_setPart) (cd := cX7_setPart) (mL := 6) (rm := { frames := 0, cells := 0, slots := 0, locals := 0 }) (av := [.ref p0, .int p1, .int p2, .int p3, .int p4]) (by decide) (Nat.le_of_ble_eq_true rfl) ho ?_
  intro p e s m args below meth c ls A Q hQ X hT hl
  have hx := X.1.1
  have hb := X.1.2.1
  have hl : lv_has ls 6 [(0, .ref p0), (1, .int p1), (2, .int p2), (3, .int p3), (4, .int p4)] := hl
  have rp1 := rg_all p1
  have rp2 := rg_all p2
  have rp3 := rg_all p3
  have rp4 := rg_all p4
  obtain ⟨F, hFo⟩ : ∃ F : Nat → va_E, F = Fo := ⟨_, rfl⟩
  rw [← hFo] at hT
  have hfr : (∀ b j : Nat, fld F b j = fld Fo b j) ∧ EF tag F Fo := by
    rw [hFo]
    exact ⟨by intros; rfl, fun _ _ _ => rfl⟩
  refine lv_iload_n hx hb dX7_setPart_0 rfl (lv_at hl 1 rfl) ?_
  refine lv_bipush (v := 6) hx hb dX7_setPart_1 (by decide) ?_
  refine lv_imul hx hb dX7_setPart_3 ?_
  refine lv_topi (fun z89718 ez89718 => ?_)
  have rz89718 := rg_all z89718
  refine lv_iload_n hx hb dX7_setPart_4 rfl (lv_at hl 2 rfl) ?_
  refine lv_iadd hx hb dX7_setPart_5 ?_
  refine lv_topi (fun z89719 ez89719 => ?_)
  have rz89719 := rg_all z89719
  refine lv_iconst (v := 1) hx hb dX7_setPart_6 (by decide) ?_
  refine lv_isub hx hb dX7_setPart_7 ?_
  refine lv_topi (fun z89720 ez89720 => ?_)
  have rz89720 := rg_all z89720
  refine lv_bipush (v := 8) hx hb dX7_setPart_8 (by decide) ?_
  refine lv_imul hx hb dX7_setPart_10 ?_
  refine lv_topi (fun z89721 ez89721 => ?_)
  have rz89721 := rg_all z89721
  refine lv_iload_n hx hb dX7_setPart_11 rfl (lv_at hl 3 rfl) ?_
  refine lv_iadd hx hb dX7_setPart_12 ?_
  refine lv_topi (fun z89722 ez89722 => ?_)
  have rz89722 := rg_all z89722
  refine lv_istore (lv' := [(5, .int z89722), (0, .ref p0), (1, .int p1), (2, .int p2), (3, .int p3), (4, .int p4)]) hx hb dX7_setPart_13 hl (by decide) rfl (fun ls hl => ?_)
  refine lv_iload hx hb dX7_setPart_15 (lv_at hl 0 rfl) ?_
  refine lv_if_lt (tgt := 39) hx hb dX7_setPart_17 (by decide) (fun c89723 => ?_) (fun c89723 => ?_)
  · have w89724 := cv_lt (rfl : z89722.toInt = z89722.toInt) (by decide : (0 : Int32).toInt = 0) c89723
    exact t_vret hQ X hT hfr (Nat.le_of_ble_eq_true rfl) (Nat.le_of_ble_eq_true rfl) dX7_setPart_39
  · have w89725 := cv_nlt (rfl : z89722.toInt = z89722.toInt) (by decide : (0 : Int32).toInt = 0) c89723
    refine lv_iload hx hb dX7_setPart_20 (lv_at hl 0 rfl) ?_
    refine lv_aload_n hx hb dX7_setPart_22 rfl (lv_at hl 1 rfl) ?_
    refine t_get (C := RX7) (T := TX7) (N := 7) X hT m0 g0 rfl rfl 6 (by decide) qw_66 inlX7 rfl dX7_setPart_23 (fun v89726 hv89726 ov89726 => ?_)
    obtain ⟨b89727, rfl, mb89727, gb89727⟩ := okV_r ov89726
    have gb89727 : tag b89727 = 9 := tg_of gb89727
    refine t_alen X hT mb89727 gb89727 rfl (by decide) dX7_setPart_26 ?_
    refine lv_topi (fun z89728 ez89728 => ?_)
    obtain rfl : z89728 = 192 := ez89728.trans (by rfl)
    refine lv_icmp_ge (tgt := 39) hx hb dX7_setPart_27 (by decide) (fun c89729 => ?_) (fun c89729 => ?_)
    · have w89730 := cv_le (by decide : (192 : Int32).toInt = 192) (rfl : z89722.toInt = z89722.toInt) c89729
      exact t_vret hQ X hT hfr (Nat.le_of_ble_eq_true rfl) (Nat.le_of_ble_eq_true rfl) dX7_setPart_39
    · have w89731 := cv_nle (by decide : (192 : Int32).toInt = 192) (rfl : z89722.toInt = z89722.toInt) c89729
      refine lv_aload_n hx hb dX7_setPart_30 rfl (lv_at hl 1 rfl) ?_
      refine t_get (C := RX7) (T := TX7) (N := 7) X hT m0 g0 rfl rfl 6 (by decide) qw_66 inlX7 rfl dX7_setPart_31 (fun v89732 hv89732 ov89732 => ?_)
      obtain rfl : v89732 = .ref b89727 := hv89732.symm.trans hv89726
      refine lv_iload hx hb dX7_setPart_34 (lv_at hl 0 rfl) ?_
      refine lv_iload hx hb dX7_setPart_36 (lv_at hl 5 rfl) ?_
      refine t_ist X hT mb89727 gb89727 rfl (by omega) (show (-2147483648) ≤ (p4 : Int32).toInt ∧ (p4 : Int32).toInt ≤ 2147483647 from (by omega)) dX7_setPart_38 (fun F H locs hT v89733 h1v89733 h2v89733 => ?_)
      have hv89726 := (h2v89733 _ _).trans hv89726
      have hfr : (∀ b j : Nat, fld F b j = fld Fo b j) ∧ EF tag F Fo := ⟨fun b j  => (h2v89733 b j).trans (hfr.1 b j ), fun b j hb => (h1v89733 b j (Or.inl (ns_ne hb gb89727 (by decide)))).trans (hfr.2 b j hb)⟩
      exact t_vret hQ X hT hfr (Nat.le_of_ble_eq_true rfl) (Nat.le_of_ble_eq_true rfl) dX7_setPart_39
set_option maxHeartbeats 4000000 in
set_option maxRecDepth 100000 in
theorem kt311_X7_addSkin (l : Launch) (G : KG) (tag : Nat → Nat) (L : List Nat) (Fo : Nat → va_E) (ho : okT G ttC tag L Fo) (p0 : Nat) (p1 : Int32) (p2 : Int32) (p3 : Int32) (p4 : Int32) (p5 : Int32) (p6 : Int32) (m0 : p0 ∈ L) (g0 : tag p0 = 19) (h1 : 0 ≤ p1.toInt ∧ p1.toInt ≤ 3) : TMv l yX7_addSkin cX7_addSkin 8 { frames := 1, cells := 0, slots := 0, locals := 25 } G ttC tag L Fo [.ref p0, .int p1, .int p2, .int p3, .int p4, .int p5, .int p6] (fun F1 => ((∀ b j : Nat, fld F1 b j = fld Fo b j) ∧ EF tag F1 Fo)) := by
  refine t_bodyv (y := yX7_addSkin) (cd := cX7_addSkin) (mL := 8) (rm := { frames := 1, cells := 0, slots := 0, locals := 25 }) (av := [.ref p0, .int p1, .int p2, .int p3, .int p4, .int p5, .int p6]) (by decide) (Nat.le_of_ble_eq_true rfl) ho ?_
  intro p e s m args below meth c ls A Q hQ X hT hl
  have hx := X.1.1
  have hb := X.1.2.1
  have hl : lv_has ls 8 [(0, .ref p0), (1, .int p1), (2, .int p2), (3, .int p3), (4, .int p4), (5, .int p5), (6, .int p6)] := hl
  have rp2 := rg_all p2
  have rp3 := rg_all p3
  have rp4 := rg_all p4
  have rp5 := rg_all p5
  have rp6 := rg_all p6
  obtain ⟨F, hFo⟩ : ∃ F : Nat → va_E, F = Fo := ⟨_, rfl⟩
  rw [← hFo] at hT
  have hfr : (∀ b j : Nat, fld F b j = fld Fo b j) ∧ EF tag F Fo := by
    rw [hFo]
    exact ⟨by intros; rfl, fun _ _ _ => rfl⟩
  refine lv_aload_n hx hb dX7_addSkin_0 rfl (lv_at hl 0 rfl) ?_
  refine t_get (C := RX7) (T := TX7) (N := 7) X hT m0 g0 rfl rfl 2 (by decide) qw_62 inlX7 rfl dX7_addSkin_1 (fun v89954 hv89954 ov89954 => ?_)
  obtain ⟨b89955, rfl, mb89955, gb89955⟩ := okV_r ov89954
  have gb89955 : tag b89955 = 8 := tg_of gb89955
  refine lv_iload_n hx hb dX7_addSkin_4 rfl (lv_at hl 1 rfl) ?_
  refine t_ild X hT mb89955 gb89955 rfl (by omega) dX7_addSkin_5 (fun z89956 vz89956 rz89956 => ?_)
  have rz89956 : 0 ≤ z89956.toInt ∧ z89956.toInt ≤ 6 := rz89956
  refine lv_bipush (v := 6) hx hb dX7_addSkin_6 (by decide) ?_
  refine lv_icmp_lt (tgt := 12) hx hb dX7_addSkin_8 (by decide) (fun c89957 => ?_) (fun c89957 => ?_)
  · have w89958 := cv_lt (rfl : z89956.toInt = z89956.toInt) (by decide : (6 : Int32).toInt = 6) c89957
    refine lv_aload_n hx hb dX7_addSkin_12 rfl (lv_at hl 0 rfl) ?_
    refine t_get (C := RX7) (T := TX7) (N := 7) X hT m0 g0 rfl rfl 2 (by decide) qw_62 inlX7 rfl dX7_addSkin_13 (fun v89959 hv89959 ov89959 => ?_)
    obtain rfl : v89959 = .ref b89955 := hv89959.symm.trans hv89954
    refine lv_iload_n hx hb dX7_addSkin_16 rfl (lv_at hl 1 rfl) ?_
    refine lv_dup2_11 hx hb dX7_addSkin_17 rfl rfl ?_
    refine t_ild X hT mb89955 gb89955 rfl (by omega) dX7_addSkin_18 (fun z89960 vz89960 rz89960 => ?_)
    obtain rfl : z89956 = z89960 := vz89956.symm.trans vz89960
    refine lv_iconst (v := 1) hx hb dX7_addSkin_19 (by decide) ?_
    refine lv_iadd hx hb dX7_addSkin_20 ?_
    refine lv_topi (fun z89961 ez89961 => ?_)
    have hz89961 : z89961.toInt = z89956.toInt + 1 := ar_add ez89961 (rfl : z89956.toInt = z89956.toInt) (by decide : (1 : Int32).toInt = 1) (by omega) (by omega)
    have rz89961 : 1 ≤ z89961.toInt ∧ z89961.toInt ≤ 6 := by omega
    refine t_ist X hT mb89955 gb89955 rfl (by omega) (show 0 ≤ (z89961 : Int32).toInt ∧ (z89961 : Int32).toInt ≤ 6 from (by omega)) dX7_addSkin_21 (fun F H locs hT v89962 h1v89962 h2v89962 => ?_)
    have hv89954 := (h2v89962 _ _).trans hv89954
    have hfr : (∀ b j : Nat, fld F b j = fld Fo b j) ∧ EF tag F Fo := ⟨fun b j  => (h2v89962 b j).trans (hfr.1 b j ), fun b j hb => (h1v89962 b j (Or.inl (ns_ne hb gb89955 (by decide)))).trans (hfr.2 b j hb)⟩
    refine lv_aload_n hx hb dX7_addSkin_22 rfl (lv_at hl 0 rfl) ?_
    refine t_get (C := RX7) (T := TX7) (N := 7) X hT m0 g0 rfl rfl 2 (by decide) qw_62 inlX7 rfl dX7_addSkin_23 (fun v89963 hv89963 ov89963 => ?_)
    obtain rfl : v89963 = .ref b89955 := hv89963.symm.trans hv89954
    refine lv_iload_n hx hb dX7_addSkin_26 rfl (lv_at hl 1 rfl) ?_
    refine t_ild X hT mb89955 gb89955 rfl (by omega) dX7_addSkin_27 (fun z89964 vz89964 rz89964 => ?_)
    obtain rfl : z89961 = z89964 := v89962.symm.trans vz89964
    refine lv_istore (lv' := [(7, .int z89961), (0, .ref p0), (1, .int p1), (2, .int p2), (3, .int p3), (4, .int p4), (5, .int p5), (6, .int p6)]) hx hb dX7_addSkin_28 hl (by decide) rfl (fun ls hl => ?_)
    refine lv_aload_n hx hb dX7_addSkin_30 rfl (lv_at hl 1 rfl) ?_
    refine lv_iload_n hx hb dX7_addSkin_31 rfl (lv_at hl 2 rfl) ?_
    refine lv_iload hx hb dX7_addSkin_32 (lv_at hl 0 rfl) ?_
    refine lv_iconst (v := 0) hx hb dX7_addSkin_34 (by decide) ?_
    refine lv_iload_n hx hb dX7_addSkin_35 rfl (lv_at hl 3 rfl) ?_
    refine t_cVv (n := 4) (C := RX7) (T := TX7) (N := 7) (As := [.int p1, .int z89961, .int 0, .int p2]) (rest := []) X hT (kt310_X7_setPart l G tag L F hT.2.2.2 p0 p1 z89961 0 p2 m0 g0) m0 g0 rfl rfl qw_422 qw_423 qw_424 qw_22 qw_425 ⟨rfl, by decide +kernel, by decide +kernel, by decide +kernel⟩ ⟨Nat.le_of_ble_eq_true rfl, Nat.le_of_ble_eq_true rfl⟩ hl rfl rfl (Nat.le_of_ble_eq_true rfl) dX7_addSkin_36 ⟨Nat.le_of_ble_eq_true rfl, Nat.le_of_ble_eq_true rfl⟩ (fun F H locs hT hz89965 => ?_)
    have yz89965 := hz89965
    have hv89954 := (yz89965.1 _ 2 ).trans hv89954
    have hfr : (∀ b j : Nat, fld F b j = fld Fo b j) ∧ EF tag F Fo := ⟨fun b j  => (yz89965.1 b j ).trans (hfr.1 b j ), fun b j hb => (yz89965.2 b j hb).trans (hfr.2 b j hb)⟩
    refine lv_aload_n hx hb dX7_addSkin_39 rfl (lv_at hl 1 rfl) ?_
    refine lv_iload_n hx hb dX7_addSkin_40 rfl (lv_at hl 2 rfl) ?_
    refine lv_iload hx hb dX7_addSkin_41 (lv_at hl 0 rfl) ?_
    refine lv_iconst (v := 1) hx hb dX7_addSkin_43 (by decide) ?_
    refine lv_iload_n hx hb dX7_addSkin_44 rfl (lv_at hl 4 rfl) ?_
    refine t_cVv (n := 4) (C := RX7) (T := TX7) (N := 7) (As := [.int p1, .int z89961, .int 1, .int p3]) (rest := []) X hT (kt310_X7_setPart l G tag L F hT.2.2.2 p0 p1 z89961 1 p3 m0 g0) m0 g0 rfl rfl qw_422 qw_423 qw_424 qw_22 qw_425 ⟨rfl, by decide +kernel, by decide +kernel, by decide +kernel⟩ ⟨Nat.le_of_ble_eq_true rfl, Nat.le_of_ble_eq_true rfl⟩ hl rfl rfl (Nat.le_of_ble_eq_true rfl) dX7_addSkin_45 ⟨Nat.le_of_ble_eq_true rfl, Nat.le_of_ble_eq_true rfl⟩ (fun F H locs hT hz89966 => ?_)
    have yz89966 := hz89966
    have hv89954 := (yz89966.1 _ 2 ).trans hv89954
    have hfr : (∀ b j : Nat, fld F b j = fld Fo b j) ∧ EF tag F Fo := ⟨fun b j  => (yz89966.1 b j ).trans (hfr.1 b j ), fun b j hb => (yz89966.2 b j hb).trans (hfr.2 b j hb)⟩
    refine lv_aload_n hx hb dX7_addSkin_48 rfl (lv_at hl 1 rfl) ?_
    refine lv_iload_n hx hb dX7_addSkin_49 rfl (lv_at hl 2 rfl) ?_
    refine lv_iload hx hb dX7_addSkin_50 (lv_at hl 0 rfl) ?_
    refine lv_iconst (v := 2) hx hb dX7_addSkin_52 (by decide) ?_
    refine lv_iload hx hb dX7_addSkin_53 (lv_at hl 5 rfl) ?_
    refine t_cVv (n := 4) (C := RX7) (T := TX7) (N := 7) (As := [.int p1, .int z89961, .int 2, .int p4]) (rest := []) X hT (kt310_X7_setPart l G tag L F hT.2.2.2 p0 p1 z89961 2 p4 m0 g0) m0 g0 rfl rfl qw_422 qw_423 qw_424 qw_22 qw_425 ⟨rfl, by decide +kernel, by decide +kernel, by decide +kernel⟩ ⟨Nat.le_of_ble_eq_true rfl, Nat.le_of_ble_eq_true rfl⟩ hl rfl rfl (Nat.le_of_ble_eq_true rfl) dX7_addSkin_55 ⟨Nat.le_of_ble_eq_true rfl, Nat.le_of_ble_eq_true rfl⟩ (fun F H locs hT hz89967 => ?_)
    have yz89967 := hz89967
    have hv89954 := (yz89967.1 _ 2 ).trans hv89954
    have hfr : (∀ b j : Nat, fld F b j = fld Fo b j) ∧ EF tag F Fo := ⟨fun b j  => (yz89967.1 b j ).trans (hfr.1 b j ), fun b j hb => (yz89967.2 b j hb).trans (hfr.2 b j hb)⟩
    refine lv_aload_n hx hb dX7_addSkin_58 rfl (lv_at hl 1 rfl) ?_
    refine lv_iload_n hx hb dX7_addSkin_59 rfl (lv_at hl 2 rfl) ?_
    refine lv_iload hx hb dX7_addSkin_60 (lv_at hl 0 rfl) ?_
    refine lv_iconst (v := 3) hx hb dX7_addSkin_62 (by decide) ?_
    refine lv_iload hx hb dX7_addSkin_63 (lv_at hl 6 rfl) ?_
    refine t_cVv (n := 4) (C := RX7) (T := TX7) (N := 7) (As := [.int p1, .int z89961, .int 3, .int p5]) (rest := []) X hT (kt310_X7_setPart l G tag L F hT.2.2.2 p0 p1 z89961 3 p5 m0 g0) m0 g0 rfl rfl qw_422 qw_423 qw_424 qw_22 qw_425 ⟨rfl, by decide +kernel, by decide +kernel, by decide +kernel⟩ ⟨Nat.le_of_ble_eq_true rfl, Nat.le_of_ble_eq_true rfl⟩ hl rfl rfl (Nat.le_of_ble_eq_true rfl) dX7_addSkin_65 ⟨Nat.le_of_ble_eq_true rfl, Nat.le_of_ble_eq_true rfl⟩ (fun F H locs hT hz89968 => ?_)
    have yz89968 := hz89968
    have hv89954 := (yz89968.1 _ 2 ).trans hv89954
    have hfr : (∀ b j : Nat, fld F b j = fld Fo b j) ∧ EF tag F Fo := ⟨fun b j  => (yz89968.1 b j ).trans (hfr.1 b j ), fun b j hb => (yz89968.2 b j hb).trans (hfr.2 b j hb)⟩
    refine lv_aload_n hx hb dX7_addSkin_68 rfl (lv_at hl 1 rfl) ?_
    refine lv_iload_n hx hb dX7_addSkin_69 rfl (lv_at hl 2 rfl) ?_
    refine lv_iload hx hb dX7_addSkin_70 (lv_at hl 0 rfl) ?_
    refine lv_iconst (v := 4) hx hb dX7_addSkin_72 (by decide) ?_
    refine lv_iconst (v := 0) hx hb dX7_addSkin_73 (by decide) ?_
    refine t_cVv (n := 4) (C := RX7) (T := TX7) (N := 7) (As := [.int p1, .int z89961, .int 4, .int 0]) (rest := []) X hT (kt310_X7_setPart l G tag L F hT.2.2.2 p0 p1 z89961 4 0 m0 g0) m0 g0 rfl rfl qw_422 qw_423 qw_424 qw_22 qw_425 ⟨rfl, by decide +kernel, by decide +kernel, by decide +kernel⟩ ⟨Nat.le_of_ble_eq_true rfl, Nat.le_of_ble_eq_true rfl⟩ hl rfl rfl (Nat.le_of_ble_eq_true rfl) dX7_addSkin_74 ⟨Nat.le_of_ble_eq_true rfl, Nat.le_of_ble_eq_true rfl⟩ (fun F H locs hT hz89969 => ?_)
    have yz89969 := hz89969
    have hv89954 := (yz89969.1 _ 2 ).trans hv89954
    have hfr : (∀ b j : Nat, fld F b j = fld Fo b j) ∧ EF tag F Fo := ⟨fun b j  => (yz89969.1 b j ).trans (hfr.1 b j ), fun b j hb => (yz89969.2 b j hb).trans (hfr.2 b j hb)⟩
    refine lv_aload_n hx hb dX7_addSkin_77 rfl (lv_at hl 1 rfl) ?_
    refine lv_iload_n hx hb dX7_addSkin_78 rfl (lv_at hl 2 rfl) ?_
    refine lv_iload hx hb dX7_addSkin_79 (lv_at hl 0 rfl) ?_
    refine lv_iconst (v := 5) hx hb dX7_addSkin_81 (by decide) ?_
    refine lv_iconst (v := 0) hx hb dX7_addSkin_82 (by decide) ?_
    refine t_cVv (n := 4) (C := RX7) (T := TX7) (N := 7) (As := [.int p1, .int z89961, .int 5, .int 0]) (rest := []) X hT (kt310_X7_setPart l G tag L F hT.2.2.2 p0 p1 z89961 5 0 m0 g0) m0 g0 rfl rfl qw_422 qw_423 qw_424 qw_22 qw_425 ⟨rfl, by decide +kernel, by decide +kernel, by decide +kernel⟩ ⟨Nat.le_of_ble_eq_true rfl, Nat.le_of_ble_eq_true rfl⟩ hl rfl rfl (Nat.le_of_ble_eq_true rfl) dX7_addSkin_83 ⟨Nat.le_of_ble_eq_true rfl, Nat.le_of_ble_eq_true rfl⟩ (fun F H locs hT hz89970 => ?_)
    have yz89970 := hz89970
    have hv89954 := (yz89970.1 _ 2 ).trans hv89954
    have hfr : (∀ b j : Nat, fld F b j = fld Fo b j) ∧ EF tag F Fo := ⟨fun b j  => (yz89970.1 b j ).trans (hfr.1 b j ), fun b j hb => (yz89970.2 b j hb).trans (hfr.2 b j hb)⟩
    refine lv_aload_n hx hb dX7_addSkin_86 rfl (lv_at hl 1 rfl) ?_
    refine lv_iload_n hx hb dX7_addSkin_87 rfl (lv_at hl 2 rfl) ?_
    refine lv_iload hx hb dX7_addSkin_88 (lv_at hl 0 rfl) ?_
    refine lv_bipush (v := 6) hx hb dX7_addSkin_90 (by decide) ?_
    refine lv_iconst (v := 0) hx hb dX7_addSkin_92 (by decide) ?_
    refine t_cVv (n := 4) (C := RX7) (T := TX7) (N := 7) (As := [.int p1, .int z89961, .int 6, .int 0]) (rest := []) X hT (kt310_X7_setPart l G tag L F hT.2.2.2 p0 p1 z89961 6 0 m0 g0) m0 g0 rfl rfl qw_422 qw_423 qw_424 qw_22 qw_425 ⟨rfl, by decide +kernel, by decide +kernel, by decide +kernel⟩ ⟨Nat.le_of_ble_eq_true rfl, Nat.le_of_ble_eq_true rfl⟩ hl rfl rfl (Nat.le_of_ble_eq_true rfl) dX7_addSkin_93 ⟨Nat.le_of_ble_eq_true rfl, Nat.le_of_ble_eq_true rfl⟩ (fun F H locs hT hz89971 => ?_)
    have yz89971 := hz89971
    have hv89954 := (yz89971.1 _ 2 ).trans hv89954
    have hfr : (∀ b j : Nat, fld F b j = fld Fo b j) ∧ EF tag F Fo := ⟨fun b j  => (yz89971.1 b j ).trans (hfr.1 b j ), fun b j hb => (yz89971.2 b j hb).trans (hfr.2 b j hb)⟩
    refine lv_aload_n hx hb dX7_addSkin_96 rfl (lv_at hl 1 rfl) ?_
    refine lv_iload_n hx hb dX7_addSkin_97 rfl (lv_at hl 2 rfl) ?_
    refine lv_iload hx hb dX7_addSkin_98 (lv_at hl 0 rfl) ?_
    refine lv_bipush (v := 7) hx hb dX7_addSkin_100 (by decide) ?_
    refine lv_iload hx hb dX7_addSkin_102 (lv_at hl 7 rfl) ?_
    refine t_cVv (n := 4) (C := RX7) (T := TX7) (N := 7) (As := [.int p1, .int z89961, .int 7, .int p6]) (rest := []) X hT (kt310_X7_setPart l G tag L F hT.2.2.2 p0 p1 z89961 7 p6 m0 g0) m0 g0 rfl rfl qw_422 qw_423 qw_424 qw_22 qw_425 ⟨rfl, by decide +kernel, by decide +kernel, by decide +kernel⟩ ⟨Nat.le_of_ble_eq_true rfl, Nat.le_of_ble_eq_true rfl⟩ hl rfl rfl (Nat.le_of_ble_eq_true rfl) dX7_addSkin_104 ⟨Nat.le_of_ble_eq_true rfl, Nat.le_of_ble_eq_true rfl⟩ (fun F H locs hT hz89972 => ?_)
    have yz89972 := hz89972
    have hv89954 := (yz89972.1 _ 2 ).trans hv89954
    have hfr : (∀ b j : Nat, fld F b j = fld Fo b j) ∧ EF tag F Fo := ⟨fun b j  => (yz89972.1 b j ).trans (hfr.1 b j ), fun b j hb => (yz89972.2 b j hb).trans (hfr.2 b j hb)⟩
    exact t_vret hQ X hT hfr (Nat.le_of_ble_eq_true rfl) (Nat.le_of_ble_eq_true rfl) dX7_addSkin_107
  · have w89973 := cv_nlt (rfl : z89956.toInt = z89956.toInt) (by decide : (6 : Int32).toInt = 6) c89957
    exact t_vret hQ X hT hfr (Nat.le_of_ble_eq_true rfl) (Nat.le_of_ble_eq_true rfl) dX7_addSkin_11
set_option maxHeartbeats 4000000 in
set_option maxRecDepth 100000 in
theorem kt312_X7_stands (l : Launch) (G : KG) (tag : Nat → Nat) (L : List Nat) (F : Nat → va_E) (ho : okT G ttC tag L F) (p0 : Nat) (p1 : Int32) (p2 : Int32) (m0 : p0 ∈ L) (g0 : tag p0 = 19) : TMi l yX7_stands cX7_stands 3 (some .boolean) { frames := 1, cells := 0, slots := 0, locals := 24 } G ttC tag L F [.ref p0, .int p1, .int p2] (fun r F1 => F1 = F ∧ (0 ≤ r.toInt ∧ r.toInt ≤ 1)) := by
  refine t_bodyi (y := yX7_stands) (cd := cX7_stands) (mL := 3) (rt := (some .boolean)) (rm := { frames := 1, cells := 0, slots := 0, locals := 24 }) (av := [.ref p0, .int p1, .int p2]) (by decide) (Nat.le_of_ble_eq_true rfl) ho ?_
  intro p e s m args below meth c ls A Q hQ X hT hl
  have hx := X.1.1
  have hb := X.1.2.1
  have hl : lv_has ls 3 [(0, .ref p0), (1, .int p1), (2, .int p2)] := hl
  have rp1 := rg_all p1
  have rp2 := rg_all p2
  refine lv_aload_n hx hb dX7_stands_0 rfl (lv_at hl 0 rfl) ?_
  refine lv_iload_n hx hb dX7_stands_1 rfl (lv_at hl 1 rfl) ?_
  refine lv_iload_n hx hb dX7_stands_2 rfl (lv_at hl 2 rfl) ?_
  refine lv_iconst (v := 5) hx hb dX7_stands_3 (by decide) ?_
  refine t_cVi (n := 3) (C := RX7) (T := TX7) (N := 7) (As := [.int p1, .int p2, .int 5]) (rest := []) X hT (kt309_X7_partOf l G tag L F hT.2.2.2 p0 p1 p2 5 m0 g0) m0 g0 rfl rfl qw_856 qw_778 qw_779 qw_22 qw_780 ⟨rfl, by decide +kernel, by decide +kernel, by decide +kernel⟩ ⟨Nat.le_of_ble_eq_true rfl, Nat.le_of_ble_eq_true rfl⟩ hl rfl rfl (Nat.le_of_ble_eq_true rfl) dX7_stands_4 ⟨Nat.le_of_ble_eq_true rfl, Nat.le_of_ble_eq_true rfl⟩ (fun z90018 F9 H locs hT hz90018 => ?_)
  obtain ⟨fz90018, hz90018⟩ := hz90018
  rw [fz90018] at hT
  refine lv_if_ne (tgt := 14) hx hb dX7_stands_7 (by decide) (fun c90019 => ?_) (fun c90019 => ?_)
  · have w90020 := cv_ne (rfl : z90018.toInt = z90018.toInt) (by decide : (0 : Int32).toInt = 0) c90019
    refine lv_iconst (v := 0) hx hb dX7_stands_14 (by decide) ?_
    exact t_zret hQ X hT (by decide) (⟨rfl, (by decide)⟩) (Nat.le_of_ble_eq_true rfl) (Nat.le_of_ble_eq_true rfl) dX7_stands_15
  · have w90021 := cv_eq (rfl : z90018.toInt = z90018.toInt) (by decide : (0 : Int32).toInt = 0) c90019
    refine lv_iconst (v := 1) hx hb dX7_stands_10 (by decide) ?_
    refine lv_goto (tgt := 15) hx hb dX7_stands_11 (by decide) ?_
    exact t_zret hQ X hT (by decide) (⟨rfl, (by decide)⟩) (Nat.le_of_ble_eq_true rfl) (Nat.le_of_ble_eq_true rfl) dX7_stands_15
set_option maxHeartbeats 4000000 in
set_option maxRecDepth 100000 in
theorem kt313_X7_isOpen (l : Launch) (G : KG) (tag : Nat → Nat) (L : List Nat) (F : Nat → va_E) (ho : okT G ttC tag L F) (p0 : Nat) (p1 : Int32) (p2 : Int32) (m0 : p0 ∈ L) (g0 : tag p0 = 19) : TMi l yX7_isOpen cX7_isOpen 3 (some .boolean) { frames := 2, cells := 0, slots := 0, locals := 46 } G ttC tag L F [.ref p0, .int p1, .int p2] (fun r F1 => F1 = F ∧ (0 ≤ r.toInt ∧ r.toInt ≤ 1)) := by
  refine t_bodyi (y := yX7_isOpen) (cd := cX7_isOpen) (mL := 3) (rt := (some .boolean)) (rm := { frames := 2, cells := 0, slots := 0, locals := 46 }) (av := [.ref p0, .int p1, .int p2]) (by decide) (Nat.le_of_ble_eq_true rfl) ho ?_
  intro p e s m args below meth c ls A Q hQ X hT hl
  have hx := X.1.1
  have hb := X.1.2.1
  have hl : lv_has ls 3 [(0, .ref p0), (1, .int p1), (2, .int p2)] := hl
  have rp1 := rg_all p1
  have rp2 := rg_all p2
  refine lv_aload_n hx hb dX7_isOpen_0 rfl (lv_at hl 0 rfl) ?_
  refine lv_iload_n hx hb dX7_isOpen_1 rfl (lv_at hl 1 rfl) ?_
  refine lv_iload_n hx hb dX7_isOpen_2 rfl (lv_at hl 2 rfl) ?_
  refine t_cVi (n := 2) (C := RX7) (T := TX7) (N := 7) (As := [.int p1, .int p2]) (rest := []) X hT (kt312_X7_stands l G tag L F hT.2.2.2 p0 p1 p2 m0 g0) m0 g0 rfl rfl qw_987 qw_853 qw_854 qw_22 qw_855 ⟨rfl, by decide +kernel, by decide +kernel, by decide +kernel⟩ ⟨Nat.le_of_ble_eq_true rfl, Nat.le_of_ble_eq_true rfl⟩ hl rfl rfl (Nat.le_of_ble_eq_true rfl) dX7_isOpen_3 ⟨Nat.le_of_ble_eq_true rfl, Nat.le_of_ble_eq_true rfl⟩ (fun z90110 F9 H locs hT hz90110 => ?_)
  obtain ⟨fz90110, hz90110⟩ := hz90110
  rw [fz90110] at hT
  refine lv_if_eq (tgt := 24) hx hb dX7_isOpen_6 (by decide) (fun c90111 => ?_) (fun c90111 => ?_)
  · have w90112 := cv_eq (rfl : z90110.toInt = z90110.toInt) (by decide : (0 : Int32).toInt = 0) c90111
    refine lv_iconst (v := 0) hx hb dX7_isOpen_24 (by decide) ?_
    exact t_zret hQ X hT (by decide) (⟨rfl, (by decide)⟩) (Nat.le_of_ble_eq_true rfl) (Nat.le_of_ble_eq_true rfl) dX7_isOpen_25
  · have w90113 := cv_ne (rfl : z90110.toInt = z90110.toInt) (by decide : (0 : Int32).toInt = 0) c90111
    refine lv_aload_n hx hb dX7_isOpen_9 rfl (lv_at hl 0 rfl) ?_
    refine lv_iload_n hx hb dX7_isOpen_10 rfl (lv_at hl 1 rfl) ?_
    refine lv_iload_n hx hb dX7_isOpen_11 rfl (lv_at hl 2 rfl) ?_
    refine lv_bipush (v := 6) hx hb dX7_isOpen_12 (by decide) ?_
    refine t_cVi (n := 3) (C := RX7) (T := TX7) (N := 7) (As := [.int p1, .int p2, .int 6]) (rest := []) X hT (kt309_X7_partOf l G tag L F hT.2.2.2 p0 p1 p2 6 m0 g0) m0 g0 rfl rfl qw_856 qw_778 qw_779 qw_22 qw_780 ⟨rfl, by decide +kernel, by decide +kernel, by decide +kernel⟩ ⟨Nat.le_of_ble_eq_true rfl, Nat.le_of_ble_eq_true rfl⟩ hl rfl rfl (Nat.le_of_ble_eq_true rfl) dX7_isOpen_14 ⟨Nat.le_of_ble_eq_true rfl, Nat.le_of_ble_eq_true rfl⟩ (fun z90114 F9 H locs hT hz90114 => ?_)
    obtain ⟨fz90114, hz90114⟩ := hz90114
    rw [fz90114] at hT
    refine lv_if_ne (tgt := 24) hx hb dX7_isOpen_17 (by decide) (fun c90115 => ?_) (fun c90115 => ?_)
    · have w90116 := cv_ne (rfl : z90114.toInt = z90114.toInt) (by decide : (0 : Int32).toInt = 0) c90115
      refine lv_iconst (v := 0) hx hb dX7_isOpen_24 (by decide) ?_
      exact t_zret hQ X hT (by decide) (⟨rfl, (by decide)⟩) (Nat.le_of_ble_eq_true rfl) (Nat.le_of_ble_eq_true rfl) dX7_isOpen_25
    · have w90117 := cv_eq (rfl : z90114.toInt = z90114.toInt) (by decide : (0 : Int32).toInt = 0) c90115
      refine lv_iconst (v := 1) hx hb dX7_isOpen_20 (by decide) ?_
      refine lv_goto (tgt := 25) hx hb dX7_isOpen_21 (by decide) ?_
      exact t_zret hQ X hT (by decide) (⟨rfl, (by decide)⟩) (Nat.le_of_ble_eq_true rfl) (Nat.le_of_ble_eq_true rfl) dX7_isOpen_25
set_option maxHeartbeats 4000000 in
set_option maxRecDepth 100000 in
theorem kt314_X7_isCrowded (l : Launch) (G : KG) (tag : Nat → Nat) (L : List Nat) (F : Nat → va_E) (ho : okT G ttC tag L F) (p0 : Nat) (p1 : Int32) (m0 : p0 ∈ L) (g0 : tag p0 = 19) (h1 : 0 ≤ p1.toInt ∧ p1.toInt ≤ 3) : TMi l yX7_isCrowded cX7_isCrowded 3 (some .boolean) { frames := 0, cells := 0, slots := 0, locals := 0 } G ttC tag L F [.ref p0, .int p1] (fun r F1 => F1 = F ∧ (0 ≤ r.toInt ∧ r.toInt ≤ 1)) := by
  refine t_bodyi (y := yX7_isCrowded) (cd := cX7_isCrowded) (mL := 3) (rt := (some .boolean)) (rm := { frames := 0, cells := 0, slots := 0, locals := 0 }) (av := [.ref p0, .int p1]) (by decide) (Nat.le_of_ble_eq_true rfl) ho ?_
  intro p e s m args below meth c ls A Q hQ X hT hl
  have hx := X.1.1
  have hb := X.1.2.1
  have hl : lv_has ls 3 [(0, .ref p0), (1, .int p1)] := hl
  have K22 : ∀ (z90294 : Int32) (H : Heap) (locs : List Loc) (ls : Array Slot), (1 ≤ z90294.toInt ∧ z90294.toInt ≤ 48) → TH G ttC A s tag L F H locs → lv_has ls 3 [(0, .ref p0), (1, .int p1)] → W p l e { frames := 0, cells := 0, slots := 0, locals := 0 } s m args below meth c H locs 0 0 Q (F0 m 22 ls [.int z90294]) := by
    intro z90294 H locs ls rz90294 hT hl
    refine lv_istore_n (lv' := [(2, .int z90294), (0, .ref p0), (1, .int p1)]) hx hb dX7_isCrowded_22 rfl hl (by decide) rfl (fun ls hl => ?_)
    refine lv_aload_n hx hb dX7_isCrowded_23 rfl (lv_at hl 1 rfl) ?_
    refine t_get (C := RX7) (T := TX7) (N := 7) X hT m0 g0 rfl rfl 3 (by decide) qw_63 inlX7 rfl dX7_isCrowded_24 (fun v90295 hv90295 ov90295 => ?_)
    obtain ⟨b90296, rfl, mb90296, gb90296⟩ := okV_r ov90295
    have gb90296 : tag b90296 = 5 := tg_of gb90296
    refine lv_iload_n hx hb dX7_isCrowded_27 rfl (lv_at hl 2 rfl) ?_
    refine t_ild X hT mb90296 gb90296 rfl (by omega) dX7_isCrowded_28 (fun z90297 vz90297 rz90297 => ?_)
    have rz90297 : (-2147483648) ≤ z90297.toInt ∧ z90297.toInt ≤ 2147483647 := rz90297
    refine lv_iload_n hx hb dX7_isCrowded_29 rfl (lv_at hl 0 rfl) ?_
    refine lv_icmp_le (tgt := 37) hx hb dX7_isCrowded_30 (by decide) (fun c90298 => ?_) (fun c90298 => ?_)
    · have w90299 := cv_le (rfl : z90297.toInt = z90297.toInt) (rfl : z90294.toInt = z90294.toInt) c90298
      refine lv_iconst (v := 0) hx hb dX7_isCrowded_37 (by decide) ?_
      exact t_zret hQ X hT (by decide) (⟨rfl, (by decide)⟩) (Nat.le_of_ble_eq_true rfl) (Nat.le_of_ble_eq_true rfl) dX7_isCrowded_38
    · have w90300 := cv_nle (rfl : z90297.toInt = z90297.toInt) (rfl : z90294.toInt = z90294.toInt) c90298
      refine lv_iconst (v := 1) hx hb dX7_isCrowded_33 (by decide) ?_
      refine lv_goto (tgt := 38) hx hb dX7_isCrowded_34 (by decide) ?_
      exact t_zret hQ X hT (by decide) (⟨rfl, (by decide)⟩) (Nat.le_of_ble_eq_true rfl) (Nat.le_of_ble_eq_true rfl) dX7_isCrowded_38
  refine lv_aload_n hx hb dX7_isCrowded_0 rfl (lv_at hl 0 rfl) ?_
  refine t_get (C := RX7) (T := TX7) (N := 7) X hT m0 g0 rfl rfl 2 (by decide) qw_62 inlX7 rfl dX7_isCrowded_1 (fun v90301 hv90301 ov90301 => ?_)
  obtain ⟨b90302, rfl, mb90302, gb90302⟩ := okV_r ov90301
  have gb90302 : tag b90302 = 8 := tg_of gb90302
  refine lv_iload_n hx hb dX7_isCrowded_4 rfl (lv_at hl 1 rfl) ?_
  refine t_ild X hT mb90302 gb90302 rfl (by omega) dX7_isCrowded_5 (fun z90303 vz90303 rz90303 => ?_)
  have rz90303 : 0 ≤ z90303.toInt ∧ z90303.toInt ≤ 6 := rz90303
  refine lv_if_ne (tgt := 13) hx hb dX7_isCrowded_6 (by decide) (fun c90304 => ?_) (fun c90304 => ?_)
  · have w90305 := cv_ne (rfl : z90303.toInt = z90303.toInt) (by decide : (0 : Int32).toInt = 0) c90304
    refine lv_bipush (v := 8) hx hb dX7_isCrowded_13 (by decide) ?_
    refine lv_aload_n hx hb dX7_isCrowded_15 rfl (lv_at hl 0 rfl) ?_
    refine t_get (C := RX7) (T := TX7) (N := 7) X hT m0 g0 rfl rfl 2 (by decide) qw_62 inlX7 rfl dX7_isCrowded_16 (fun v90306 hv90306 ov90306 => ?_)
    obtain rfl : v90306 = .ref b90302 := hv90306.symm.trans hv90301
    refine lv_iload_n hx hb dX7_isCrowded_19 rfl (lv_at hl 1 rfl) ?_
    refine t_ild X hT mb90302 gb90302 rfl (by omega) dX7_isCrowded_20 (fun z90307 vz90307 rz90307 => ?_)
    obtain rfl : z90303 = z90307 := vz90303.symm.trans vz90307
    refine lv_imul hx hb dX7_isCrowded_21 ?_
    refine lv_topi (fun z90308 ez90308 => ?_)
    have hz90308 : z90308.toInt = 8 * z90303.toInt := ar_mul ez90308 (by decide : (8 : Int32).toInt = 8) (rfl : z90303.toInt = z90303.toInt) (by omega) (by omega)
    have rz90308 : 8 ≤ z90308.toInt ∧ z90308.toInt ≤ 48 := by omega
    exact K22 z90308 _ _ _ (by omega) hT  (lv_sub hl [0, 1] rfl)
  · have w90309 := cv_eq (rfl : z90303.toInt = z90303.toInt) (by decide : (0 : Int32).toInt = 0) c90304
    refine lv_iconst (v := 1) hx hb dX7_isCrowded_9 (by decide) ?_
    refine lv_goto (tgt := 22) hx hb dX7_isCrowded_10 (by decide) ?_
    exact K22 1 _ _ _ (by decide) hT  (lv_sub hl [0, 1] rfl)
set_option maxHeartbeats 4000000 in
set_option maxRecDepth 100000 in
theorem kt315_X7_inmost (l : Launch) (G : KG) (tag : Nat → Nat) (L : List Nat) (F : Nat → va_E) (ho : okT G ttC tag L F) (p0 : Nat) (p1 : Int32) (m0 : p0 ∈ L) (g0 : tag p0 = 19) (h1 : 0 ≤ p1.toInt ∧ p1.toInt ≤ 3) : TMi l yX7_inmost cX7_inmost 3 (some .int) { frames := 2, cells := 0, slots := 0, locals := 46 } G ttC tag L F [.ref p0, .int p1] (fun r F1 => F1 = F ∧ (0 ≤ r.toInt ∧ r.toInt ≤ 6)) := by
  refine t_bodyi (y := yX7_inmost) (cd := cX7_inmost) (mL := 3) (rt := (some .int)) (rm := { frames := 2, cells := 0, slots := 0, locals := 46 }) (av := [.ref p0, .int p1]) (by decide) (Nat.le_of_ble_eq_true rfl) ho ?_
  intro p e s m args below meth c ls A Q hQ X hT hl
  have hx := X.1.1
  have hb := X.1.2.1
  have hl : lv_has ls 3 [(0, .ref p0), (1, .int p1)] := hl
  have K2 : ∀ (n : Nat) (z90514 : Int32) (H : Heap) (locs : List Loc) (ls : Array Slot), (7 - z90514.toInt < (n : Int)) → (1 ≤ z90514.toInt ∧ z90514.toInt ≤ 7) → TH G ttC A s tag L F H locs → lv_has ls 3 [(0, .ref p0), (1, .int p1), (2, .int z90514)] → W p l e { frames := 2, cells := 0, slots := 0, locals := 46 } s m args below meth c H locs 0 0 Q (F0 m 2 ls []) := by
    intro n
    induction n with
    | zero =>
      intro z90514 H locs ls hn rz90514 hT hl
      exfalso
      omega
    | succ n ih2 =>
      intro z90514 H locs ls hn rz90514 hT hl
      refine lv_iload_n hx hb dX7_inmost_2 rfl (lv_at hl 2 rfl) ?_
      refine lv_aload_n hx hb dX7_inmost_3 rfl (lv_at hl 0 rfl) ?_
      refine t_get (C := RX7) (T := TX7) (N := 7) X hT m0 g0 rfl rfl 2 (by decide) qw_62 inlX7 rfl dX7_inmost_4 (fun v90515 hv90515 ov90515 => ?_)
      obtain ⟨b90516, rfl, mb90516, gb90516⟩ := okV_r ov90515
      have gb90516 : tag b90516 = 8 := tg_of gb90516
      refine lv_iload_n hx hb dX7_inmost_7 rfl (lv_at hl 1 rfl) ?_
      refine t_ild X hT mb90516 gb90516 rfl (by omega) dX7_inmost_8 (fun z90517 vz90517 rz90517 => ?_)
      have rz90517 : 0 ≤ z90517.toInt ∧ z90517.toInt ≤ 6 := rz90517
      refine lv_icmp_gt (tgt := 29) hx hb dX7_inmost_9 (by decide) (fun c90518 => ?_) (fun c90518 => ?_)
      · have w90519 := cv_lt (rfl : z90517.toInt = z90517.toInt) (rfl : z90514.toInt = z90514.toInt) c90518
        refine lv_iconst (v := 0) hx hb dX7_inmost_29 (by decide) ?_
        exact t_iret hQ X hT (⟨rfl, (by decide)⟩) (Nat.le_of_ble_eq_true rfl) (Nat.le_of_ble_eq_true rfl) dX7_inmost_30
      · have w90520 := cv_nlt (rfl : z90517.toInt = z90517.toInt) (rfl : z90514.toInt = z90514.toInt) c90518
        refine lv_aload_n hx hb dX7_inmost_12 rfl (lv_at hl 0 rfl) ?_
        refine lv_iload_n hx hb dX7_inmost_13 rfl (lv_at hl 1 rfl) ?_
        refine lv_iload_n hx hb dX7_inmost_14 rfl (lv_at hl 2 rfl) ?_
        refine t_cVi (n := 2) (C := RX7) (T := TX7) (N := 7) (As := [.int p1, .int z90514]) (rest := []) X hT (kt312_X7_stands l G tag L F hT.2.2.2 p0 p1 z90514 m0 g0) m0 g0 rfl rfl qw_987 qw_853 qw_854 qw_22 qw_855 ⟨rfl, by decide +kernel, by decide +kernel, by decide +kernel⟩ ⟨Nat.le_of_ble_eq_true rfl, Nat.le_of_ble_eq_true rfl⟩ hl rfl rfl (Nat.le_of_ble_eq_true rfl) dX7_inmost_15 ⟨Nat.le_of_ble_eq_true rfl, Nat.le_of_ble_eq_true rfl⟩ (fun z90521 F9 H locs hT hz90521 => ?_)
        obtain ⟨fz90521, hz90521⟩ := hz90521
        rw [fz90521] at hT
        refine lv_if_eq (tgt := 23) hx hb dX7_inmost_18 (by decide) (fun c90522 => ?_) (fun c90522 => ?_)
        · have w90523 := cv_eq (rfl : z90521.toInt = z90521.toInt) (by decide : (0 : Int32).toInt = 0) c90522
          obtain ⟨z90524, ez90524⟩ : ∃ y : Int32, y = z90514 + 1 := ⟨_, rfl⟩
          have hz90524 : z90524.toInt = z90514.toInt + 1 := ar_add ez90524 rfl (by decide : (1 : Int32).toInt = 1) (by omega) (by omega)
          refine lv_iinc (v := z90524) (lv' := [(2, .int z90524), (0, .ref p0), (1, .int p1)]) hx hb dX7_inmost_23 hl (k := 2) rfl (by rw [ez90524]; rfl) (by decide) rfl (fun ls hl => ?_)
          refine lv_goto (tgt := 2) hx hb dX7_inmost_26 (by decide) ?_
          exact ih2 z90524 _ _ _ (by omega) (by omega) hT  (lv_sub hl [1, 2, 0] rfl)
        · have w90525 := cv_ne (rfl : z90521.toInt = z90521.toInt) (by decide : (0 : Int32).toInt = 0) c90522
          refine lv_iload_n hx hb dX7_inmost_21 rfl (lv_at hl 2 rfl) ?_
          exact t_iret hQ X hT (⟨rfl, (by omega)⟩) (Nat.le_of_ble_eq_true rfl) (Nat.le_of_ble_eq_true rfl) dX7_inmost_22
  refine lv_iconst (v := 1) hx hb dX7_inmost_0 (by decide) ?_
  refine lv_istore_n (lv' := [(2, .int 1), (0, .ref p0), (1, .int p1)]) hx hb dX7_inmost_1 rfl hl (by decide) rfl (fun ls hl => ?_)
  have kk90526 : (1 : Int32).toInt = 1 := by decide
  exact K2 7 1 _ _ _ (by omega) (by decide) hT  (lv_sub hl [1, 2, 0] rfl)
set_option maxHeartbeats 4000000 in
set_option maxRecDepth 100000 in
theorem kt316_X7_fallen (l : Launch) (G : KG) (tag : Nat → Nat) (L : List Nat) (F : Nat → va_E) (ho : okT G ttC tag L F) (p0 : Nat) (p1 : Int32) (m0 : p0 ∈ L) (g0 : tag p0 = 19) (h1 : 0 ≤ p1.toInt ∧ p1.toInt ≤ 3) : TMi l yX7_fallen cX7_fallen 4 (some .int) { frames := 2, cells := 0, slots := 0, locals := 46 } G ttC tag L F [.ref p0, .int p1] (fun r F1 => F1 = F ∧ ((-2147483648) ≤ r.toInt ∧ r.toInt ≤ 2147483647)) := by
  refine t_bodyi (y := yX7_fallen) (cd := cX7_fallen) (mL := 4) (rt := (some .int)) (rm := { frames := 2, cells := 0, slots := 0, locals := 46 }) (av := [.ref p0, .int p1]) (by decide) (Nat.le_of_ble_eq_true rfl) ho ?_
  intro p e s m args below meth c ls A Q hQ X hT hl
  have hx := X.1.1
  have hb := X.1.2.1
  have hl : lv_has ls 4 [(0, .ref p0), (1, .int p1)] := hl
  have K4 : ∀ (n : Nat) (z91085 : Int32) (z91086 : Int32) (H : Heap) (locs : List Loc) (ls : Array Slot), (7 - z91086.toInt < (n : Int)) → (1 ≤ z91086.toInt ∧ z91086.toInt ≤ 7) → TH G ttC A s tag L F H locs → lv_has ls 4 [(0, .ref p0), (1, .int p1), (2, .int z91085), (3, .int z91086)] → W p l e { frames := 2, cells := 0, slots := 0, locals := 46 } s m args below meth c H locs 0 0 Q (F0 m 4 ls []) := by
    intro n
    induction n with
    | zero =>
      intro z91085 z91086 H locs ls hn rz91086 hT hl
      have rz91085 := rg_all z91085
      exfalso
      omega
    | succ n ih4 =>
      intro z91085 z91086 H locs ls hn rz91086 hT hl
      have rz91085 := rg_all z91085
      have K26 : ∀ (z91087 : Int32) (H : Heap) (locs : List Loc) (ls : Array Slot), (1 ≤ z91086.toInt ∧ z91086.toInt ≤ 6) → TH G ttC A s tag L F H locs → lv_has ls 4 [(0, .ref p0), (1, .int p1), (2, .int z91087), (3, .int z91086)] → W p l e { frames := 2, cells := 0, slots := 0, locals := 46 } s m args below meth c H locs 0 0 Q (F0 m 26 ls []) := by
        intro z91087 H locs ls r9s91088 hT hl
        have rz91087 := rg_all z91087
        obtain ⟨z91089, ez91089⟩ : ∃ y : Int32, y = z91086 + 1 := ⟨_, rfl⟩
        have hz91089 : z91089.toInt = z91086.toInt + 1 := ar_add ez91089 rfl (by decide : (1 : Int32).toInt = 1) (by omega) (by omega)
        refine lv_iinc (v := z91089) (lv' := [(3, .int z91089), (0, .ref p0), (1, .int p1), (2, .int z91087)]) hx hb dX7_fallen_26 hl (k := 3) rfl (by rw [ez91089]; rfl) (by decide) rfl (fun ls hl => ?_)
        refine lv_goto (tgt := 4) hx hb dX7_fallen_29 (by decide) ?_
        exact ih4 z91087 z91089 _ _ _ (by omega) (by omega) hT  (lv_sub hl [1, 2, 3, 0] rfl)
      refine lv_iload_n hx hb dX7_fallen_4 rfl (lv_at hl 3 rfl) ?_
      refine lv_aload_n hx hb dX7_fallen_5 rfl (lv_at hl 0 rfl) ?_
      refine t_get (C := RX7) (T := TX7) (N := 7) X hT m0 g0 rfl rfl 2 (by decide) qw_62 inlX7 rfl dX7_fallen_6 (fun v91090 hv91090 ov91090 => ?_)
      obtain ⟨b91091, rfl, mb91091, gb91091⟩ := okV_r ov91090
      have gb91091 : tag b91091 = 8 := tg_of gb91091
      refine lv_iload_n hx hb dX7_fallen_9 rfl (lv_at hl 1 rfl) ?_
      refine t_ild X hT mb91091 gb91091 rfl (by omega) dX7_fallen_10 (fun z91092 vz91092 rz91092 => ?_)
      have rz91092 : 0 ≤ z91092.toInt ∧ z91092.toInt ≤ 6 := rz91092
      refine lv_icmp_gt (tgt := 32) hx hb dX7_fallen_11 (by decide) (fun c91093 => ?_) (fun c91093 => ?_)
      · have w91094 := cv_lt (rfl : z91092.toInt = z91092.toInt) (rfl : z91086.toInt = z91086.toInt) c91093
        refine lv_iload_n hx hb dX7_fallen_32 rfl (lv_at hl 2 rfl) ?_
        exact t_iret hQ X hT (⟨rfl, rg_all _⟩) (Nat.le_of_ble_eq_true rfl) (Nat.le_of_ble_eq_true rfl) dX7_fallen_33
      · have w91095 := cv_nlt (rfl : z91092.toInt = z91092.toInt) (rfl : z91086.toInt = z91086.toInt) c91093
        refine lv_aload_n hx hb dX7_fallen_14 rfl (lv_at hl 0 rfl) ?_
        refine lv_iload_n hx hb dX7_fallen_15 rfl (lv_at hl 1 rfl) ?_
        refine lv_iload_n hx hb dX7_fallen_16 rfl (lv_at hl 3 rfl) ?_
        refine t_cVi (n := 2) (C := RX7) (T := TX7) (N := 7) (As := [.int p1, .int z91086]) (rest := []) X hT (kt312_X7_stands l G tag L F hT.2.2.2 p0 p1 z91086 m0 g0) m0 g0 rfl rfl qw_987 qw_853 qw_854 qw_22 qw_855 ⟨rfl, by decide +kernel, by decide +kernel, by decide +kernel⟩ ⟨Nat.le_of_ble_eq_true rfl, Nat.le_of_ble_eq_true rfl⟩ hl rfl rfl (Nat.le_of_ble_eq_true rfl) dX7_fallen_17 ⟨Nat.le_of_ble_eq_true rfl, Nat.le_of_ble_eq_true rfl⟩ (fun z91096 F9 H locs hT hz91096 => ?_)
        obtain ⟨fz91096, hz91096⟩ := hz91096
        rw [fz91096] at hT
        refine lv_if_ne (tgt := 26) hx hb dX7_fallen_20 (by decide) (fun c91097 => ?_) (fun c91097 => ?_)
        · have w91098 := cv_ne (rfl : z91096.toInt = z91096.toInt) (by decide : (0 : Int32).toInt = 0) c91097
          exact K26 z91085 _ _ _ (by omega) hT  (lv_sub hl [0, 1, 2, 3] rfl)
        · have w91099 := cv_eq (rfl : z91096.toInt = z91096.toInt) (by decide : (0 : Int32).toInt = 0) c91097
          obtain ⟨z91100, ez91100⟩ : ∃ y : Int32, y = z91085 + 1 := ⟨_, rfl⟩
          have rz91100 := rg_all z91100
          refine lv_iinc (v := z91100) (lv' := [(2, .int z91100), (0, .ref p0), (1, .int p1), (3, .int z91086)]) hx hb dX7_fallen_23 hl (k := 2) rfl (by rw [ez91100]; rfl) (by decide) rfl (fun ls hl => ?_)
          exact K26 z91100 _ _ _ (by omega) hT  (lv_sub hl [1, 2, 0, 3] rfl)
  refine lv_iconst (v := 0) hx hb dX7_fallen_0 (by decide) ?_
  refine lv_istore_n (lv' := [(2, .int 0), (0, .ref p0), (1, .int p1)]) hx hb dX7_fallen_1 rfl hl (by decide) rfl (fun ls hl => ?_)
  refine lv_iconst (v := 1) hx hb dX7_fallen_2 (by decide) ?_
  refine lv_istore_n (lv' := [(3, .int 1), (2, .int 0), (0, .ref p0), (1, .int p1)]) hx hb dX7_fallen_3 rfl hl (by decide) rfl (fun ls hl => ?_)
  have kk91101 : (0 : Int32).toInt = 0 := by decide
  have kk91102 : (1 : Int32).toInt = 1 := by decide
  exact K4 7 0 1 _ _ _ (by omega) (by decide) hT  (lv_sub hl [2, 3, 1, 0] rfl)
