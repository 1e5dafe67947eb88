set_option maxHeartbeats 4000000 in
set_option maxRecDepth 100000 in
theorem kt345_X5_swap (l : Launch) (G : KG) (tag : Nat → Nat) (L : List Nat) (Fo : Nat → va_E) (ho : okT G ttC tag L Fo) (p0 : Nat) (p1 : Int32) (p2 : Int32) (m0 : p0 ∈ L) (g0 : tag p0 = 10) (h1 : 0 ≤ p1.toInt ∧ p1.toInt ≤ 3) (h2 : 0 ≤ p2.toInt ∧ p2.toInt ≤ 3) : TMv l yX5_swap cX5_swap 4 { frames := 0, cells := 0, slots := 0, locals := 0 } G ttC tag L Fo [.ref p0, .int p1, .int p2] (fun F1 => ((∀ b j : Nat, fld F1 b j = fld Fo b j) ∧ EF tag F1 Fo)) := by
  refine t_bodyv (y := yX5_swap) (cd := cX5_swap) (mL := 4) (rm := { frames := 0, cells := 0, slots := 0, locals := 0 }) (av := [.ref p0, .int p1, .int p2]) (by decide) (Nat.le_of_ble_eq_true rfl) ho ?_
  intro p e s m args below meth c ls A Q hQ X hT hl
  have hx := X.1.1
  have hb := X.1.2.1
  have hl : lv_has ls 4 [(0, .ref p0), (1, .int p1), (2, .int p2)] := hl
  obtain ⟨F, hFo⟩ : ∃ F : Nat → va_E, F = Fo := ⟨_, rfl⟩
  rw [← hFo] at hT
  have hfr : (∀ b j : Nat, fld F b j = fld Fo b j) ∧ EF tag F Fo := by
    rw [hFo]
    exact ⟨by intros; rfl, fun _ _ _ => rfl⟩
  refine lv_aload_n hx hb dX5_swap_0 rfl (lv_at hl 0 rfl) ?_
  refine lv_iload_n hx hb dX5_swap_1 rfl (lv_at hl 1 rfl) ?_
  refine t_ild X hT m0 g0 rfl (by omega) dX5_swap_2 (fun z103730 vz103730 rz103730 => ?_)
  have rz103730 : 0 ≤ z103730.toInt ∧ z103730.toInt ≤ 3 := rz103730
  refine lv_istore_n (lv' := [(3, .int z103730), (0, .ref p0), (1, .int p1), (2, .int p2)]) hx hb dX5_swap_3 rfl hl (by decide) rfl (fun ls hl => ?_)
  refine lv_aload_n hx hb dX5_swap_4 rfl (lv_at hl 1 rfl) ?_
  refine lv_iload_n hx hb dX5_swap_5 rfl (lv_at hl 2 rfl) ?_
  refine lv_aload_n hx hb dX5_swap_6 rfl (lv_at hl 1 rfl) ?_
  refine lv_iload_n hx hb dX5_swap_7 rfl (lv_at hl 3 rfl) ?_
  refine t_ild X hT m0 g0 rfl (by omega) dX5_swap_8 (fun z103731 vz103731 rz103731 => ?_)
  have rz103731 : 0 ≤ z103731.toInt ∧ z103731.toInt ≤ 3 := rz103731
  refine t_ist X hT m0 g0 rfl (by omega) (show 0 ≤ (z103731 : Int32).toInt ∧ (z103731 : Int32).toInt ≤ 3 from (by omega)) dX5_swap_9 (fun F H locs hT v103732 h1v103732 h2v103732 => ?_)
  have hfr : (∀ b j : Nat, fld F b j = fld Fo b j) ∧ EF tag F Fo := ⟨fun b j  => (h2v103732 b j).trans (hfr.1 b j ), fun b j hb => (h1v103732 b j (Or.inl (ns_ne hb g0 (by decide)))).trans (hfr.2 b j hb)⟩
  refine lv_aload_n hx hb dX5_swap_10 rfl (lv_at hl 1 rfl) ?_
  refine lv_iload_n hx hb dX5_swap_11 rfl (lv_at hl 3 rfl) ?_
  refine lv_iload_n hx hb dX5_swap_12 rfl (lv_at hl 0 rfl) ?_
  refine t_ist X hT m0 g0 rfl (by omega) (show 0 ≤ (z103730 : Int32).toInt ∧ (z103730 : Int32).toInt ≤ 3 from (by omega)) dX5_swap_13 (fun F H locs hT v103733 h1v103733 h2v103733 => ?_)
  have hfr : (∀ b j : Nat, fld F b j = fld Fo b j) ∧ EF tag F Fo := ⟨fun b j  => (h2v103733 b j).trans (hfr.1 b j ), fun b j hb => (h1v103733 b j (Or.inl (ns_ne hb g0 (by decide)))).trans (hfr.2 b j hb)⟩
  exact t_vret hQ X hT hfr (Nat.le_of_ble_eq_true rfl) (Nat.le_of_ble_eq_true rfl) dX5_swap_14
set_option maxHeartbeats 4000000 in
set_option maxRecDepth 100000 in
theorem kt346_X5_advance (l : Launch) (G : KG) (tag : Nat → Nat) (L : List Nat) (Fo : Nat → va_E) (ho : okT G ttC tag L Fo) (p0 : Nat) (p1 : Int32) (m0 : p0 ∈ L) (g0 : tag p0 = 10) (h1 : 2 ≤ p1.toInt ∧ p1.toInt ≤ 4) : TMv l yX5_advance cX5_advance 6 { frames := 1, cells := 0, slots := 0, locals := 23 } G ttC tag L Fo [.ref p0, .int p1] (fun F1 => ((∀ b j : Nat, fld F1 b j = fld Fo b j) ∧ EF tag F1 Fo)) := by
  refine t_bodyv (y := yX5_advance) (cd := cX5_advance) (mL := 6) (rm := { frames := 1, cells := 0, slots := 0, locals := 23 }) (av := [.ref p0, .int p1]) (by decide) (Nat.le_of_ble_eq_true rfl) ho ?_
  intro p e s m args below meth c ls A Q hQ X hT hl
  have hx := X.1.1
  have hb := X.1.2.1
  have hl : lv_has ls 6 [(0, .ref p0), (1, .int p1)] := hl
  obtain ⟨F, hFo⟩ : ∃ F : Nat → va_E, F = Fo := ⟨_, rfl⟩
  rw [← hFo] at hT
  have hfr : (∀ b j : Nat, fld F b j = fld Fo b j) ∧ EF tag F Fo := by
    rw [hFo]
    exact ⟨by intros; rfl, fun _ _ _ => rfl⟩
  have K77 : ∀ (n : Nat) (z104194 : Int32) (z104195 : Int32) (z104196 : Int32) (z104197 : Int32) (F : Nat → va_E) (H : Heap) (locs : List Loc) (ls : Array Slot), (3 - z104196.toInt < (n : Int)) → (0 ≤ z104194.toInt ∧ z104194.toInt ≤ 2) → (0 ≤ z104195.toInt ∧ z104195.toInt ≤ 3) → (1 ≤ z104196.toInt ∧ z104196.toInt ≤ 3) → (1 ≤ z104197.toInt ∧ z104197.toInt ≤ 3) → TH G ttC A s tag L F H locs → ((∀ b j : Nat, fld F b j = fld Fo b j) ∧ EF tag F Fo) → lv_has ls 6 [(0, .ref p0), (1, .int p1), (2, .int z104194), (3, .int z104195), (4, .int z104196), (5, .int z104197)] → W p l e { frames := 1, cells := 0, slots := 0, locals := 23 } s m args below meth c H locs 0 0 Q (F0 m 77 ls []) := by
    intro n
    induction n with
    | zero =>
      intro z104194 z104195 z104196 z104197 F H locs ls hn rz104194 rz104195 rz104196 rz104197 hT hfr hl
      exfalso
      omega
    | succ n ih77 =>
      intro z104194 z104195 z104196 z104197 F H locs ls hn rz104194 rz104195 rz104196 rz104197 hT hfr hl
      refine lv_iload hx hb dX5_advance_77 (lv_at hl 4 rfl) ?_
      refine lv_iload hx hb dX5_advance_79 (lv_at hl 5 rfl) ?_
      refine lv_icmp_ge (tgt := 101) hx hb dX5_advance_81 (by decide) (fun c104198 => ?_) (fun c104198 => ?_)
      · have w104199 := cv_le (rfl : z104197.toInt = z104197.toInt) (rfl : z104196.toInt = z104196.toInt) c104198
        exact t_vret hQ X hT hfr (Nat.le_of_ble_eq_true rfl) (Nat.le_of_ble_eq_true rfl) dX5_advance_101
      · have w104200 := cv_nle (rfl : z104197.toInt = z104197.toInt) (rfl : z104196.toInt = z104196.toInt) c104198
        refine lv_aload_n hx hb dX5_advance_84 rfl (lv_at hl 0 rfl) ?_
        refine lv_iload hx hb dX5_advance_85 (lv_at hl 4 rfl) ?_
        refine lv_iload hx hb dX5_advance_87 (lv_at hl 5 rfl) ?_
        refine t_cSv (n := 3) (As := [.ref p0, .int z104196, .int z104197]) (rest := []) X hT (kt345_X5_swap l G tag L F hT.2.2.2 p0 z104196 z104197 m0 g0 (by omega) (by omega)) qw_1250 qw_1251 qw_1242 qw_1252 ⟨by decide +kernel, by decide +kernel, by decide +kernel⟩ ⟨Nat.le_of_ble_eq_true rfl, Nat.le_of_ble_eq_true rfl⟩ hl rfl rfl (Nat.le_of_ble_eq_true rfl) dX5_advance_89 ⟨Nat.le_of_ble_eq_true rfl, Nat.le_of_ble_eq_true rfl⟩ (fun F H locs hT hz104201 => ?_)
        have yz104201 := hz104201
        have hfr : (∀ b j : Nat, fld F b j = fld Fo b j) ∧ EF tag F Fo := ⟨fun b j  => (yz104201.1 b j ).trans (hfr.1 b j ), fun b j hb => (yz104201.2 b j hb).trans (hfr.2 b j hb)⟩
        obtain ⟨z104202, ez104202⟩ : ∃ y : Int32, y = z104196 + 1 := ⟨_, rfl⟩
        have hz104202 : z104202.toInt = z104196.toInt + 1 := ar_add ez104202 rfl (by decide : (1 : Int32).toInt = 1) (by omega) (by omega)
        refine lv_iinc (v := z104202) (lv' := [(4, .int z104202), (0, .ref p0), (1, .int p1), (2, .int z104194), (3, .int z104195), (5, .int z104197)]) hx hb dX5_advance_92 hl (k := 4) rfl (by rw [ez104202]; rfl) (by decide) rfl (fun ls hl => ?_)
        obtain ⟨z104203, ez104203⟩ : ∃ y : Int32, y = z104197 + (-1) := ⟨_, rfl⟩
        have hz104203 : z104203.toInt = z104197.toInt + (-1) := ar_add ez104203 rfl (by decide : ((-1) : Int32).toInt = (-1)) (by omega) (by omega)
        refine lv_iinc (v := z104203) (lv' := [(5, .int z104203), (4, .int z104202), (0, .ref p0), (1, .int p1), (2, .int z104194), (3, .int z104195)]) hx hb dX5_advance_95 hl (k := 5) rfl (by rw [ez104203]; rfl) (by decide) rfl (fun ls hl => ?_)
        refine lv_goto (tgt := 77) hx hb dX5_advance_98 (by decide) ?_
        exact ih77 z104194 z104195 z104202 z104203 _ _ _ _ (by omega) (by omega) (by omega) (by omega) (by omega) hT hfr  (lv_sub hl [2, 3, 4, 5, 1, 0] rfl)
  have K61 : ∀ (z104204 : Int32) (z104205 : Int32) (F : Nat → va_E) (H : Heap) (locs : List Loc) (ls : Array Slot), (0 ≤ z104204.toInt ∧ z104204.toInt ≤ 2) → (0 ≤ z104205.toInt ∧ z104205.toInt ≤ 3) → TH G ttC A s tag L F H locs → ((∀ b j : Nat, fld F b j = fld Fo b j) ∧ EF tag F Fo) → lv_has ls 6 [(0, .ref p0), (1, .int p1), (2, .int z104204), (3, .int z104205)] → W p l e { frames := 1, cells := 0, slots := 0, locals := 23 } s m args below meth c H locs 0 0 Q (F0 m 61 ls []) := by
    intro z104204 z104205 F H locs ls rz104204 rz104205 hT hfr hl
    refine lv_aload_n hx hb dX5_advance_61 rfl (lv_at hl 0 rfl) ?_
    refine lv_iload_n hx hb dX5_advance_62 rfl (lv_at hl 2 rfl) ?_
    refine lv_iload_n hx hb dX5_advance_63 rfl (lv_at hl 3 rfl) ?_
    refine t_cSv (n := 3) (As := [.ref p0, .int z104204, .int z104205]) (rest := []) X hT (kt345_X5_swap l G tag L F hT.2.2.2 p0 z104204 z104205 m0 g0 (by omega) (by omega)) qw_1250 qw_1251 qw_1242 qw_1252 ⟨by decide +kernel, by decide +kernel, by decide +kernel⟩ ⟨Nat.le_of_ble_eq_true rfl, Nat.le_of_ble_eq_true rfl⟩ hl rfl rfl (Nat.le_of_ble_eq_true rfl) dX5_advance_64 ⟨Nat.le_of_ble_eq_true rfl, Nat.le_of_ble_eq_true rfl⟩ (fun F H locs hT hz104206 => ?_)
    have yz104206 := hz104206
    have hfr : (∀ b j : Nat, fld F b j = fld Fo b j) ∧ EF tag F Fo := ⟨fun b j  => (yz104206.1 b j ).trans (hfr.1 b j ), fun b j hb => (yz104206.2 b j hb).trans (hfr.2 b j hb)⟩
    refine lv_iload_n hx hb dX5_advance_67 rfl (lv_at hl 2 rfl) ?_
    refine lv_iconst (v := 1) hx hb dX5_advance_68 (by decide) ?_
    refine lv_iadd hx hb dX5_advance_69 ?_
    refine lv_topi (fun z104207 ez104207 => ?_)
    have hz104207 : z104207.toInt = z104204.toInt + 1 := ar_add ez104207 (rfl : z104204.toInt = z104204.toInt) (by decide : (1 : Int32).toInt = 1) (by omega) (by omega)
    have rz104207 : 1 ≤ z104207.toInt ∧ z104207.toInt ≤ 3 := by omega
    refine lv_istore (lv' := [(4, .int z104207), (0, .ref p0), (1, .int p1), (2, .int z104204), (3, .int z104205)]) hx hb dX5_advance_70 hl (by decide) rfl (fun ls hl => ?_)
    refine lv_iload_n hx hb dX5_advance_72 rfl (lv_at hl 2 rfl) ?_
    refine lv_iconst (v := 1) hx hb dX5_advance_73 (by decide) ?_
    refine lv_isub hx hb dX5_advance_74 ?_
    refine lv_topi (fun z104208 ez104208 => ?_)
    have hz104208 : z104208.toInt = p1.toInt - 1 := ar_sub ez104208 (rfl : p1.toInt = p1.toInt) (by decide : (1 : Int32).toInt = 1) (by omega) (by omega)
    have rz104208 : 1 ≤ z104208.toInt ∧ z104208.toInt ≤ 3 := by omega
    refine lv_istore (lv' := [(5, .int z104208), (4, .int z104207), (0, .ref p0), (1, .int p1), (2, .int z104204), (3, .int z104205)]) hx hb dX5_advance_75 hl (by decide) rfl (fun ls hl => ?_)
    exact K77 3 z104204 z104205 z104207 z104208 _ _ _ _ (by omega) (by omega) (by omega) (by omega) (by omega) hT hfr  (lv_sub hl [2, 3, 4, 5, 1, 0] rfl)
  have K41 : ∀ (n : Nat) (z104209 : Int32) (z104210 : Int32) (F : Nat → va_E) (H : Heap) (locs : List Loc) (ls : Array Slot), (z104210.toInt - 0 < (n : Int)) → (0 ≤ z104209.toInt ∧ z104209.toInt ≤ 2) → (0 ≤ z104210.toInt ∧ z104210.toInt ≤ 3) → TH G ttC A s tag L F H locs → ((∀ b j : Nat, fld F b j = fld Fo b j) ∧ EF tag F Fo) → lv_has ls 6 [(0, .ref p0), (1, .int p1), (2, .int z104209), (3, .int z104210)] → W p l e { frames := 1, cells := 0, slots := 0, locals := 23 } s m args below meth c H locs 0 0 Q (F0 m 41 ls []) := by
    intro n
    induction n with
    | zero =>
      intro z104209 z104210 F H locs ls hn rz104209 rz104210 hT hfr hl
      exfalso
      omega
    | succ n ih41 =>
      intro z104209 z104210 F H locs ls hn rz104209 rz104210 hT hfr hl
      refine lv_iload_n hx hb dX5_advance_41 rfl (lv_at hl 3 rfl) ?_
      refine lv_iload_n hx hb dX5_advance_42 rfl (lv_at hl 2 rfl) ?_
      refine lv_icmp_le (tgt := 61) hx hb dX5_advance_43 (by decide) (fun c104211 => ?_) (fun c104211 => ?_)
      · have w104212 := cv_le (rfl : z104210.toInt = z104210.toInt) (rfl : z104209.toInt = z104209.toInt) c104211
        exact K61 z104209 z104210 _ _ _ _ (by omega) (by omega) hT hfr  (lv_sub hl [0, 1, 2, 3] rfl)
      · have w104213 := cv_nle (rfl : z104210.toInt = z104210.toInt) (rfl : z104209.toInt = z104209.toInt) c104211
        refine lv_aload_n hx hb dX5_advance_46 rfl (lv_at hl 0 rfl) ?_
        refine lv_iload_n hx hb dX5_advance_47 rfl (lv_at hl 3 rfl) ?_
        refine t_ild X hT m0 g0 rfl (by omega) dX5_advance_48 (fun z104214 vz104214 rz104214 => ?_)
        have rz104214 : 0 ≤ z104214.toInt ∧ z104214.toInt ≤ 3 := rz104214
        refine lv_aload_n hx hb dX5_advance_49 rfl (lv_at hl 0 rfl) ?_
        refine lv_iload_n hx hb dX5_advance_50 rfl (lv_at hl 2 rfl) ?_
        refine t_ild X hT m0 g0 rfl (by omega) dX5_advance_51 (fun z104215 vz104215 rz104215 => ?_)
        have rz104215 : 0 ≤ z104215.toInt ∧ z104215.toInt ≤ 3 := rz104215
        refine lv_icmp_ge (tgt := 61) hx hb dX5_advance_52 (by decide) (fun c104216 => ?_) (fun c104216 => ?_)
        · have w104217 := cv_le (rfl : z104215.toInt = z104215.toInt) (rfl : z104214.toInt = z104214.toInt) c104216
          exact K61 z104209 z104210 _ _ _ _ (by omega) (by omega) hT hfr  (lv_sub hl [0, 1, 2, 3] rfl)
        · have w104218 := cv_nle (rfl : z104215.toInt = z104215.toInt) (rfl : z104214.toInt = z104214.toInt) c104216
          obtain ⟨z104219, ez104219⟩ : ∃ y : Int32, y = z104210 + (-1) := ⟨_, rfl⟩
          have hz104219 : z104219.toInt = z104210.toInt + (-1) := ar_add ez104219 rfl (by decide : ((-1) : Int32).toInt = (-1)) (by omega) (by omega)
          refine lv_iinc (v := z104219) (lv' := [(3, .int z104219), (0, .ref p0), (1, .int p1), (2, .int z104209)]) hx hb dX5_advance_55 hl (k := 3) rfl (by rw [ez104219]; rfl) (by decide) rfl (fun ls hl => ?_)
          refine lv_goto (tgt := 41) hx hb dX5_advance_58 (by decide) ?_
          exact ih41 z104209 z104219 _ _ _ _ (by omega) (by omega) (by omega) hT hfr  (lv_sub hl [1, 2, 3, 0] rfl)
  have K32 : ∀ (z104220 : Int32) (F : Nat → va_E) (H : Heap) (locs : List Loc) (ls : Array Slot), ((-1) ≤ z104220.toInt ∧ z104220.toInt ≤ 2) → TH G ttC A s tag L F H locs → ((∀ b j : Nat, fld F b j = fld Fo b j) ∧ EF tag F Fo) → lv_has ls 6 [(0, .ref p0), (1, .int p1), (2, .int z104220)] → W p l e { frames := 1, cells := 0, slots := 0, locals := 23 } s m args below meth c H locs 0 0 Q (F0 m 32 ls []) := by
    intro z104220 F H locs ls rz104220 hT hfr hl
    refine lv_iload_n hx hb dX5_advance_32 rfl (lv_at hl 2 rfl) ?_
    refine lv_if_ge (tgt := 37) hx hb dX5_advance_33 (by decide) (fun c104221 => ?_) (fun c104221 => ?_)
    · have w104222 := cv_le (by decide : (0 : Int32).toInt = 0) (rfl : z104220.toInt = z104220.toInt) c104221
      refine lv_iload_n hx hb dX5_advance_37 rfl (lv_at hl 1 rfl) ?_
      refine lv_iconst (v := 1) hx hb dX5_advance_38 (by decide) ?_
      refine lv_isub hx hb dX5_advance_39 ?_
      refine lv_topi (fun z104223 ez104223 => ?_)
      have hz104223 : z104223.toInt = p1.toInt - 1 := ar_sub ez104223 (rfl : p1.toInt = p1.toInt) (by decide : (1 : Int32).toInt = 1) (by omega) (by omega)
      have rz104223 : 1 ≤ z104223.toInt ∧ z104223.toInt ≤ 3 := by omega
      refine lv_istore_n (lv' := [(3, .int z104223), (0, .ref p0), (1, .int p1), (2, .int z104220)]) hx hb dX5_advance_40 rfl hl (by decide) rfl (fun ls hl => ?_)
      exact K41 4 z104220 z104223 _ _ _ _ (by omega) (by omega) (by omega) hT hfr  (lv_sub hl [1, 2, 3, 0] rfl)
    · have w104224 := cv_nle (by decide : (0 : Int32).toInt = 0) (rfl : z104220.toInt = z104220.toInt) c104221
      exact t_vret hQ X hT hfr (Nat.le_of_ble_eq_true rfl) (Nat.le_of_ble_eq_true rfl) dX5_advance_36
  have K11 : ∀ (n : Nat) (z104225 : Int32) (F : Nat → va_E) (H : Heap) (locs : List Loc) (ls : Array Slot), (z104225.toInt - (-1) < (n : Int)) → ((-1) ≤ z104225.toInt ∧ z104225.toInt ≤ 2) → TH G ttC A s tag L F H locs → ((∀ b j : Nat, fld F b j = fld Fo b j) ∧ EF tag F Fo) → lv_has ls 6 [(0, .ref p0), (1, .int p1), (2, .int z104225)] → W p l e { frames := 1, cells := 0, slots := 0, locals := 23 } s m args below meth c H locs 0 0 Q (F0 m 11 ls []) := by
    intro n
    induction n with
    | zero =>
      intro z104225 F H locs ls hn rz104225 hT hfr hl
      exfalso
      omega
    | succ n ih11 =>
      intro z104225 F H locs ls hn rz104225 hT hfr hl
      refine lv_iload_n hx hb dX5_advance_11 rfl (lv_at hl 2 rfl) ?_
      refine lv_if_lt (tgt := 32) hx hb dX5_advance_12 (by decide) (fun c104226 => ?_) (fun c104226 => ?_)
      · have w104227 := cv_lt (rfl : z104225.toInt = z104225.toInt) (by decide : (0 : Int32).toInt = 0) c104226
        exact K32 z104225 _ _ _ _ (by omega) hT hfr  (lv_sub hl [0, 1, 2] rfl)
      · have w104228 := cv_nlt (rfl : z104225.toInt = z104225.toInt) (by decide : (0 : Int32).toInt = 0) c104226
        refine lv_aload_n hx hb dX5_advance_15 rfl (lv_at hl 0 rfl) ?_
        refine lv_iload_n hx hb dX5_advance_16 rfl (lv_at hl 2 rfl) ?_
        refine t_ild X hT m0 g0 rfl (by omega) dX5_advance_17 (fun z104229 vz104229 rz104229 => ?_)
        have rz104229 : 0 ≤ z104229.toInt ∧ z104229.toInt ≤ 3 := rz104229
        refine lv_aload_n hx hb dX5_advance_18 rfl (lv_at hl 0 rfl) ?_
        refine lv_iload_n hx hb dX5_advance_19 rfl (lv_at hl 2 rfl) ?_
        refine lv_iconst (v := 1) hx hb dX5_advance_20 (by decide) ?_
        refine lv_iadd hx hb dX5_advance_21 ?_
        refine lv_topi (fun z104230 ez104230 => ?_)
        have hz104230 : z104230.toInt = z104225.toInt + 1 := ar_add ez104230 (rfl : z104225.toInt = z104225.toInt) (by decide : (1 : Int32).toInt = 1) (by omega) (by omega)
        have rz104230 : 1 ≤ z104230.toInt ∧ z104230.toInt ≤ 3 := by omega
        refine t_ild X hT m0 g0 rfl (by omega) dX5_advance_22 (fun z104231 vz104231 rz104231 => ?_)
        have rz104231 : 0 ≤ z104231.toInt ∧ z104231.toInt ≤ 3 := rz104231
        refine lv_icmp_le (tgt := 32) hx hb dX5_advance_23 (by decide) (fun c104232 => ?_) (fun c104232 => ?_)
        · have w104233 := cv_le (rfl : z104229.toInt = z104229.toInt) (rfl : z104231.toInt = z104231.toInt) c104232
          exact K32 z104225 _ _ _ _ (by omega) hT hfr  (lv_sub hl [0, 1, 2] rfl)
        · have w104234 := cv_nle (rfl : z104229.toInt = z104229.toInt) (rfl : z104231.toInt = z104231.toInt) c104232
          obtain ⟨z104235, ez104235⟩ : ∃ y : Int32, y = z104225 + (-1) := ⟨_, rfl⟩
          have hz104235 : z104235.toInt = z104225.toInt + (-1) := ar_add ez104235 rfl (by decide : ((-1) : Int32).toInt = (-1)) (by omega) (by omega)
          refine lv_iinc (v := z104235) (lv' := [(2, .int z104235), (0, .ref p0), (1, .int p1)]) hx hb dX5_advance_26 hl (k := 2) rfl (by rw [ez104235]; rfl) (by decide) rfl (fun ls hl => ?_)
          refine lv_goto (tgt := 11) hx hb dX5_advance_29 (by decide) ?_
          exact ih11 z104235 _ _ _ _ (by omega) (by omega) hT hfr  (lv_sub hl [1, 2, 0] rfl)
  refine lv_iload_n hx hb dX5_advance_0 rfl (lv_at hl 1 rfl) ?_
  refine lv_aload_n hx hb dX5_advance_1 rfl (lv_at hl 0 rfl) ?_
  refine t_alen X hT m0 g0 rfl (by decide) dX5_advance_2 ?_
  refine lv_topi (fun z104236 ez104236 => ?_)
  obtain rfl : z104236 = 4 := ez104236.trans (by rfl)
  refine lv_icmp_le (tgt := 7) hx hb dX5_advance_3 (by decide) (fun c104237 => ?_) (fun c104237 => ?_)
  · have w104238 := cv_le (rfl : p1.toInt = p1.toInt) (by decide : (4 : Int32).toInt = 4) c104237
    refine lv_iload_n hx hb dX5_advance_7 rfl (lv_at hl 1 rfl) ?_
    refine lv_iconst (v := 2) hx hb dX5_advance_8 (by decide) ?_
    refine lv_isub hx hb dX5_advance_9 ?_
    refine lv_topi (fun z104239 ez104239 => ?_)
    have hz104239 : z104239.toInt = p1.toInt - 2 := ar_sub ez104239 (rfl : p1.toInt = p1.toInt) (by decide : (2 : Int32).toInt = 2) (by omega) (by omega)
    have rz104239 : 0 ≤ z104239.toInt ∧ z104239.toInt ≤ 2 := by omega
    refine lv_istore_n (lv' := [(2, .int z104239), (0, .ref p0), (1, .int p1)]) hx hb dX5_advance_10 rfl hl (by decide) rfl (fun ls hl => ?_)
    exact K11 4 z104239 _ _ _ _ (by omega) (by omega) hT hfr  (lv_sub hl [1, 2, 0] rfl)
  · have w104240 := cv_nle (rfl : p1.toInt = p1.toInt) (by decide : (4 : Int32).toInt = 4) c104237
    exfalso
    omega
set_option maxHeartbeats 4000000 in
set_option maxRecDepth 100000 in
theorem kt347_X5_advance (l : Launch) (G : KG) (tag : Nat → Nat) (L : List Nat) (Fo : Nat → va_E) (ho : okT G ttC tag L Fo) (p0 : Nat) (p1 : Int32) (m0 : p0 ∈ L) (g0 : tag p0 = 10) (h1 : 0 ≤ p1.toInt ∧ p1.toInt ≤ 1) : TMv l yX5_advance cX5_advance 6 { frames := 1, cells := 0, slots := 0, locals := 23 } G ttC tag L Fo [.ref p0, .int p1] (fun F1 => ((∀ b j : Nat, fld F1 b j = fld Fo b j) ∧ EF tag F1 Fo)) := by
  refine t_bodyv (y := yX5_advance) (cd := cX5_advance) (mL := 6) (rm := { frames := 1, cells := 0, slots := 0, locals := 23 }) (av := [.ref p0, .int p1]) (by decide) (Nat.le_of_ble_eq_true rfl) ho ?_
  intro p e s m args below meth c ls A Q hQ X hT hl
  have hx := X.1.1
  have hb := X.1.2.1
  have hl : lv_has ls 6 [(0, .ref p0), (1, .int p1)] := hl
  obtain ⟨F, hFo⟩ : ∃ F : Nat → va_E, F = Fo := ⟨_, rfl⟩
  rw [← hFo] at hT
  have hfr : (∀ b j : Nat, fld F b j = fld Fo b j) ∧ EF tag F Fo := by
    rw [hFo]
    exact ⟨by intros; rfl, fun _ _ _ => rfl⟩
  have K32 : ∀ (z104388 : Int32) (F : Nat → va_E) (H : Heap) (locs : List Loc) (ls : Array Slot), ((-2) ≤ z104388.toInt ∧ z104388.toInt ≤ (-1)) → TH G ttC A s tag L F H locs → ((∀ b j : Nat, fld F b j = fld Fo b j) ∧ EF tag F Fo) → lv_has ls 6 [(0, .ref p0), (1, .int p1), (2, .int z104388)] → W p l e { frames := 1, cells := 0, slots := 0, locals := 23 } s m args below meth c H locs 0 0 Q (F0 m 32 ls []) := by
    intro z104388 F H locs ls rz104388 hT hfr hl
    refine lv_iload_n hx hb dX5_advance_32 rfl (lv_at hl 2 rfl) ?_
    refine lv_if_ge (tgt := 37) hx hb dX5_advance_33 (by decide) (fun c104389 => ?_) (fun c104389 => ?_)
    · have w104390 := cv_le (by decide : (0 : Int32).toInt = 0) (rfl : z104388.toInt = z104388.toInt) c104389
      exfalso
      omega
    · have w104391 := cv_nle (by decide : (0 : Int32).toInt = 0) (rfl : z104388.toInt = z104388.toInt) c104389
      exact t_vret hQ X hT hfr (Nat.le_of_ble_eq_true rfl) (Nat.le_of_ble_eq_true rfl) dX5_advance_36
  have K11 : ∀ (z104392 : Int32) (F : Nat → va_E) (H : Heap) (locs : List Loc) (ls : Array Slot), ((-2) ≤ z104392.toInt ∧ z104392.toInt ≤ (-1)) → TH G ttC A s tag L F H locs → ((∀ b j : Nat, fld F b j = fld Fo b j) ∧ EF tag F Fo) → lv_has ls 6 [(0, .ref p0), (1, .int p1), (2, .int z104392)] → W p l e { frames := 1, cells := 0, slots := 0, locals := 23 } s m args below meth c H locs 0 0 Q (F0 m 11 ls []) := by
    intro z104392 F H locs ls rz104392 hT hfr hl
    refine lv_iload_n hx hb dX5_advance_11 rfl (lv_at hl 2 rfl) ?_
    refine lv_if_lt (tgt := 32) hx hb dX5_advance_12 (by decide) (fun c104393 => ?_) (fun c104393 => ?_)
    · have w104394 := cv_lt (rfl : z104392.toInt = z104392.toInt) (by decide : (0 : Int32).toInt = 0) c104393
      exact K32 z104392 _ _ _ _ (by omega) hT hfr  (lv_sub hl [0, 1, 2] rfl)
    · have w104395 := cv_nlt (rfl : z104392.toInt = z104392.toInt) (by decide : (0 : Int32).toInt = 0) c104393
      exfalso
      omega
  refine lv_iload_n hx hb dX5_advance_0 rfl (lv_at hl 1 rfl) ?_
  refine lv_aload_n hx hb dX5_advance_1 rfl (lv_at hl 0 rfl) ?_
  refine t_alen X hT m0 g0 rfl (by decide) dX5_advance_2 ?_
  refine lv_topi (fun z104396 ez104396 => ?_)
  obtain rfl : z104396 = 4 := ez104396.trans (by rfl)
  refine lv_icmp_le (tgt := 7) hx hb dX5_advance_3 (by decide) (fun c104397 => ?_) (fun c104397 => ?_)
  · have w104398 := cv_le (rfl : p1.toInt = p1.toInt) (by decide : (4 : Int32).toInt = 4) c104397
    refine lv_iload_n hx hb dX5_advance_7 rfl (lv_at hl 1 rfl) ?_
    refine lv_iconst (v := 2) hx hb dX5_advance_8 (by decide) ?_
    refine lv_isub hx hb dX5_advance_9 ?_
    refine lv_topi (fun z104399 ez104399 => ?_)
    have hz104399 : z104399.toInt = p1.toInt - 2 := ar_sub ez104399 (rfl : p1.toInt = p1.toInt) (by decide : (2 : Int32).toInt = 2) (by omega) (by omega)
    have rz104399 : (-2) ≤ z104399.toInt ∧ z104399.toInt ≤ (-1) := by omega
    refine lv_istore_n (lv' := [(2, .int z104399), (0, .ref p0), (1, .int p1)]) hx hb dX5_advance_10 rfl hl (by decide) rfl (fun ls hl => ?_)
    exact K11 z104399 _ _ _ _ (by omega) hT hfr  (lv_sub hl [1, 2, 0] rfl)
  · have w104400 := cv_nle (rfl : p1.toInt = p1.toInt) (by decide : (4 : Int32).toInt = 4) c104397
    exfalso
    omega
theorem kt348_X5_advance (l : Launch) (G : KG) (tag : Nat → Nat) (L : List Nat) (Fo : Nat → va_E) (ho : okT G ttC tag L Fo) (p0 : Nat) (p1 : Int32) (m0 : p0 ∈ L) (g0 : tag p0 = 10) (h1 : 0 ≤ p1.toInt ∧ p1.toInt ≤ 4) : TMv l yX5_advance cX5_advance 6 { frames := 1, cells := 0, slots := 0, locals := 23 } G ttC tag L Fo [.ref p0, .int p1] (fun F1 => ((∀ b j : Nat, fld F1 b j = fld Fo b j) ∧ EF tag F1 Fo)) := by
  by_cases h9 : p1.toInt < 2
  · exact kt347_X5_advance l G tag L Fo ho p0 p1 m0 g0 (by omega)
  · exact kt346_X5_advance l G tag L Fo ho p0 p1 m0 g0 (by omega)
set_option maxHeartbeats 4000000 in
set_option maxRecDepth 100000 in
theorem kt349_X10_mostSkins (l : Launch) (G : KG) (tag : Nat → Nat) (L : List Nat) (Fo : Nat → va_E) (ho : okT G ttC tag L Fo) (p0 : Nat) (p1 : Nat) (p2 : Nat) (p3 : Nat) (p4 : Int32) (m0 : p0 ∈ L) (g0 : tag p0 = 20) (m1 : p1 ∈ L) (g1 : tag p1 = 18) (m2 : p2 ∈ L) (g2 : tag p2 = 19) (m3 : p3 ∈ L) (g3 : tag p3 = 19) (h4 : 0 ≤ p4.toInt ∧ p4.toInt ≤ 30) : TMi l yX10_mostSkins cX10_mostSkins 8 (some .int) { frames := 6, cells := 0, slots := 0, locals := 157 } G ttC tag L Fo [.ref p0, .ref p1, .ref p2, .ref p3, .int p4] (fun r F1 => ((-1) ≤ r.toInt ∧ r.toInt ≤ 2147483647) ∧ ((∀ b j : Nat, (tag b ≠ 19 ∨ j ≠ 0) → (tag b ≠ 19 ∨ j ≠ 1) → fld F1 b j = fld Fo b j) ∧ EF tag F1 Fo)) := by
  refine t_bodyi (y := yX10_mostSkins) (cd := cX10_mostSkins) (mL := 8) (rt := (some .int)) (rm := { frames := 6, cells := 0, slots := 0, locals := 157 }) (av := [.ref p0, .ref p1, .ref p2, .ref p3, .int p4]) (by decide) (Nat.le_of_ble_eq_true rfl) ho ?_
  intro p e s m args below meth c ls A Q hQ X hT hl
  have hx := X.1.1
  have hb := X.1.2.1
  have hl : lv_has ls 8 [(0, .ref p0), (1, .ref p1), (2, .ref p2), (3, .ref p3), (4, .int p4)] := hl
  obtain ⟨F, hFo⟩ : ∃ F : Nat → va_E, F = Fo := ⟨_, rfl⟩
  rw [← hFo] at hT
  have hfr : (∀ b j : Nat, (tag b ≠ 19 ∨ j ≠ 0) → (tag b ≠ 19 ∨ j ≠ 1) → fld F b j = fld Fo b j) ∧ EF tag F Fo := by
    rw [hFo]
    exact ⟨by intros; rfl, fun _ _ _ => rfl⟩
  have K17 : ∀ (n : Nat) (z105701 : Int32) (z105702 : Int32) (z105703 : Int32) (F : Nat → va_E) (H : Heap) (locs : List Loc) (ls : Array Slot), (901 - z105702.toInt < (n : Int)) → ((-1) ≤ z105701.toInt ∧ z105701.toInt ≤ 2147483647) → (0 ≤ z105702.toInt ∧ z105702.toInt ≤ 901) → (0 ≤ z105703.toInt ∧ z105703.toInt ≤ 4) → TH G ttC A s tag L F H locs → ((∀ b j : Nat, (tag b ≠ 19 ∨ j ≠ 0) → (tag b ≠ 19 ∨ j ≠ 1) → fld F b j = fld Fo b j) ∧ EF tag F Fo) → fld F p1 10 = .int z105703 → lv_has ls 8 [(0, .ref p0), (1, .ref p1), (2, .ref p2), (3, .ref p3), (4, .int p4), (5, .int z105701), (6, .int z105702)] → W p l e { frames := 6, cells := 0, slots := 0, locals := 157 } s m args below meth c H locs 0 0 Q (F0 m 17 ls []) := by
    intro n
    induction n with
    | zero =>
      intro z105701 z105702 z105703 F H locs ls hn rz105701 rz105702 rz105703 hT hfr qz105703 hl
      exfalso
      omega
    | succ n ih17 =>
      intro z105701 z105702 z105703 F H locs ls hn rz105701 rz105702 rz105703 hT hfr qz105703 hl
      have K91 : ∀ (z105704 : Int32) (z105706 : Int32) (z105707 : Int32) (F : Nat → va_E) (H : Heap) (locs : List Loc) (ls : Array Slot), ((-1) ≤ z105704.toInt ∧ z105704.toInt ≤ 2147483647) → (0 ≤ z105707.toInt ∧ z105707.toInt ≤ 4) → (0 ≤ z105702.toInt ∧ z105702.toInt ≤ 900) → TH G ttC A s tag L F H locs → ((∀ b j : Nat, (tag b ≠ 19 ∨ j ≠ 0) → (tag b ≠ 19 ∨ j ≠ 1) → fld F b j = fld Fo b j) ∧ EF tag F Fo) → fld F p1 10 = .int z105707 → lv_has ls 8 [(0, .ref p0), (1, .ref p1), (2, .ref p2), (3, .ref p3), (4, .int p4), (5, .int z105704), (6, .int z105702), (7, .int z105706)] → W p l e { frames := 6, cells := 0, slots := 0, locals := 157 } s m args below meth c H locs 0 0 Q (F0 m 91 ls []) := by
        intro z105704 z105706 z105707 F H locs ls rz105704 rz105707 r9s105705 hT hfr qz105707 hl
        have rz105706 := rg_all z105706
        refine lv_aload_n hx hb dX10_mostSkins_91 rfl (lv_at hl 0 rfl) ?_
        refine t_get (C := RX10) (T := TX10) (N := 2) X hT m0 g0 rfl rfl 0 (by decide) qw_83 inlX10 rfl dX10_mostSkins_92 (fun v105708 hv105708 ov105708 => ?_)
        obtain ⟨b105709, rfl, mb105709, gb105709⟩ := okV_r ov105708
        have gb105709 : tag b105709 = 10 := tg_of gb105709
        refine lv_aload_n hx hb dX10_mostSkins_95 rfl (lv_at hl 1 rfl) ?_
        refine t_get (C := RX1) (T := TX1) (N := 20) X hT m1 g1 rfl rfl 10 (by decide) qw_1100 inlX1 rfl dX10_mostSkins_96 (fun v105710 hv105710 ov105710 => ?_)
        obtain rfl : v105710 = .int z105707 := hv105710.symm.trans qz105707
        refine t_cSv (n := 2) (As := [.ref b105709, .int z105707]) (rest := []) X hT (kt348_X5_advance l G tag L F hT.2.2.2 b105709 z105707 mb105709 gb105709 (by omega)) qw_1247 qw_1248 qw_1242 qw_1249 ⟨by decide +kernel, by decide +kernel, by decide +kernel⟩ ⟨Nat.le_of_ble_eq_true rfl, Nat.le_of_ble_eq_true rfl⟩ hl rfl rfl (Nat.le_of_ble_eq_true rfl) dX10_mostSkins_99 ⟨Nat.le_of_ble_eq_true rfl, Nat.le_of_ble_eq_true rfl⟩ (fun F H locs hT hz105711 => ?_)
        have yz105711 := hz105711
        have qz105707 := (yz105711.1 _ 10 ).trans qz105707
        have hv105708 := (yz105711.1 _ 0 ).trans hv105708
        have hfr : (∀ b j : Nat, (tag b ≠ 19 ∨ j ≠ 0) → (tag b ≠ 19 ∨ j ≠ 1) → fld F b j = fld Fo b j) ∧ EF tag F Fo := ⟨fun b j n19_0 n19_1 => (yz105711.1 b j ).trans (hfr.1 b j n19_0 n19_1), fun b j hb => (yz105711.2 b j hb).trans (hfr.2 b j hb)⟩
        obtain ⟨z105712, ez105712⟩ : ∃ y : Int32, y = z105702 + 1 := ⟨_, rfl⟩
        have hz105712 : z105712.toInt = z105702.toInt + 1 := ar_add ez105712 rfl (by decide : (1 : Int32).toInt = 1) (by omega) (by omega)
        refine lv_iinc (v := z105712) (lv' := [(6, .int z105712), (0, .ref p0), (1, .ref p1), (2, .ref p2), (3, .ref p3), (4, .int p4), (5, .int z105704), (7, .int z105706)]) hx hb dX10_mostSkins_102 hl (k := 6) rfl (by rw [ez105712]; rfl) (by decide) rfl (fun ls hl => ?_)
        refine lv_goto (tgt := 17) hx hb dX10_mostSkins_105 (by decide) ?_
        exact ih17 z105704 z105712 z105707 _ _ _ _ (by omega) (by omega) (by omega) (by omega) hT hfr qz105707 (lv_sub hl [1, 2, 3, 4, 5, 6, 0] rfl)
      have K38 : ∀ (n : Nat) (z105714 : Int32) (z105715 : Int32) (F : Nat → va_E) (H : Heap) (locs : List Loc) (ls : Array Slot), (30 - z105714.toInt < (n : Int)) → (0 ≤ z105714.toInt ∧ z105714.toInt ≤ 30) → (0 ≤ z105715.toInt ∧ z105715.toInt ≤ 4) → (0 ≤ z105702.toInt ∧ z105702.toInt ≤ 900) → TH G ttC A s tag L F H locs → ((∀ b j : Nat, (tag b ≠ 19 ∨ j ≠ 0) → (tag b ≠ 19 ∨ j ≠ 1) → fld F b j = fld Fo b j) ∧ EF tag F Fo) → fld F p1 10 = .int z105715 → lv_has ls 8 [(0, .ref p0), (1, .ref p1), (2, .ref p2), (3, .ref p3), (4, .int p4), (5, .int z105701), (6, .int z105702), (7, .int z105714)] → W p l e { frames := 6, cells := 0, slots := 0, locals := 157 } s m args below meth c H locs 0 0 Q (F0 m 38 ls []) := by
        intro n
        induction n with
        | zero =>
          intro z105714 z105715 F H locs ls hn rz105714 rz105715 r9s105713 hT hfr qz105715 hl
          exfalso
          omega
        | succ n ih38 =>
          intro z105714 z105715 F H locs ls hn rz105714 rz105715 r9s105713 hT hfr qz105715 hl
          refine lv_iload hx hb dX10_mostSkins_38 (lv_at hl 7 rfl) ?_
          refine lv_iload hx hb dX10_mostSkins_40 (lv_at hl 4 rfl) ?_
          refine lv_icmp_ge (tgt := 60) hx hb dX10_mostSkins_42 (by decide) (fun c105716 => ?_) (fun c105716 => ?_)
          · have w105717 := cv_le (rfl : p4.toInt = p4.toInt) (rfl : z105714.toInt = z105714.toInt) c105716
            refine lv_aload_n hx hb dX10_mostSkins_60 rfl (lv_at hl 3 rfl) ?_
            refine t_cVi (n := 0) (C := RX7) (T := TX7) (N := 7) (As := []) (rest := []) X hT (kt317_X7_skinsOfAll l G tag L F hT.2.2.2 p3 m3 g3) m3 g3 rfl rfl qw_1246 qw_1183 qw_1184 qw_22 qw_1185 ⟨rfl, by decide +kernel, by decide +kernel, by decide +kernel⟩ ⟨Nat.le_of_ble_eq_true rfl, Nat.le_of_ble_eq_true rfl⟩ hl rfl rfl (Nat.le_of_ble_eq_true rfl) dX10_mostSkins_61 ⟨Nat.le_of_ble_eq_true rfl, Nat.le_of_ble_eq_true rfl⟩ (fun z105718 F9 H locs hT hz105718 => ?_)
            obtain ⟨fz105718, hz105718⟩ := hz105718
            rw [fz105718] at hT
            refine lv_istore (lv' := [(7, .int z105718), (0, .ref p0), (1, .ref p1), (2, .ref p2), (3, .ref p3), (4, .int p4), (5, .int z105701), (6, .int z105702)]) hx hb dX10_mostSkins_64 hl (by decide) rfl (fun ls hl => ?_)
            refine lv_iload hx hb dX10_mostSkins_66 (lv_at hl 0 rfl) ?_
            refine lv_iload hx hb dX10_mostSkins_68 (lv_at hl 6 rfl) ?_
            refine lv_icmp_le (tgt := 91) hx hb dX10_mostSkins_70 (by decide) (fun c105719 => ?_) (fun c105719 => ?_)
            · have w105720 := cv_le (rfl : z105718.toInt = z105718.toInt) (rfl : z105701.toInt = z105701.toInt) c105719
              exact K91 z105701 z105718 z105715 _ _ _ _ (by omega) (by omega) (by omega) hT hfr qz105715 (lv_sub hl [1, 2, 3, 4, 5, 6, 7, 0] rfl)
            · have w105721 := cv_nle (rfl : z105718.toInt = z105718.toInt) (rfl : z105701.toInt = z105701.toInt) c105719
              refine lv_iload hx hb dX10_mostSkins_73 (lv_at hl 0 rfl) ?_
              refine lv_istore (lv' := [(5, .int z105718), (7, .int z105718), (0, .ref p0), (1, .ref p1), (2, .ref p2), (3, .ref p3), (4, .int p4), (6, .int z105702)]) hx hb dX10_mostSkins_75 hl (by decide) rfl (fun ls hl => ?_)
              refine lv_aload_n hx hb dX10_mostSkins_77 rfl (lv_at hl 2 rfl) ?_
              refine t_get (C := RX10) (T := TX10) (N := 2) X hT m0 g0 rfl rfl 0 (by decide) qw_83 inlX10 rfl dX10_mostSkins_78 (fun v105722 hv105722 ov105722 => ?_)
              obtain ⟨b105723, rfl, mb105723, gb105723⟩ := okV_r ov105722
              have gb105723 : tag b105723 = 10 := tg_of gb105723
              refine lv_iconst (v := 0) hx hb dX10_mostSkins_81 (by decide) ?_
              refine lv_aload_n hx hb dX10_mostSkins_82 rfl (lv_at hl 2 rfl) ?_
              refine t_get (C := RX10) (T := TX10) (N := 2) X hT m0 g0 rfl rfl 1 (by decide) qw_84 inlX10 rfl dX10_mostSkins_83 (fun v105724 hv105724 ov105724 => ?_)
              obtain ⟨b105725, rfl, mb105725, gb105725⟩ := okV_r ov105724
              have gb105725 : tag b105725 = 5 := tg_of gb105725
              refine lv_iconst (v := 0) hx hb dX10_mostSkins_86 (by decide) ?_
              refine lv_iconst (v := 4) hx hb dX10_mostSkins_87 (by decide) ?_
              refine t_copy X hT hl mb105723 gb105723 mb105725 gb105725 rfl rfl (by decide) (by decide) (by decide) (by decide) (by decide) (fun _ _ => ⟨by decide, by decide⟩) qw_1239 qw_454 qw_455 qw_456 (Nat.le_of_ble_eq_true rfl) (Nat.le_of_ble_eq_true rfl) dX10_mostSkins_88 (fun F H locs hT h2v105726 h1v105726 => ?_)
              have qz105715 := (h2v105726 _ _).trans qz105715
              have hv105722 := (h2v105726 _ _).trans hv105722
              have hv105724 := (h2v105726 _ _).trans hv105724
              have hfr : (∀ b j : Nat, (tag b ≠ 19 ∨ j ≠ 0) → (tag b ≠ 19 ∨ j ≠ 1) → fld F b j = fld Fo b j) ∧ EF tag F Fo := ⟨fun b j n19_0 n19_1 => (h2v105726 b j).trans (hfr.1 b j n19_0 n19_1), fun b j hb => (h1v105726 b j (ns_ne hb gb105725 (by decide))).trans (hfr.2 b j hb)⟩
              exact K91 z105718 z105718 z105715 _ _ _ _ (by omega) (by omega) (by omega) hT hfr qz105715 (lv_sub hl [2, 3, 4, 5, 6, 0, 7, 1] rfl)
          · have w105727 := cv_nle (rfl : p4.toInt = p4.toInt) (rfl : z105714.toInt = z105714.toInt) c105716
            refine lv_aload_n hx hb dX10_mostSkins_45 rfl (lv_at hl 1 rfl) ?_
            refine lv_aload_n hx hb dX10_mostSkins_46 rfl (lv_at hl 3 rfl) ?_
            refine lv_aload_n hx hb dX10_mostSkins_47 rfl (lv_at hl 0 rfl) ?_
            refine t_get (C := RX10) (T := TX10) (N := 2) X hT m0 g0 rfl rfl 0 (by decide) qw_83 inlX10 rfl dX10_mostSkins_48 (fun v105728 hv105728 ov105728 => ?_)
            obtain ⟨b105729, rfl, mb105729, gb105729⟩ := okV_r ov105728
            have gb105729 : tag b105729 = 10 := tg_of gb105729
            refine t_cSv (n := 3) (As := [.ref p1, .ref p3, .ref b105729]) (rest := []) X hT (kt344_X10_pass l G tag L F hT.2.2.2 p1 p3 b105729 m1 g1 m3 g3 mb105729 gb105729) qw_1245 qw_1098 qw_32 qw_1099 ⟨by decide +kernel, by decide +kernel, by decide +kernel⟩ ⟨Nat.le_of_ble_eq_true rfl, Nat.le_of_ble_eq_true rfl⟩ hl rfl rfl (Nat.le_of_ble_eq_true rfl) dX10_mostSkins_51 ⟨Nat.le_of_ble_eq_true rfl, Nat.le_of_ble_eq_true rfl⟩ (fun F H locs hT hz105730 => ?_)
            have yz105730 := hz105730
            have qz105715 := (yz105730.1 _ 10 (Or.inr (by decide)) (Or.inr (by decide))).trans qz105715
            have hv105728 := (yz105730.1 _ 0 (Or.inl (by rw [g0]; decide)) (Or.inr (by decide))).trans hv105728
            have hfr : (∀ b j : Nat, (tag b ≠ 19 ∨ j ≠ 0) → (tag b ≠ 19 ∨ j ≠ 1) → fld F b j = fld Fo b j) ∧ EF tag F Fo := ⟨fun b j n19_0 n19_1 => (yz105730.1 b j n19_0 n19_1).trans (hfr.1 b j n19_0 n19_1), fun b j hb => (yz105730.2 b j hb).trans (hfr.2 b j hb)⟩
            obtain ⟨z105731, ez105731⟩ : ∃ y : Int32, y = z105714 + 1 := ⟨_, rfl⟩
            have hz105731 : z105731.toInt = z105714.toInt + 1 := ar_add ez105731 rfl (by decide : (1 : Int32).toInt = 1) (by omega) (by omega)
            refine lv_iinc (v := z105731) (lv' := [(7, .int z105731), (0, .ref p0), (1, .ref p1), (2, .ref p2), (3, .ref p3), (4, .int p4), (5, .int z105701), (6, .int z105702)]) hx hb dX10_mostSkins_54 hl (k := 7) rfl (by rw [ez105731]; rfl) (by decide) rfl (fun ls hl => ?_)
            refine lv_goto (tgt := 38) hx hb dX10_mostSkins_57 (by decide) ?_
            exact ih38 z105731 z105715 _ _ _ _ (by omega) (by omega) (by omega) (by omega) hT hfr qz105715 (lv_sub hl [1, 2, 3, 4, 5, 6, 7, 0] rfl)
      refine lv_iload hx hb dX10_mostSkins_17 (lv_at hl 6 rfl) ?_
      refine t_getsN X hT X.2.2.2.1.2.1.2.2.1 (List.mem_of_getElem? (i := 2) rfl) dX10_mostSkins_19 ?_
      refine lv_aload_n hx hb dX10_mostSkins_22 rfl (lv_at hl 1 rfl) ?_
      refine t_get (C := RX1) (T := TX1) (N := 20) X hT m1 g1 rfl rfl 10 (by decide) qw_1100 inlX1 rfl dX10_mostSkins_23 (fun v105732 hv105732 ov105732 => ?_)
      obtain rfl : v105732 = .int z105703 := hv105732.symm.trans qz105703
      refine t_tild X hT X.2.2.2.1.2.1.2.2.1 (by omega) dX10_mostSkins_26 (fun z105733 ez105733 => ?_)
      have rz105733 : 1 ≤ z105733.toInt ∧ z105733.toInt ≤ 720 := by rw [ez105733]; exact gRows_r _
      refine lv_icmp_ge (tgt := 108) hx hb dX10_mostSkins_27 (by decide) (fun c105734 => ?_) (fun c105734 => ?_)
      · have w105735 := cv_le (rfl : z105733.toInt = z105733.toInt) (rfl : z105702.toInt = z105702.toInt) c105734
        refine lv_iload hx hb dX10_mostSkins_108 (lv_at hl 5 rfl) ?_
        exact t_iret hQ X hT (⟨(by omega), hfr⟩) (Nat.le_of_ble_eq_true rfl) (Nat.le_of_ble_eq_true rfl) dX10_mostSkins_110
      · have w105736 := cv_nle (rfl : z105733.toInt = z105733.toInt) (rfl : z105702.toInt = z105702.toInt) c105734
        refine lv_aload_n hx hb dX10_mostSkins_30 rfl (lv_at hl 3 rfl) ?_
        refine lv_aload_n hx hb dX10_mostSkins_31 rfl (lv_at hl 2 rfl) ?_
        refine t_cVv (n := 1) (C := RX7) (T := TX7) (N := 7) (As := [.ref p2]) (rest := []) X hT (kt343_X7_copyFrom l G tag L F hT.2.2.2 p3 p2 m3 g3 m2 g2) m3 g3 rfl rfl qw_1244 qw_450 qw_451 qw_22 qw_452 ⟨rfl, by decide +kernel, by decide +kernel, by decide +kernel⟩ ⟨Nat.le_of_ble_eq_true rfl, Nat.le_of_ble_eq_true rfl⟩ hl rfl rfl (Nat.le_of_ble_eq_true rfl) dX10_mostSkins_32 ⟨Nat.le_of_ble_eq_true rfl, Nat.le_of_ble_eq_true rfl⟩ (fun F H locs hT hz105737 => ?_)
        have yz105737 := hz105737
        have qz105703 := (yz105737.1 _ 10 (Or.inr (by decide)) (Or.inr (by decide))).trans qz105703
        have hfr : (∀ b j : Nat, (tag b ≠ 19 ∨ j ≠ 0) → (tag b ≠ 19 ∨ j ≠ 1) → fld F b j = fld Fo b j) ∧ EF tag F Fo := ⟨fun b j n19_0 n19_1 => (yz105737.1 b j n19_0 n19_1).trans (hfr.1 b j n19_0 n19_1), fun b j hb => (yz105737.2 b j hb).trans (hfr.2 b j hb)⟩
        refine lv_iconst (v := 0) hx hb dX10_mostSkins_35 (by decide) ?_
        refine lv_istore (lv' := [(7, .int 0), (0, .ref p0), (1, .ref p1), (2, .ref p2), (3, .ref p3), (4, .int p4), (5, .int z105701), (6, .int z105702)]) hx hb dX10_mostSkins_36 hl (by decide) rfl (fun ls hl => ?_)
        have kk105738 : (0 : Int32).toInt = 0 := by decide
        exact K38 31 0 z105703 _ _ _ _ (by omega) (by decide) (by omega) (by omega) hT hfr qz105703 (lv_sub hl [1, 2, 3, 4, 5, 6, 7, 0] rfl)
  refine lv_iconst (v := (-1)) hx hb dX10_mostSkins_0 (by decide) ?_
  refine lv_istore (lv' := [(5, .int (-1)), (0, .ref p0), (1, .ref p1), (2, .ref p2), (3, .ref p3), (4, .int p4)]) hx hb dX10_mostSkins_1 hl (by decide) rfl (fun ls hl => ?_)
  refine lv_aload_n hx hb dX10_mostSkins_3 rfl (lv_at hl 1 rfl) ?_
  refine t_get (C := RX10) (T := TX10) (N := 2) X hT m0 g0 rfl rfl 0 (by decide) qw_83 inlX10 rfl dX10_mostSkins_4 (fun v105739 hv105739 ov105739 => ?_)
  obtain ⟨b105740, rfl, mb105740, gb105740⟩ := okV_r ov105739
  have gb105740 : tag b105740 = 10 := tg_of gb105740
  refine lv_aload_n hx hb dX10_mostSkins_7 rfl (lv_at hl 2 rfl) ?_
  refine t_get (C := RX1) (T := TX1) (N := 20) X hT m1 g1 rfl rfl 10 (by decide) qw_1100 inlX1 rfl dX10_mostSkins_8 (fun v105741 hv105741 ov105741 => ?_)
  obtain ⟨z105742, rfl, rz105742⟩ := okV_i ov105741
  refine t_cSv (n := 2) (As := [.ref b105740, .int z105742]) (rest := []) X hT (kt342_X5_begin l G tag L F hT.2.2.2 b105740 z105742 mb105740 gb105740 (by omega)) qw_1240 qw_1241 qw_1242 qw_1243 ⟨by decide +kernel, by decide +kernel, by decide +kernel⟩ ⟨Nat.le_of_ble_eq_true rfl, Nat.le_of_ble_eq_true rfl⟩ hl rfl rfl (Nat.le_of_ble_eq_true rfl) dX10_mostSkins_11 ⟨Nat.le_of_ble_eq_true rfl, Nat.le_of_ble_eq_true rfl⟩ (fun F H locs hT hz105743 => ?_)
  have yz105743 := hz105743
  have hv105739 := (yz105743.1 _ 0 ).trans hv105739
  have hv105741 := (yz105743.1 _ 10 ).trans hv105741
  have hfr : (∀ b j : Nat, (tag b ≠ 19 ∨ j ≠ 0) → (tag b ≠ 19 ∨ j ≠ 1) → fld F b j = fld Fo b j) ∧ EF tag F Fo := ⟨fun b j n19_0 n19_1 => (yz105743.1 b j ).trans (hfr.1 b j n19_0 n19_1), fun b j hb => (yz105743.2 b j hb).trans (hfr.2 b j hb)⟩
  refine lv_iconst (v := 0) hx hb dX10_mostSkins_14 (by decide) ?_
  refine lv_istore (lv' := [(6, .int 0), (5, .int (-1)), (0, .ref p0), (1, .ref p1), (2, .ref p2), (3, .ref p3), (4, .int p4)]) hx hb dX10_mostSkins_15 hl (by decide) rfl (fun ls hl => ?_)
  have kk105744 : ((-1) : Int32).toInt = (-1) := by decide
  have kk105745 : (0 : Int32).toInt = 0 := by decide
  exact K17 902 (-1) 0 z105742 _ _ _ _ (by omega) (by decide) (by decide) (by omega) hT hfr hv105741 (lv_sub hl [2, 3, 4, 5, 6, 1, 0] rfl)
set_option maxHeartbeats 4000000 in
set_option maxRecDepth 100000 in
theorem kt350_X11_answer (l : Launch) (G : KG) (tag : Nat → Nat) (L : List Nat) (Fo : Nat → va_E) (ho : okT G ttC tag L Fo) (p0 : Nat) (p1 : Int32) (m0 : p0 ∈ L) (g0 : tag p0 = 26) : TMi l yX11_answer cX11_answer 2 (some .int) { frames := 0, cells := 0, slots := 0, locals := 0 } G ttC tag L Fo [.ref p0, .int p1] (fun r F1 => ((-2147483648) ≤ r.toInt ∧ r.toInt ≤ 2147483647) ∧ ((∀ b j : Nat, (tag b ≠ 26 ∨ j ≠ 13) → fld F1 b j = fld Fo b j) ∧ EF tag F1 Fo)) := by
  refine t_bodyi (y := yX11_answer) (cd := cX11_answer) (mL := 2) (rt := (some .int)) (rm := { frames := 0, cells := 0, slots := 0, locals := 0 }) (av := [.ref p0, .int p1]) (by decide) (Nat.le_of_ble_eq_true rfl) ho ?_
  intro p e s m args below meth c ls A Q hQ X hT hl
  have hx := X.1.1
  have hb := X.1.2.1
  have hl : lv_has ls 2 [(0, .ref p0), (1, .int p1)] := hl
  have rp1 := rg_all p1
  obtain ⟨F, hFo⟩ : ∃ F : Nat → va_E, F = Fo := ⟨_, rfl⟩
  rw [← hFo] at hT
  have hfr : (∀ b j : Nat, (tag b ≠ 26 ∨ j ≠ 13) → fld F b j = fld Fo b j) ∧ EF tag F Fo := by
    rw [hFo]
    exact ⟨by intros; rfl, fun _ _ _ => rfl⟩
  refine lv_aload_n hx hb dX11_answer_0 rfl (lv_at hl 0 rfl) ?_
  refine lv_iconst (v := 0) hx hb dX11_answer_1 (by decide) ?_
  refine t_put (C := RX11) (T := TX11) (N := 16) (v := .int 0) X hT m0 g0 rfl tyX11 tyX11_ok nmX11 rfl 13 (by decide) qw_156 inlX11 rfl (by first | rfl | decide) (by first | rfl | decide) rfl (⟨_, rfl, (show (-2147483648) ≤ (0 : Int32).toInt from (by decide)), (show (0 : Int32).toInt ≤ 2147483647 from (by decide))⟩) dX11_answer_2 (fun F H locs hT v105757 h1v105757 h2v105757 => ?_)
  have hfr : (∀ b j : Nat, (tag b ≠ 26 ∨ j ≠ 13) → fld F b j = fld Fo b j) ∧ EF tag F Fo := ⟨fun b j n26_13 => (h1v105757 b j (fr_ne g0 n26_13)).trans (hfr.1 b j n26_13), fun b j hb => (h2v105757 b j).trans (hfr.2 b j hb)⟩
  refine lv_iload_n hx hb dX11_answer_5 rfl (lv_at hl 1 rfl) ?_
  exact t_iret hQ X hT (⟨rg_all _, hfr⟩) (Nat.le_of_ble_eq_true rfl) (Nat.le_of_ble_eq_true rfl) dX11_answer_6
set_option maxHeartbeats 4000000 in
set_option maxRecDepth 100000 in
theorem kt351_X2_goToMark (l : Launch) (G : KG) (tag : Nat → Nat) (L : List Nat) (Fo : Nat → va_E) (ho : okT G ttC tag L Fo) (p0 : Nat) (p1 : Nat) (p2 : Int32) (m0 : p0 ∈ L) (g0 : tag p0 = 23) (m1 : p1 ∈ L) (g1 : tag p1 = 19) : TMi l yX2_goToMark cX2_goToMark 3 (some .boolean) { frames := 2, cells := 0, slots := 0, locals := 45 } G ttC tag L Fo [.ref p0, .ref p1, .int p2] (fun r F1 => (0 ≤ r.toInt ∧ r.toInt ≤ 1) ∧ ((∀ b j : Nat, (tag b ≠ 19 ∨ j ≠ 0) → (tag b ≠ 19 ∨ j ≠ 1) → (tag b ≠ 23 ∨ j ≠ 3) → fld F1 b j = fld Fo b j) ∧ EF tag F1 Fo)) := by
  refine t_bodyi (y := yX2_goToMark) (cd := cX2_goToMark) (mL := 3) (rt := (some .boolean)) (rm := { frames := 2, cells := 0, slots := 0, locals := 45 }) (av := [.ref p0, .ref p1, .int p2]) (by decide) (Nat.le_of_ble_eq_true rfl) ho ?_
  intro p e s m args below meth c ls A Q hQ X hT hl
  have hx := X.1.1
  have hb := X.1.2.1
  have hl : lv_has ls 3 [(0, .ref p0), (1, .ref p1), (2, .int p2)] := hl
  have rp2 := rg_all p2
  obtain ⟨F, hFo⟩ : ∃ F : Nat → va_E, F = Fo := ⟨_, rfl⟩
  rw [← hFo] at hT
  have hfr : (∀ b j : Nat, (tag b ≠ 19 ∨ j ≠ 0) → (tag b ≠ 19 ∨ j ≠ 1) → (tag b ≠ 23 ∨ j ≠ 3) → fld F b j = fld Fo b j) ∧ EF tag F Fo := by
    rw [hFo]
    exact ⟨by intros; rfl, fun _ _ _ => rfl⟩
  refine lv_iload_n hx hb dX2_goToMark_0 rfl (lv_at hl 2 rfl) ?_
  refine lv_if_lt (tgt := 12) hx hb dX2_goToMark_1 (by decide) (fun c105905 => ?_) (fun c105905 => ?_)
  · have w105906 := cv_lt (rfl : p2.toInt = p2.toInt) (by decide : (0 : Int32).toInt = 0) c105905
    refine lv_iconst (v := 0) hx hb dX2_goToMark_12 (by decide) ?_
    exact t_zret hQ X hT (by decide) (⟨(by decide), hfr⟩) (Nat.le_of_ble_eq_true rfl) (Nat.le_of_ble_eq_true rfl) dX2_goToMark_13
  · have w105907 := cv_nlt (rfl : p2.toInt = p2.toInt) (by decide : (0 : Int32).toInt = 0) c105905
    refine lv_iload_n hx hb dX2_goToMark_4 rfl (lv_at hl 2 rfl) ?_
    refine lv_aload_n hx hb dX2_goToMark_5 rfl (lv_at hl 0 rfl) ?_
    refine t_get (C := RX2) (T := TX2) (N := 5) X hT m0 g0 rfl rfl 4 (by decide) qw_462 inlX2 rfl dX2_goToMark_6 (fun v105908 hv105908 ov105908 => ?_)
    obtain ⟨z105909, rfl, rz105909⟩ := okV_i ov105908
    refine lv_icmp_lt (tgt := 14) hx hb dX2_goToMark_9 (by decide) (fun c105910 => ?_) (fun c105910 => ?_)
    · have w105911 := cv_lt (rfl : p2.toInt = p2.toInt) (rfl : z105909.toInt = z105909.toInt) c105910
      refine lv_aload_n hx hb dX2_goToMark_14 rfl (lv_at hl 1 rfl) ?_
      refine lv_aload_n hx hb dX2_goToMark_15 rfl (lv_at hl 0 rfl) ?_
      refine t_get (C := RX2) (T := TX2) (N := 5) X hT m0 g0 rfl rfl 1 (by decide) qw_104 inlX2 rfl dX2_goToMark_16 (fun v105912 hv105912 ov105912 => ?_)
      obtain ⟨b105913, rfl, mb105913, gb105913⟩ := okV_r ov105912
      have gb105913 : tag b105913 = 17 := tg_of gb105913
      refine lv_iload_n hx hb dX2_goToMark_19 rfl (lv_at hl 2 rfl) ?_
      refine t_ald X hT mb105913 gb105913 rfl (by omega) dX2_goToMark_20 (fun b105914 mb105914 gb105914 => ?_)
      have gb105914 : tag b105914 = 19 := tg_of gb105914
      refine t_cVv (n := 1) (C := RX7) (T := TX7) (N := 7) (As := [.ref b105914]) (rest := []) X hT (kt343_X7_copyFrom l G tag L F hT.2.2.2 p1 b105914 m1 g1 mb105914 gb105914) m1 g1 rfl rfl qw_1432 qw_450 qw_451 qw_22 qw_452 ⟨rfl, by decide +kernel, by decide +kernel, by decide +kernel⟩ ⟨Nat.le_of_ble_eq_true rfl, Nat.le_of_ble_eq_true rfl⟩ hl rfl rfl (Nat.le_of_ble_eq_true rfl) dX2_goToMark_21 ⟨Nat.le_of_ble_eq_true rfl, Nat.le_of_ble_eq_true rfl⟩ (fun F H locs hT hz105915 => ?_)
      have yz105915 := hz105915
      have hv105908 := (yz105915.1 _ 4 (Or.inr (by decide)) (Or.inr (by decide))).trans hv105908
      have hv105912 := (yz105915.1 _ 1 (Or.inr (by decide)) (Or.inl (by rw [g0]; decide))).trans hv105912
      have hfr : (∀ b j : Nat, (tag b ≠ 19 ∨ j ≠ 0) → (tag b ≠ 19 ∨ j ≠ 1) → (tag b ≠ 23 ∨ j ≠ 3) → fld F b j = fld Fo b j) ∧ EF tag F Fo := ⟨fun b j n19_0 n19_1 n23_3 => (yz105915.1 b j n19_0 n19_1).trans (hfr.1 b j n19_0 n19_1 n23_3), fun b j hb => (yz105915.2 b j hb).trans (hfr.2 b j hb)⟩
      refine lv_aload_n hx hb dX2_goToMark_24 rfl (lv_at hl 0 rfl) ?_
      refine lv_iconst (v := 0) hx hb dX2_goToMark_25 (by decide) ?_
      refine t_put (C := RX2) (T := TX2) (N := 5) (v := .int 0) X hT m0 g0 rfl tyX2 tyX2_ok nmX2 rfl 3 (by decide) qw_461 inlX2 rfl (by first | rfl | decide) (by first | rfl | decide) rfl (⟨_, rfl, (show 0 ≤ (0 : Int32).toInt from (by decide)), (show (0 : Int32).toInt ≤ 10 from (by decide))⟩) dX2_goToMark_26 (fun F H locs hT v105916 h1v105916 h2v105916 => ?_)
      have hv105908 := (h1v105916 _ _ (Or.inr (by decide))).trans hv105908
      have hv105912 := (h1v105916 _ _ (Or.inr (by decide))).trans hv105912
      have hfr : (∀ b j : Nat, (tag b ≠ 19 ∨ j ≠ 0) → (tag b ≠ 19 ∨ j ≠ 1) → (tag b ≠ 23 ∨ j ≠ 3) → fld F b j = fld Fo b j) ∧ EF tag F Fo := ⟨fun b j n19_0 n19_1 n23_3 => (h1v105916 b j (fr_ne g0 n23_3)).trans (hfr.1 b j n19_0 n19_1 n23_3), fun b j hb => (h2v105916 b j).trans (hfr.2 b j hb)⟩
      refine lv_iconst (v := 1) hx hb dX2_goToMark_29 (by decide) ?_
      exact t_zret hQ X hT (by decide) (⟨(by decide), hfr⟩) (Nat.le_of_ble_eq_true rfl) (Nat.le_of_ble_eq_true rfl) dX2_goToMark_30
    · have w105917 := cv_nlt (rfl : p2.toInt = p2.toInt) (rfl : z105909.toInt = z105909.toInt) c105910
      refine lv_iconst (v := 0) hx hb dX2_goToMark_12 (by decide) ?_
      exact t_zret hQ X hT (by decide) (⟨(by decide), hfr⟩) (Nat.le_of_ble_eq_true rfl) (Nat.le_of_ble_eq_true rfl) dX2_goToMark_13
set_option maxHeartbeats 4000000 in
set_option maxRecDepth 100000 in
theorem kt352_X11_no (l : Launch) (G : KG) (tag : Nat → Nat) (L : List Nat) (Fo : Nat → va_E) (ho : okT G ttC tag L Fo) (p0 : Nat) (p1 : Int32) (m0 : p0 ∈ L) (g0 : tag p0 = 26) : TMi l yX11_no cX11_no 2 (some .boolean) { frames := 0, cells := 0, slots := 0, locals := 0 } G ttC tag L Fo [.ref p0, .int p1] (fun r F1 => (0 ≤ r.toInt ∧ r.toInt ≤ 0) ∧ ((∀ b j : Nat, (tag b ≠ 26 ∨ j ≠ 13) → fld F1 b j = fld Fo b j) ∧ EF tag F1 Fo)) := by
  refine t_bodyi (y := yX11_no) (cd := cX11_no) (mL := 2) (rt := (some .boolean)) (rm := { frames := 0, cells := 0, slots := 0, locals := 0 }) (av := [.ref p0, .int p1]) (by decide) (Nat.le_of_ble_eq_true rfl) ho ?_
  intro p e s m args below meth c ls A Q hQ X hT hl
  have hx := X.1.1
  have hb := X.1.2.1
  have hl : lv_has ls 2 [(0, .ref p0), (1, .int p1)] := hl
  have rp1 := rg_all p1
  obtain ⟨F, hFo⟩ : ∃ F : Nat → va_E, F = Fo := ⟨_, rfl⟩
  rw [← hFo] at hT
  have hfr : (∀ b j : Nat, (tag b ≠ 26 ∨ j ≠ 13) → fld F b j = fld Fo b j) ∧ EF tag F Fo := by
    rw [hFo]
    exact ⟨by intros; rfl, fun _ _ _ => rfl⟩
  refine lv_aload_n hx hb dX11_no_0 rfl (lv_at hl 0 rfl) ?_
  refine lv_iload_n hx hb dX11_no_1 rfl (lv_at hl 1 rfl) ?_
  refine t_put (C := RX11) (T := TX11) (N := 16) (v := .int p1) X hT m0 g0 rfl tyX11 tyX11_ok nmX11 rfl 13 (by decide) qw_156 inlX11 rfl (by first | rfl | decide) (by first | rfl | decide) rfl (⟨_, rfl, (show (-2147483648) ≤ (p1 : Int32).toInt from (by omega)), (show (p1 : Int32).toInt ≤ 2147483647 from (by omega))⟩) dX11_no_2 (fun F H locs hT v105932 h1v105932 h2v105932 => ?_)
  have hfr : (∀ b j : Nat, (tag b ≠ 26 ∨ j ≠ 13) → fld F b j = fld Fo b j) ∧ EF tag F Fo := ⟨fun b j n26_13 => (h1v105932 b j (fr_ne g0 n26_13)).trans (hfr.1 b j n26_13), fun b j hb => (h2v105932 b j).trans (hfr.2 b j hb)⟩
  refine lv_iconst (v := 0) hx hb dX11_no_5 (by decide) ?_
  exact t_zret hQ X hT (by decide) (⟨(by decide), hfr⟩) (Nat.le_of_ble_eq_true rfl) (Nat.le_of_ble_eq_true rfl) dX11_no_6
set_option maxHeartbeats 4000000 in
set_option maxRecDepth 100000 in
theorem kt353_X11_yes (l : Launch) (G : KG) (tag : Nat → Nat) (L : List Nat) (Fo : Nat → va_E) (ho : okT G ttC tag L Fo) (p0 : Nat) (m0 : p0 ∈ L) (g0 : tag p0 = 26) : TMi l yX11_yes cX11_yes 1 (some .boolean) { frames := 0, cells := 0, slots := 0, locals := 0 } G ttC tag L Fo [.ref p0] (fun r F1 => (1 ≤ r.toInt ∧ r.toInt ≤ 1) ∧ ((∀ b j : Nat, (tag b ≠ 26 ∨ j ≠ 13) → fld F1 b j = fld Fo b j) ∧ EF tag F1 Fo)) := by
  refine t_bodyi (y := yX11_yes) (cd := cX11_yes) (mL := 1) (rt := (some .boolean)) (rm := { frames := 0, cells := 0, slots := 0, locals := 0 }) (av := [.ref p0]) (by decide) (Nat.le_of_ble_eq_true rfl) ho ?_
  intro p e s m args below meth c ls A Q hQ X hT hl
  have hx := X.1.1
  have hb := X.1.2.1
  have hl : lv_has ls 1 [(0, .ref p0)] := hl
  obtain ⟨F, hFo⟩ : ∃ F : Nat → va_E, F = Fo := ⟨_, rfl⟩
  rw [← hFo] at hT
  have hfr : (∀ b j : Nat, (tag b ≠ 26 ∨ j ≠ 13) → fld F b j = fld Fo b j) ∧ EF tag F Fo := by
    rw [hFo]
    exact ⟨by intros; rfl, fun _ _ _ => rfl⟩
  refine lv_aload_n hx hb dX11_yes_0 rfl (lv_at hl 0 rfl) ?_
  refine lv_iconst (v := 0) hx hb dX11_yes_1 (by decide) ?_
  refine t_put (C := RX11) (T := TX11) (N := 16) (v := .int 0) X hT m0 g0 rfl tyX11 tyX11_ok nmX11 rfl 13 (by decide) qw_156 inlX11 rfl (by first | rfl | decide) (by first | rfl | decide) rfl (⟨_, rfl, (show (-2147483648) ≤ (0 : Int32).toInt from (by decide)), (show (0 : Int32).toInt ≤ 2147483647 from (by decide))⟩) dX11_yes_2 (fun F H locs hT v105946 h1v105946 h2v105946 => ?_)
  have hfr : (∀ b j : Nat, (tag b ≠ 26 ∨ j ≠ 13) → fld F b j = fld Fo b j) ∧ EF tag F Fo := ⟨fun b j n26_13 => (h1v105946 b j (fr_ne g0 n26_13)).trans (hfr.1 b j n26_13), fun b j hb => (h2v105946 b j).trans (hfr.2 b j hb)⟩
  refine lv_iconst (v := 1) hx hb dX11_yes_5 (by decide) ?_
  exact t_zret hQ X hT (by decide) (⟨(by decide), hfr⟩) (Nat.le_of_ble_eq_true rfl) (Nat.le_of_ble_eq_true rfl) dX11_yes_6
set_option maxHeartbeats 4000000 in
set_option maxRecDepth 100000 in
theorem kt354_X11_back (l : Launch) (G : KG) (tag : Nat → Nat) (L : List Nat) (Fo : Nat → va_E) (ho : okT G ttC tag L Fo) (p0 : Nat) (p1 : Int32) (m0 : p0 ∈ L) (g0 : tag p0 = 26) : TMi l yX11_back cX11_back 2 (some .boolean) { frames := 3, cells := 0, slots := 0, locals := 67 } G ttC tag L Fo [.ref p0, .int p1] (fun r F1 => (0 ≤ r.toInt ∧ r.toInt ≤ 1) ∧ ((∀ b j : Nat, (tag b ≠ 19 ∨ j ≠ 0) → (tag b ≠ 19 ∨ j ≠ 1) → (tag b ≠ 23 ∨ j ≠ 3) → (tag b ≠ 26 ∨ j ≠ 13) → fld F1 b j = fld Fo b j) ∧ EF tag F1 Fo)) := by
  refine t_bodyi (y := yX11_back) (cd := cX11_back) (mL := 2) (rt := (some .boolean)) (rm := { frames := 3, cells := 0, slots := 0, locals := 67 }) (av := [.ref p0, .int p1]) (by decide) (Nat.le_of_ble_eq_true rfl) ho ?_
  intro p e s m args below meth c ls A Q hQ X hT hl
  have hx := X.1.1
  have hb := X.1.2.1
  have hl : lv_has ls 2 [(0, .ref p0), (1, .int p1)] := hl
  have rp1 := rg_all p1
  obtain ⟨F, hFo⟩ : ∃ F : Nat → va_E, F = Fo := ⟨_, rfl⟩
  rw [← hFo] at hT
  have hfr : (∀ b j : Nat, (tag b ≠ 19 ∨ j ≠ 0) → (tag b ≠ 19 ∨ j ≠ 1) → (tag b ≠ 23 ∨ j ≠ 3) → (tag b ≠ 26 ∨ j ≠ 13) → fld F b j = fld Fo b j) ∧ EF tag F Fo := by
    rw [hFo]
    exact ⟨by intros; rfl, fun _ _ _ => rfl⟩
  refine lv_aload_n hx hb dX11_back_0 rfl (lv_at hl 0 rfl) ?_
  refine t_get (C := RX11) (T := TX11) (N := 16) X hT m0 g0 rfl rfl 12 (by decide) qw_45 inlX11 rfl dX11_back_1 (fun v106048 hv106048 ov106048 => ?_)
  obtain ⟨b106049, rfl, mb106049, gb106049⟩ := okV_r ov106048
  have gb106049 : tag b106049 = 23 := tg_of gb106049
  refine lv_aload_n hx hb dX11_back_4 rfl (lv_at hl 0 rfl) ?_
  refine t_get (C := RX11) (T := TX11) (N := 16) X hT m0 g0 rfl rfl 5 (by decide) qw_23 inlX11 rfl dX11_back_5 (fun v106050 hv106050 ov106050 => ?_)
  obtain ⟨b106051, rfl, mb106051, gb106051⟩ := okV_r ov106050
  have gb106051 : tag b106051 = 19 := tg_of gb106051
  refine lv_iload_n hx hb dX11_back_8 rfl (lv_at hl 1 rfl) ?_
  refine t_cVi (n := 2) (C := RX2) (T := TX2) (N := 5) (As := [.ref b106051, .int p1]) (rest := []) X hT (kt351_X2_goToMark l G tag L F hT.2.2.2 b106049 b106051 p1 mb106049 gb106049 mb106051 gb106051) mb106049 gb106049 rfl rfl qw_1545 qw_1546 qw_1547 qw_44 qw_1548 ⟨rfl, by decide +kernel, by decide +kernel, by decide +kernel⟩ ⟨Nat.le_of_ble_eq_true rfl, Nat.le_of_ble_eq_true rfl⟩ hl rfl rfl (Nat.le_of_ble_eq_true rfl) dX11_back_9 ⟨Nat.le_of_ble_eq_true rfl, Nat.le_of_ble_eq_true rfl⟩ (fun z106052 F H locs hT hz106052 => ?_)
  obtain ⟨hz106052, yz106052⟩ := hz106052
  have hv106048 := (yz106052.1 _ 12 (Or.inr (by decide)) (Or.inr (by decide)) (Or.inr (by decide))).trans hv106048
  have hv106050 := (yz106052.1 _ 5 (Or.inr (by decide)) (Or.inr (by decide)) (Or.inr (by decide))).trans hv106050
  have hfr : (∀ b j : Nat, (tag b ≠ 19 ∨ j ≠ 0) → (tag b ≠ 19 ∨ j ≠ 1) → (tag b ≠ 23 ∨ j ≠ 3) → (tag b ≠ 26 ∨ j ≠ 13) → fld F b j = fld Fo b j) ∧ EF tag F Fo := ⟨fun b j n19_0 n19_1 n23_3 n26_13 => (yz106052.1 b j n19_0 n19_1 n23_3).trans (hfr.1 b j n19_0 n19_1 n23_3 n26_13), fun b j hb => (yz106052.2 b j hb).trans (hfr.2 b j hb)⟩
  refine lv_if_eq (tgt := 22) hx hb dX11_back_12 (by decide) (fun c106053 => ?_) (fun c106053 => ?_)
  · have w106054 := cv_eq (rfl : z106052.toInt = z106052.toInt) (by decide : (0 : Int32).toInt = 0) c106053
    refine lv_aload_n hx hb dX11_back_22 rfl (lv_at hl 0 rfl) ?_
    refine lv_iconst (v := 1) hx hb dX11_back_23 (by decide) ?_
    refine t_cVi (n := 1) (C := RX11) (T := TX11) (N := 16) (As := [.int 1]) (rest := []) X hT (kt352_X11_no l G tag L F hT.2.2.2 p0 1 m0 g0) m0 g0 rfl rfl qw_1454 qw_1455 qw_1456 qw_2 qw_1457 ⟨rfl, by decide +kernel, by decide +kernel, by decide +kernel⟩ ⟨Nat.le_of_ble_eq_true rfl, Nat.le_of_ble_eq_true rfl⟩ hl rfl rfl (Nat.le_of_ble_eq_true rfl) dX11_back_24 ⟨Nat.le_of_ble_eq_true rfl, Nat.le_of_ble_eq_true rfl⟩ (fun z106055 F H locs hT hz106055 => ?_)
    obtain ⟨hz106055, yz106055⟩ := hz106055
    have hv106048 := (yz106055.1 _ 12 (Or.inr (by decide))).trans hv106048
    have hv106050 := (yz106055.1 _ 5 (Or.inr (by decide))).trans hv106050
    have hfr : (∀ b j : Nat, (tag b ≠ 19 ∨ j ≠ 0) → (tag b ≠ 19 ∨ j ≠ 1) → (tag b ≠ 23 ∨ j ≠ 3) → (tag b ≠ 26 ∨ j ≠ 13) → fld F b j = fld Fo b j) ∧ EF tag F Fo := ⟨fun b j n19_0 n19_1 n23_3 n26_13 => (yz106055.1 b j n26_13).trans (hfr.1 b j n19_0 n19_1 n23_3 n26_13), fun b j hb => (yz106055.2 b j hb).trans (hfr.2 b j hb)⟩
    exact t_zret hQ X hT (nar_z (by omega)) (⟨(by omega), hfr⟩) (Nat.le_of_ble_eq_true rfl) (Nat.le_of_ble_eq_true rfl) dX11_back_27
  · have w106056 := cv_ne (rfl : z106052.toInt = z106052.toInt) (by decide : (0 : Int32).toInt = 0) c106053
    refine lv_aload_n hx hb dX11_back_15 rfl (lv_at hl 0 rfl) ?_
    refine t_cVi (n := 0) (C := RX11) (T := TX11) (N := 16) (As := []) (rest := []) X hT (kt353_X11_yes l G tag L F hT.2.2.2 p0 m0 g0) m0 g0 rfl rfl qw_1460 qw_1461 qw_1462 qw_2 qw_1463 ⟨rfl, by decide +kernel, by decide +kernel, by decide +kernel⟩ ⟨Nat.le_of_ble_eq_true rfl, Nat.le_of_ble_eq_true rfl⟩ hl rfl rfl (Nat.le_of_ble_eq_true rfl) dX11_back_16 ⟨Nat.le_of_ble_eq_true rfl, Nat.le_of_ble_eq_true rfl⟩ (fun z106057 F H locs hT hz106057 => ?_)
    obtain ⟨hz106057, yz106057⟩ := hz106057
    have hv106048 := (yz106057.1 _ 12 (Or.inr (by decide))).trans hv106048
    have hv106050 := (yz106057.1 _ 5 (Or.inr (by decide))).trans hv106050
    have hfr : (∀ b j : Nat, (tag b ≠ 19 ∨ j ≠ 0) → (tag b ≠ 19 ∨ j ≠ 1) → (tag b ≠ 23 ∨ j ≠ 3) → (tag b ≠ 26 ∨ j ≠ 13) → fld F b j = fld Fo b j) ∧ EF tag F Fo := ⟨fun b j n19_0 n19_1 n23_3 n26_13 => (yz106057.1 b j n26_13).trans (hfr.1 b j n19_0 n19_1 n23_3 n26_13), fun b j hb => (yz106057.2 b j hb).trans (hfr.2 b j hb)⟩
    refine lv_goto (tgt := 27) hx hb dX11_back_19 (by decide) ?_
    exact t_zret hQ X hT (nar_z (by omega)) (⟨(by omega), hfr⟩) (Nat.le_of_ble_eq_true rfl) (Nat.le_of_ble_eq_true rfl) dX11_back_27
