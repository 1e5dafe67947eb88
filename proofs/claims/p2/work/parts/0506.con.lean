set_option maxHeartbeats 4000000 in
set_option maxRecDepth 100000 in
theorem kt51_X5_swap (l : Launch) (G : KG) (tag : Nat → Nat) (L : List Nat) (Fo : Nat → va_E) (ho : okT G ttC tag L Fo) (p0 : Nat) (p1 : Int32) (p2 : Int32) (m0 : p0 ∈ L) (g0 : tag p0 = 10) (h1 : 0 ≤ p1.toInt ∧ p1.toInt ≤ 3) (h2 : 0 ≤ p2.toInt ∧ p2.toInt ≤ 3) : TMv l yX5_swap cX5_swap 4 { frames := 0, cells := 0, slots := 0, locals := 0 } G ttC tag L Fo [.ref p0, .int p1, .int p2] (fun F1 => ((∀ b j : Nat, fld F1 b j = fld Fo b j) ∧ EF tag F1 Fo)) := by
  refine t_bodyv (y := yX5_swap) (cd := cX5_swap) (mL := 4) (rm := { frames := 0, cells := 0, slots := 0, locals := 0 }) (av := [.ref p0, .int p1, .int p2]) (by decide) (Nat.le_of_ble_eq_true rfl) ho ?_
  intro p e s m args below meth c ls A Q hQ X hT hl
  have hx := X.1.1
  have hb := X.1.2.1
  have hl : lv_has ls 4 [(0, .ref p0), (1, .int p1), (2, .int p2)] := hl
  obtain ⟨F, hFo⟩ : ∃ F : Nat → va_E, F = Fo := ⟨_, rfl⟩
  rw [← hFo] at hT
  have hfr : (∀ b j : Nat, fld F b j = fld Fo b j) ∧ EF tag F Fo := by
    rw [hFo]
    exact ⟨by intros; rfl, fun _ _ _ => rfl⟩
  refine lv_aload_n hx hb dX5_swap_0 rfl (lv_at hl 0 rfl) ?_
  refine lv_iload_n hx hb dX5_swap_1 rfl (lv_at hl 1 rfl) ?_
  refine t_ild X hT m0 g0 rfl (by omega) dX5_swap_2 (fun z17742 vz17742 rz17742 => ?_)
  have rz17742 : 0 ≤ z17742.toInt ∧ z17742.toInt ≤ 3 := rz17742
  refine lv_istore_n (lv' := [(3, .int z17742), (0, .ref p0), (1, .int p1), (2, .int p2)]) hx hb dX5_swap_3 rfl hl (by decide) rfl (fun ls hl => ?_)
  refine lv_aload_n hx hb dX5_swap_4 rfl (lv_at hl 1 rfl) ?_
  refine lv_iload_n hx hb dX5_swap_5 rfl (lv_at hl 2 rfl) ?_
  refine lv_aload_n hx hb dX5_swap_6 rfl (lv_at hl 1 rfl) ?_
  refine lv_iload_n hx hb dX5_swap_7 rfl (lv_at hl 3 rfl) ?_
  refine t_ild X hT m0 g0 rfl (by omega) dX5_swap_8 (fun z17743 vz17743 rz17743 => ?_)
  have rz17743 : 0 ≤ z17743.toInt ∧ z17743.toInt ≤ 3 := rz17743
  refine t_ist X hT m0 g0 rfl (by omega) (show 0 ≤ (z17743 : Int32).toInt ∧ (z17743 : Int32).toInt ≤ 3 from (by omega)) dX5_swap_9 (fun F H locs hT v17744 h1v17744 h2v17744 => ?_)
  have hfr : (∀ b j : Nat, fld F b j = fld Fo b j) ∧ EF tag F Fo := ⟨fun b j  => (h2v17744 b j).trans (hfr.1 b j ), fun b j hb => (h1v17744 b j (Or.inl (ns_ne hb g0 (by decide)))).trans (hfr.2 b j hb)⟩
  refine lv_aload_n hx hb dX5_swap_10 rfl (lv_at hl 1 rfl) ?_
  refine lv_iload_n hx hb dX5_swap_11 rfl (lv_at hl 3 rfl) ?_
  refine lv_iload_n hx hb dX5_swap_12 rfl (lv_at hl 0 rfl) ?_
  refine t_ist X hT m0 g0 rfl (by omega) (show 0 ≤ (z17742 : Int32).toInt ∧ (z17742 : Int32).toInt ≤ 3 from (by omega)) dX5_swap_13 (fun F H locs hT v17745 h1v17745 h2v17745 => ?_)
  have hfr : (∀ b j : Nat, fld F b j = fld Fo b j) ∧ EF tag F Fo := ⟨fun b j  => (h2v17745 b j).trans (hfr.1 b j ), fun b j hb => (h1v17745 b j (Or.inl (ns_ne hb g0 (by decide)))).trans (hfr.2 b j hb)⟩
  exact t_vret hQ X hT hfr (Nat.le_of_ble_eq_true rfl) (Nat.le_of_ble_eq_true rfl) dX5_swap_14
set_option maxHeartbeats 4000000 in
set_option maxRecDepth 100000 in
theorem kt52_X5_advance (l : Launch) (G : KG) (tag : Nat → Nat) (L : List Nat) (Fo : Nat → va_E) (ho : okT G ttC tag L Fo) (p0 : Nat) (p1 : Int32) (m0 : p0 ∈ L) (g0 : tag p0 = 10) (h1 : 2 ≤ p1.toInt ∧ p1.toInt ≤ 4) : TMv l yX5_advance cX5_advance 6 { frames := 1, cells := 0, slots := 0, locals := 23 } G ttC tag L Fo [.ref p0, .int p1] (fun F1 => ((∀ b j : Nat, fld F1 b j = fld Fo b j) ∧ EF tag F1 Fo)) := by
  refine t_bodyv (y := yX5_advance) (cd := cX5_advance) (mL := 6) (rm := { frames := 1, cells := 0, slots := 0, locals := 23 }) (av := [.ref p0, .int p1]) (by decide) (Nat.le_of_ble_eq_true rfl) ho ?_
  intro p e s m args below meth c ls A Q hQ X hT hl
  have hx := X.1.1
  have hb := X.1.2.1
  have hl : lv_has ls 6 [(0, .ref p0), (1, .int p1)] := hl
  obtain ⟨F, hFo⟩ : ∃ F : Nat → va_E, F = Fo := ⟨_, rfl⟩
  rw [← hFo] at hT
  have hfr : (∀ b j : Nat, fld F b j = fld Fo b j) ∧ EF tag F Fo := by
    rw [hFo]
    exact ⟨by intros; rfl, fun _ _ _ => rfl⟩
  have K77 : ∀ (n : Nat) (z18206 : Int32) (z18207 : Int32) (z18208 : Int32) (z18209 : Int32) (F : Nat → va_E) (H : Heap) (locs : List Loc) (ls : Array Slot), (3 - z18208.toInt < (n : Int)) → (0 ≤ z18206.toInt ∧ z18206.toInt ≤ 2) → (0 ≤ z18207.toInt ∧ z18207.toInt ≤ 3) → (1 ≤ z18208.toInt ∧ z18208.toInt ≤ 3) → (1 ≤ z18209.toInt ∧ z18209.toInt ≤ 3) → TH G ttC A s tag L F H locs → ((∀ b j : Nat, fld F b j = fld Fo b j) ∧ EF tag F Fo) → lv_has ls 6 [(0, .ref p0), (1, .int p1), (2, .int z18206), (3, .int z18207), (4, .int z18208), (5, .int z18209)] → W p l e { frames := 1, cells := 0, slots := 0, locals := 23 } s m args below meth c H locs 0 0 Q (F0 m 77 ls []) := by
    intro n
    induction n with
    | zero =>
      intro z18206 z18207 z18208 z18209 F H locs ls hn rz18206 rz18207 rz18208 rz18209 hT hfr hl
      exfalso
      omega
    | succ n ih77 =>
      intro z18206 z18207 z18208 z18209 F H locs ls hn rz18206 rz18207 rz18208 rz18209 hT hfr hl
      refine lv_iload hx hb dX5_advance_77 (lv_at hl 4 rfl) ?_
      refine lv_iload hx hb dX5_advance_79 (lv_at hl 5 rfl) ?_
      refine lv_icmp_ge (tgt := 101) hx hb dX5_advance_81 (by decide) (fun c18210 => ?_) (fun c18210 => ?_)
      · have w18211 := cv_le (rfl : z18209.toInt = z18209.toInt) (rfl : z18208.toInt = z18208.toInt) c18210
        exact t_vret hQ X hT hfr (Nat.le_of_ble_eq_true rfl) (Nat.le_of_ble_eq_true rfl) dX5_advance_101
      · have w18212 := cv_nle (rfl : z18209.toInt = z18209.toInt) (rfl : z18208.toInt = z18208.toInt) c18210
        refine lv_aload_n hx hb dX5_advance_84 rfl (lv_at hl 0 rfl) ?_
        refine lv_iload hx hb dX5_advance_85 (lv_at hl 4 rfl) ?_
        refine lv_iload hx hb dX5_advance_87 (lv_at hl 5 rfl) ?_
        refine t_cSv (n := 3) (As := [.ref p0, .int z18208, .int z18209]) (rest := []) X hT (kt51_X5_swap l G tag L F hT.2.2.2 p0 z18208 z18209 m0 g0 (by omega) (by omega)) qw_1250 qw_1251 qw_1242 qw_1252 ⟨by decide +kernel, by decide +kernel, by decide +kernel⟩ ⟨Nat.le_of_ble_eq_true rfl, Nat.le_of_ble_eq_true rfl⟩ hl rfl rfl (Nat.le_of_ble_eq_true rfl) dX5_advance_89 ⟨Nat.le_of_ble_eq_true rfl, Nat.le_of_ble_eq_true rfl⟩ (fun F H locs hT hz18213 => ?_)
        have yz18213 := hz18213
        have hfr : (∀ b j : Nat, fld F b j = fld Fo b j) ∧ EF tag F Fo := ⟨fun b j  => (yz18213.1 b j ).trans (hfr.1 b j ), fun b j hb => (yz18213.2 b j hb).trans (hfr.2 b j hb)⟩
        obtain ⟨z18214, ez18214⟩ : ∃ y : Int32, y = z18208 + 1 := ⟨_, rfl⟩
        have hz18214 : z18214.toInt = z18208.toInt + 1 := ar_add ez18214 rfl (by decide : (1 : Int32).toInt = 1) (by omega) (by omega)
        refine lv_iinc (v := z18214) (lv' := [(4, .int z18214), (0, .ref p0), (1, .int p1), (2, .int z18206), (3, .int z18207), (5, .int z18209)]) hx hb dX5_advance_92 hl (k := 4) rfl (by rw [ez18214]; rfl) (by decide) rfl (fun ls hl => ?_)
        obtain ⟨z18215, ez18215⟩ : ∃ y : Int32, y = z18209 + (-1) := ⟨_, rfl⟩
        have hz18215 : z18215.toInt = z18209.toInt + (-1) := ar_add ez18215 rfl (by decide : ((-1) : Int32).toInt = (-1)) (by omega) (by omega)
        refine lv_iinc (v := z18215) (lv' := [(5, .int z18215), (4, .int z18214), (0, .ref p0), (1, .int p1), (2, .int z18206), (3, .int z18207)]) hx hb dX5_advance_95 hl (k := 5) rfl (by rw [ez18215]; rfl) (by decide) rfl (fun ls hl => ?_)
        refine lv_goto (tgt := 77) hx hb dX5_advance_98 (by decide) ?_
        exact ih77 z18206 z18207 z18214 z18215 _ _ _ _ (by omega) (by omega) (by omega) (by omega) (by omega) hT hfr  (lv_sub hl [2, 3, 4, 5, 1, 0] rfl)
  have K61 : ∀ (z18216 : Int32) (z18217 : Int32) (F : Nat → va_E) (H : Heap) (locs : List Loc) (ls : Array Slot), (0 ≤ z18216.toInt ∧ z18216.toInt ≤ 2) → (0 ≤ z18217.toInt ∧ z18217.toInt ≤ 3) → TH G ttC A s tag L F H locs → ((∀ b j : Nat, fld F b j = fld Fo b j) ∧ EF tag F Fo) → lv_has ls 6 [(0, .ref p0), (1, .int p1), (2, .int z18216), (3, .int z18217)] → W p l e { frames := 1, cells := 0, slots := 0, locals := 23 } s m args below meth c H locs 0 0 Q (F0 m 61 ls []) := by
    intro z18216 z18217 F H locs ls rz18216 rz18217 hT hfr hl
    refine lv_aload_n hx hb dX5_advance_61 rfl (lv_at hl 0 rfl) ?_
    refine lv_iload_n hx hb dX5_advance_62 rfl (lv_at hl 2 rfl) ?_
    refine lv_iload_n hx hb dX5_advance_63 rfl (lv_at hl 3 rfl) ?_
    refine t_cSv (n := 3) (As := [.ref p0, .int z18216, .int z18217]) (rest := []) X hT (kt51_X5_swap l G tag L F hT.2.2.2 p0 z18216 z18217 m0 g0 (by omega) (by omega)) qw_1250 qw_1251 qw_1242 qw_1252 ⟨by decide +kernel, by decide +kernel, by decide +kernel⟩ ⟨Nat.le_of_ble_eq_true rfl, Nat.le_of_ble_eq_true rfl⟩ hl rfl rfl (Nat.le_of_ble_eq_true rfl) dX5_advance_64 ⟨Nat.le_of_ble_eq_true rfl, Nat.le_of_ble_eq_true rfl⟩ (fun F H locs hT hz18218 => ?_)
    have yz18218 := hz18218
    have hfr : (∀ b j : Nat, fld F b j = fld Fo b j) ∧ EF tag F Fo := ⟨fun b j  => (yz18218.1 b j ).trans (hfr.1 b j ), fun b j hb => (yz18218.2 b j hb).trans (hfr.2 b j hb)⟩
    refine lv_iload_n hx hb dX5_advance_67 rfl (lv_at hl 2 rfl) ?_
    refine lv_iconst (v := 1) hx hb dX5_advance_68 (by decide) ?_
    refine lv_iadd hx hb dX5_advance_69 ?_
    refine lv_topi (fun z18219 ez18219 => ?_)
    have hz18219 : z18219.toInt = z18216.toInt + 1 := ar_add ez18219 (rfl : z18216.toInt = z18216.toInt) (by decide : (1 : Int32).toInt = 1) (by omega) (by omega)
    have rz18219 : 1 ≤ z18219.toInt ∧ z18219.toInt ≤ 3 := by omega
    refine lv_istore (lv' := [(4, .int z18219), (0, .ref p0), (1, .int p1), (2, .int z18216), (3, .int z18217)]) hx hb dX5_advance_70 hl (by decide) rfl (fun ls hl => ?_)
    refine lv_iload_n hx hb dX5_advance_72 rfl (lv_at hl 2 rfl) ?_
    refine lv_iconst (v := 1) hx hb dX5_advance_73 (by decide) ?_
    refine lv_isub hx hb dX5_advance_74 ?_
    refine lv_topi (fun z18220 ez18220 => ?_)
    have hz18220 : z18220.toInt = p1.toInt - 1 := ar_sub ez18220 (rfl : p1.toInt = p1.toInt) (by decide : (1 : Int32).toInt = 1) (by omega) (by omega)
    have rz18220 : 1 ≤ z18220.toInt ∧ z18220.toInt ≤ 3 := by omega
    refine lv_istore (lv' := [(5, .int z18220), (4, .int z18219), (0, .ref p0), (1, .int p1), (2, .int z18216), (3, .int z18217)]) hx hb dX5_advance_75 hl (by decide) rfl (fun ls hl => ?_)
    exact K77 3 z18216 z18217 z18219 z18220 _ _ _ _ (by omega) (by omega) (by omega) (by omega) (by omega) hT hfr  (lv_sub hl [2, 3, 4, 5, 1, 0] rfl)
  have K41 : ∀ (n : Nat) (z18221 : Int32) (z18222 : Int32) (F : Nat → va_E) (H : Heap) (locs : List Loc) (ls : Array Slot), (z18222.toInt - 0 < (n : Int)) → (0 ≤ z18221.toInt ∧ z18221.toInt ≤ 2) → (0 ≤ z18222.toInt ∧ z18222.toInt ≤ 3) → TH G ttC A s tag L F H locs → ((∀ b j : Nat, fld F b j = fld Fo b j) ∧ EF tag F Fo) → lv_has ls 6 [(0, .ref p0), (1, .int p1), (2, .int z18221), (3, .int z18222)] → W p l e { frames := 1, cells := 0, slots := 0, locals := 23 } s m args below meth c H locs 0 0 Q (F0 m 41 ls []) := by
    intro n
    induction n with
    | zero =>
      intro z18221 z18222 F H locs ls hn rz18221 rz18222 hT hfr hl
      exfalso
      omega
    | succ n ih41 =>
      intro z18221 z18222 F H locs ls hn rz18221 rz18222 hT hfr hl
      refine lv_iload_n hx hb dX5_advance_41 rfl (lv_at hl 3 rfl) ?_
      refine lv_iload_n hx hb dX5_advance_42 rfl (lv_at hl 2 rfl) ?_
      refine lv_icmp_le (tgt := 61) hx hb dX5_advance_43 (by decide) (fun c18223 => ?_) (fun c18223 => ?_)
      · have w18224 := cv_le (rfl : z18222.toInt = z18222.toInt) (rfl : z18221.toInt = z18221.toInt) c18223
        exact K61 z18221 z18222 _ _ _ _ (by omega) (by omega) hT hfr  (lv_sub hl [0, 1, 2, 3] rfl)
      · have w18225 := cv_nle (rfl : z18222.toInt = z18222.toInt) (rfl : z18221.toInt = z18221.toInt) c18223
        refine lv_aload_n hx hb dX5_advance_46 rfl (lv_at hl 0 rfl) ?_
        refine lv_iload_n hx hb dX5_advance_47 rfl (lv_at hl 3 rfl) ?_
        refine t_ild X hT m0 g0 rfl (by omega) dX5_advance_48 (fun z18226 vz18226 rz18226 => ?_)
        have rz18226 : 0 ≤ z18226.toInt ∧ z18226.toInt ≤ 3 := rz18226
        refine lv_aload_n hx hb dX5_advance_49 rfl (lv_at hl 0 rfl) ?_
        refine lv_iload_n hx hb dX5_advance_50 rfl (lv_at hl 2 rfl) ?_
        refine t_ild X hT m0 g0 rfl (by omega) dX5_advance_51 (fun z18227 vz18227 rz18227 => ?_)
        have rz18227 : 0 ≤ z18227.toInt ∧ z18227.toInt ≤ 3 := rz18227
        refine lv_icmp_ge (tgt := 61) hx hb dX5_advance_52 (by decide) (fun c18228 => ?_) (fun c18228 => ?_)
        · have w18229 := cv_le (rfl : z18227.toInt = z18227.toInt) (rfl : z18226.toInt = z18226.toInt) c18228
          exact K61 z18221 z18222 _ _ _ _ (by omega) (by omega) hT hfr  (lv_sub hl [0, 1, 2, 3] rfl)
        · have w18230 := cv_nle (rfl : z18227.toInt = z18227.toInt) (rfl : z18226.toInt = z18226.toInt) c18228
          obtain ⟨z18231, ez18231⟩ : ∃ y : Int32, y = z18222 + (-1) := ⟨_, rfl⟩
          have hz18231 : z18231.toInt = z18222.toInt + (-1) := ar_add ez18231 rfl (by decide : ((-1) : Int32).toInt = (-1)) (by omega) (by omega)
          refine lv_iinc (v := z18231) (lv' := [(3, .int z18231), (0, .ref p0), (1, .int p1), (2, .int z18221)]) hx hb dX5_advance_55 hl (k := 3) rfl (by rw [ez18231]; rfl) (by decide) rfl (fun ls hl => ?_)
          refine lv_goto (tgt := 41) hx hb dX5_advance_58 (by decide) ?_
          exact ih41 z18221 z18231 _ _ _ _ (by omega) (by omega) (by omega) hT hfr  (lv_sub hl [1, 2, 3, 0] rfl)
  have K32 : ∀ (z18232 : Int32) (F : Nat → va_E) (H : Heap) (locs : List Loc) (ls : Array Slot), ((-1) ≤ z18232.toInt ∧ z18232.toInt ≤ 2) → TH G ttC A s tag L F H locs → ((∀ b j : Nat, fld F b j = fld Fo b j) ∧ EF tag F Fo) → lv_has ls 6 [(0, .ref p0), (1, .int p1), (2, .int z18232)] → W p l e { frames := 1, cells := 0, slots := 0, locals := 23 } s m args below meth c H locs 0 0 Q (F0 m 32 ls []) := by
    intro z18232 F H locs ls rz18232 hT hfr hl
    refine lv_iload_n hx hb dX5_advance_32 rfl (lv_at hl 2 rfl) ?_
    refine lv_if_ge (tgt := 37) hx hb dX5_advance_33 (by decide) (fun c18233 => ?_) (fun c18233 => ?_)
    · have w18234 := cv_le (by decide : (0 : Int32).toInt = 0) (rfl : z18232.toInt = z18232.toInt) c18233
      refine lv_iload_n hx hb dX5_advance_37 rfl (lv_at hl 1 rfl) ?_
      refine lv_iconst (v := 1) hx hb dX5_advance_38 (by decide) ?_
      refine lv_isub hx hb dX5_advance_39 ?_
      refine lv_topi (fun z18235 ez18235 => ?_)
      have hz18235 : z18235.toInt = p1.toInt - 1 := ar_sub ez18235 (rfl : p1.toInt = p1.toInt) (by decide : (1 : Int32).toInt = 1) (by omega) (by omega)
      have rz18235 : 1 ≤ z18235.toInt ∧ z18235.toInt ≤ 3 := by omega
      refine lv_istore_n (lv' := [(3, .int z18235), (0, .ref p0), (1, .int p1), (2, .int z18232)]) hx hb dX5_advance_40 rfl hl (by decide) rfl (fun ls hl => ?_)
      exact K41 4 z18232 z18235 _ _ _ _ (by omega) (by omega) (by omega) hT hfr  (lv_sub hl [1, 2, 3, 0] rfl)
    · have w18236 := cv_nle (by decide : (0 : Int32).toInt = 0) (rfl : z18232.toInt = z18232.toInt) c18233
      exact t_vret hQ X hT hfr (Nat.le_of_ble_eq_true rfl) (Nat.le_of_ble_eq_true rfl) dX5_advance_36
  have K11 : ∀ (n : Nat) (z18237 : Int32) (F : Nat → va_E) (H : Heap) (locs : List Loc) (ls : Array Slot), (z18237.toInt - (-1) < (n : Int)) → ((-1) ≤ z18237.toInt ∧ z18237.toInt ≤ 2) → TH G ttC A s tag L F H locs → ((∀ b j : Nat, fld F b j = fld Fo b j) ∧ EF tag F Fo) → lv_has ls 6 [(0, .ref p0), (1, .int p1), (2, .int z18237)] → W p l e { frames := 1, cells := 0, slots := 0, locals := 23 } s m args below meth c H locs 0 0 Q (F0 m 11 ls []) := by
    intro n
    induction n with
    | zero =>
      intro z18237 F H locs ls hn rz18237 hT hfr hl
      exfalso
      omega
    | succ n ih11 =>
      intro z18237 F H locs ls hn rz18237 hT hfr hl
      refine lv_iload_n hx hb dX5_advance_11 rfl (lv_at hl 2 rfl) ?_
      refine lv_if_lt (tgt := 32) hx hb dX5_advance_12 (by decide) (fun c18238 => ?_) (fun c18238 => ?_)
      · have w18239 := cv_lt (rfl : z18237.toInt = z18237.toInt) (by decide : (0 : Int32).toInt = 0) c18238
        exact K32 z18237 _ _ _ _ (by omega) hT hfr  (lv_sub hl [0, 1, 2] rfl)
      · have w18240 := cv_nlt (rfl : z18237.toInt = z18237.toInt) (by decide : (0 : Int32).toInt = 0) c18238
        refine lv_aload_n hx hb dX5_advance_15 rfl (lv_at hl 0 rfl) ?_
        refine lv_iload_n hx hb dX5_advance_16 rfl (lv_at hl 2 rfl) ?_
        refine t_ild X hT m0 g0 rfl (by omega) dX5_advance_17 (fun z18241 vz18241 rz18241 => ?_)
        have rz18241 : 0 ≤ z18241.toInt ∧ z18241.toInt ≤ 3 := rz18241
        refine lv_aload_n hx hb dX5_advance_18 rfl (lv_at hl 0 rfl) ?_
        refine lv_iload_n hx hb dX5_advance_19 rfl (lv_at hl 2 rfl) ?_
        refine lv_iconst (v := 1) hx hb dX5_advance_20 (by decide) ?_
        refine lv_iadd hx hb dX5_advance_21 ?_
        refine lv_topi (fun z18242 ez18242 => ?_)
        have hz18242 : z18242.toInt = z18237.toInt + 1 := ar_add ez18242 (rfl : z18237.toInt = z18237.toInt) (by decide : (1 : Int32).toInt = 1) (by omega) (by omega)
        have rz18242 : 1 ≤ z18242.toInt ∧ z18242.toInt ≤ 3 := by omega
        refine t_ild X hT m0 g0 rfl (by omega) dX5_advance_22 (fun z18243 vz18243 rz18243 => ?_)
        have rz18243 : 0 ≤ z18243.toInt ∧ z18243.toInt ≤ 3 := rz18243
        refine lv_icmp_le (tgt := 32) hx hb dX5_advance_23 (by decide) (fun c18244 => ?_) (fun c18244 => ?_)
        · have w18245 := cv_le (rfl : z18241.toInt = z18241.toInt) (rfl : z18243.toInt = z18243.toInt) c18244
          exact K32 z18237 _ _ _ _ (by omega) hT hfr  (lv_sub hl [0, 1, 2] rfl)
        · have w18246 := cv_nle (rfl : z18241.toInt = z18241.toInt) (rfl : z18243.toInt = z18243.toInt) c18244
          obtain ⟨z18247, ez18247⟩ : ∃ y : Int32, y = z18237 + (-1) := ⟨_, rfl⟩
          have hz18247 : z18247.toInt = z18237.toInt + (-1) := ar_add ez18247 rfl (by decide : ((-1) : Int32).toInt = (-1)) (by omega) (by omega)
          refine lv_iinc (v := z18247) (lv' := [(2, .int z18247), (0, .ref p0), (1, .int p1)]) hx hb dX5_advance_26 hl (k := 2) rfl (by rw [ez18247]; rfl) (by decide) rfl (fun ls hl => ?_)
          refine lv_goto (tgt := 11) hx hb dX5_advance_29 (by decide) ?_
          exact ih11 z18247 _ _ _ _ (by omega) (by omega) hT hfr  (lv_sub hl [1, 2, 0] rfl)
  refine lv_iload_n hx hb dX5_advance_0 rfl (lv_at hl 1 rfl) ?_
  refine lv_aload_n hx hb dX5_advance_1 rfl (lv_at hl 0 rfl) ?_
  refine t_alen X hT m0 g0 rfl (by decide) dX5_advance_2 ?_
  refine lv_topi (fun z18248 ez18248 => ?_)
  obtain rfl : z18248 = 4 := ez18248.trans (by rfl)
  refine lv_icmp_le (tgt := 7) hx hb dX5_advance_3 (by decide) (fun c18249 => ?_) (fun c18249 => ?_)
  · have w18250 := cv_le (rfl : p1.toInt = p1.toInt) (by decide : (4 : Int32).toInt = 4) c18249
    refine lv_iload_n hx hb dX5_advance_7 rfl (lv_at hl 1 rfl) ?_
    refine lv_iconst (v := 2) hx hb dX5_advance_8 (by decide) ?_
    refine lv_isub hx hb dX5_advance_9 ?_
    refine lv_topi (fun z18251 ez18251 => ?_)
    have hz18251 : z18251.toInt = p1.toInt - 2 := ar_sub ez18251 (rfl : p1.toInt = p1.toInt) (by decide : (2 : Int32).toInt = 2) (by omega) (by omega)
    have rz18251 : 0 ≤ z18251.toInt ∧ z18251.toInt ≤ 2 := by omega
    refine lv_istore_n (lv' := [(2, .int z18251), (0, .ref p0), (1, .int p1)]) hx hb dX5_advance_10 rfl hl (by decide) rfl (fun ls hl => ?_)
    exact K11 4 z18251 _ _ _ _ (by omega) (by omega) hT hfr  (lv_sub hl [1, 2, 0] rfl)
  · have w18252 := cv_nle (rfl : p1.toInt = p1.toInt) (by decide : (4 : Int32).toInt = 4) c18249
    exfalso
    omega
set_option maxHeartbeats 4000000 in
set_option maxRecDepth 100000 in
theorem kt53_X5_advance (l : Launch) (G : KG) (tag : Nat → Nat) (L : List Nat) (Fo : Nat → va_E) (ho : okT G ttC tag L Fo) (p0 : Nat) (p1 : Int32) (m0 : p0 ∈ L) (g0 : tag p0 = 10) (h1 : 0 ≤ p1.toInt ∧ p1.toInt ≤ 1) : TMv l yX5_advance cX5_advance 6 { frames := 1, cells := 0, slots := 0, locals := 23 } G ttC tag L Fo [.ref p0, .int p1] (fun F1 => ((∀ b j : Nat, fld F1 b j = fld Fo b j) ∧ EF tag F1 Fo)) := by
  refine t_bodyv (y := yX5_advance) (cd := cX5_advance) (mL := 6) (rm := { frames := 1, cells := 0, slots := 0, locals := 23 }) (av := [.ref p0, .int p1]) (by decide) (Nat.le_of_ble_eq_true rfl) ho ?_
  intro p e s m args below meth c ls A Q hQ X hT hl
  have hx := X.1.1
  have hb := X.1.2.1
  have hl : lv_has ls 6 [(0, .ref p0), (1, .int p1)] := hl
  obtain ⟨F, hFo⟩ : ∃ F : Nat → va_E, F = Fo := ⟨_, rfl⟩
  rw [← hFo] at hT
  have hfr : (∀ b j : Nat, fld F b j = fld Fo b j) ∧ EF tag F Fo := by
    rw [hFo]
    exact ⟨by intros; rfl, fun _ _ _ => rfl⟩
  have K32 : ∀ (z18400 : Int32) (F : Nat → va_E) (H : Heap) (locs : List Loc) (ls : Array Slot), ((-2) ≤ z18400.toInt ∧ z18400.toInt ≤ (-1)) → TH G ttC A s tag L F H locs → ((∀ b j : Nat, fld F b j = fld Fo b j) ∧ EF tag F Fo) → lv_has ls 6 [(0, .ref p0), (1, .int p1), (2, .int z18400)] → W p l e { frames := 1, cells := 0, slots := 0, locals := 23 } s m args below meth c H locs 0 0 Q (F0 m 32 ls []) := by
    intro z18400 F H locs ls rz18400 hT hfr hl
    refine lv_iload_n hx hb dX5_advance_32 rfl (lv_at hl 2 rfl) ?_
    refine lv_if_ge (tgt := 37) hx hb dX5_advance_33 (by decide) (fun c18401 => ?_) (fun c18401 => ?_)
    · have w18402 := cv_le (by decide : (0 : Int32).toInt = 0) (rfl : z18400.toInt = z18400.toInt) c18401
      exfalso
      omega
    · have w18403 := cv_nle (by decide : (0 : Int32).toInt = 0) (rfl : z18400.toInt = z18400.toInt) c18401
      exact t_vret hQ X hT hfr (Nat.le_of_ble_eq_true rfl) (Nat.le_of_ble_eq_true rfl) dX5_advance_36
  have K11 : ∀ (z18404 : Int32) (F : Nat → va_E) (H : Heap) (locs : List Loc) (ls : Array Slot), ((-2) ≤ z18404.toInt ∧ z18404.toInt ≤ (-1)) → TH G ttC A s tag L F H locs → ((∀ b j : Nat, fld F b j = fld Fo b j) ∧ EF tag F Fo) → lv_has ls 6 [(0, .ref p0), (1, .int p1), (2, .int z18404)] → W p l e { frames := 1, cells := 0, slots := 0, locals := 23 } s m args below meth c H locs 0 0 Q (F0 m 11 ls []) := by
    intro z18404 F H locs ls rz18404 hT hfr hl
    refine lv_iload_n hx hb dX5_advance_11 rfl (lv_at hl 2 rfl) ?_
    refine lv_if_lt (tgt := 32) hx hb dX5_advance_12 (by decide) (fun c18405 => ?_) (fun c18405 => ?_)
    · have w18406 := cv_lt (rfl : z18404.toInt = z18404.toInt) (by decide : (0 : Int32).toInt = 0) c18405
      exact K32 z18404 _ _ _ _ (by omega) hT hfr  (lv_sub hl [0, 1, 2] rfl)
    · have w18407 := cv_nlt (rfl : z18404.toInt = z18404.toInt) (by decide : (0 : Int32).toInt = 0) c18405
      exfalso
      omega
  refine lv_iload_n hx hb dX5_advance_0 rfl (lv_at hl 1 rfl) ?_
  refine lv_aload_n hx hb dX5_advance_1 rfl (lv_at hl 0 rfl) ?_
  refine t_alen X hT m0 g0 rfl (by decide) dX5_advance_2 ?_
  refine lv_topi (fun z18408 ez18408 => ?_)
  obtain rfl : z18408 = 4 := ez18408.trans (by rfl)
  refine lv_icmp_le (tgt := 7) hx hb dX5_advance_3 (by decide) (fun c18409 => ?_) (fun c18409 => ?_)
  · have w18410 := cv_le (rfl : p1.toInt = p1.toInt) (by decide : (4 : Int32).toInt = 4) c18409
    refine lv_iload_n hx hb dX5_advance_7 rfl (lv_at hl 1 rfl) ?_
    refine lv_iconst (v := 2) hx hb dX5_advance_8 (by decide) ?_
    refine lv_isub hx hb dX5_advance_9 ?_
    refine lv_topi (fun z18411 ez18411 => ?_)
    have hz18411 : z18411.toInt = p1.toInt - 2 := ar_sub ez18411 (rfl : p1.toInt = p1.toInt) (by decide : (2 : Int32).toInt = 2) (by omega) (by omega)
    have rz18411 : (-2) ≤ z18411.toInt ∧ z18411.toInt ≤ (-1) := by omega
    refine lv_istore_n (lv' := [(2, .int z18411), (0, .ref p0), (1, .int p1)]) hx hb dX5_advance_10 rfl hl (by decide) rfl (fun ls hl => ?_)
    exact K11 z18411 _ _ _ _ (by omega) hT hfr  (lv_sub hl [1, 2, 0] rfl)
  · have w18412 := cv_nle (rfl : p1.toInt = p1.toInt) (by decide : (4 : Int32).toInt = 4) c18409
    exfalso
    omega
theorem kt54_X5_advance (l : Launch) (G : KG) (tag : Nat → Nat) (L : List Nat) (Fo : Nat → va_E) (ho : okT G ttC tag L Fo) (p0 : Nat) (p1 : Int32) (m0 : p0 ∈ L) (g0 : tag p0 = 10) (h1 : 0 ≤ p1.toInt ∧ p1.toInt ≤ 4) : TMv l yX5_advance cX5_advance 6 { frames := 1, cells := 0, slots := 0, locals := 23 } G ttC tag L Fo [.ref p0, .int p1] (fun F1 => ((∀ b j : Nat, fld F1 b j = fld Fo b j) ∧ EF tag F1 Fo)) := by
  by_cases h9 : p1.toInt < 2
  · exact kt53_X5_advance l G tag L Fo ho p0 p1 m0 g0 (by omega)
  · exact kt52_X5_advance l G tag L Fo ho p0 p1 m0 g0 (by omega)
set_option maxHeartbeats 4000000 in
set_option maxRecDepth 100000 in
theorem kt55_X10_mostSkins (l : Launch) (G : KG) (tag : Nat → Nat) (L : List Nat) (Fo : Nat → va_E) (ho : okT G ttC tag L Fo) (p0 : Nat) (p1 : Nat) (p2 : Nat) (p3 : Nat) (p4 : Int32) (m0 : p0 ∈ L) (g0 : tag p0 = 20) (m1 : p1 ∈ L) (g1 : tag p1 = 18) (m2 : p2 ∈ L) (g2 : tag p2 = 19) (m3 : p3 ∈ L) (g3 : tag p3 = 19) (h4 : 0 ≤ p4.toInt ∧ p4.toInt ≤ 30) : TMi l yX10_mostSkins cX10_mostSkins 8 (some .int) { frames := 6, cells := 0, slots := 0, locals := 157 } G ttC tag L Fo [.ref p0, .ref p1, .ref p2, .ref p3, .int p4] (fun r F1 => ((-1) ≤ r.toInt ∧ r.toInt ≤ 2147483647) ∧ ((∀ b j : Nat, (tag b ≠ 19 ∨ j ≠ 0) → (tag b ≠ 19 ∨ j ≠ 1) → fld F1 b j = fld Fo b j) ∧ EF tag F1 Fo)) := by
  refine t_bodyi (y := yX10_mostSkins) (cd := cX10_mostSkins) (mL := 8) (rt := (some .int)) (rm := { frames := 6, cells := 0, slots := 0, locals := 157 }) (av := [.ref p0, .ref p1, .ref p2, .ref p3, .int p4]) (by decide) (Nat.le_of_ble_eq_true rfl) ho ?_
  intro p e s m args below meth c ls A Q hQ X hT hl
  have hx := X.1.1
  have hb := X.1.2.1
  have hl : lv_has ls 8 [(0, .ref p0), (1, .ref p1), (2, .ref p2), (3, .ref p3), (4, .int p4)] := hl
  obtain ⟨F, hFo⟩ : ∃ F : Nat → va_E, F = Fo := ⟨_, rfl⟩
  rw [← hFo] at hT
  have hfr : (∀ b j : Nat, (tag b ≠ 19 ∨ j ≠ 0) → (tag b ≠ 19 ∨ j ≠ 1) → fld F b j = fld Fo b j) ∧ EF tag F Fo := by
    rw [hFo]
    exact ⟨by intros; rfl, fun _ _ _ => rfl⟩
  have K17 : ∀ (n : Nat) (z19713 : Int32) (z19714 : Int32) (z19715 : Int32) (F : Nat → va_E) (H : Heap) (locs : List Loc) (ls : Array Slot), (901 - z19714.toInt < (n : Int)) → ((-1) ≤ z19713.toInt ∧ z19713.toInt ≤ 2147483647) → (0 ≤ z19714.toInt ∧ z19714.toInt ≤ 901) → (0 ≤ z19715.toInt ∧ z19715.toInt ≤ 4) → TH G ttC A s tag L F H locs → ((∀ b j : Nat, (tag b ≠ 19 ∨ j ≠ 0) → (tag b ≠ 19 ∨ j ≠ 1) → fld F b j = fld Fo b j) ∧ EF tag F Fo) → fld F p1 10 = .int z19715 → lv_has ls 8 [(0, .ref p0), (1, .ref p1), (2, .ref p2), (3, .ref p3), (4, .int p4), (5, .int z19713), (6, .int z19714)] → W p l e { frames := 6, cells := 0, slots := 0, locals := 157 } s m args below meth c H locs 0 0 Q (F0 m 17 ls []) := by
    intro n
    induction n with
    | zero =>
      intro z19713 z19714 z19715 F H locs ls hn rz19713 rz19714 rz19715 hT hfr qz19715 hl
      exfalso
      omega
    | succ n ih17 =>
      intro z19713 z19714 z19715 F H locs ls hn rz19713 rz19714 rz19715 hT hfr qz19715 hl
      have K91 : ∀ (z19716 : Int32) (z19718 : Int32) (z19719 : Int32) (F : Nat → va_E) (H : Heap) (locs : List Loc) (ls : Array Slot), ((-1) ≤ z19716.toInt ∧ z19716.toInt ≤ 2147483647) → (0 ≤ z19719.toInt ∧ z19719.toInt ≤ 4) → (0 ≤ z19714.toInt ∧ z19714.toInt ≤ 900) → TH G ttC A s tag L F H locs → ((∀ b j : Nat, (tag b ≠ 19 ∨ j ≠ 0) → (tag b ≠ 19 ∨ j ≠ 1) → fld F b j = fld Fo b j) ∧ EF tag F Fo) → fld F p1 10 = .int z19719 → lv_has ls 8 [(0, .ref p0), (1, .ref p1), (2, .ref p2), (3, .ref p3), (4, .int p4), (5, .int z19716), (6, .int z19714), (7, .int z19718)] → W p l e { frames := 6, cells := 0, slots := 0, locals := 157 } s m args below meth c H locs 0 0 Q (F0 m 91 ls []) := by
        intro z19716 z19718 z19719 F H locs ls rz19716 rz19719 r9s19717 hT hfr qz19719 hl
        have rz19718 := rg_all z19718
        refine lv_aload_n hx hb dX10_mostSkins_91 rfl (lv_at hl 0 rfl) ?_
        refine t_get (C := RX10) (T := TX10) (N := 2) X hT m0 g0 rfl rfl 0 (by decide) qw_83 inlX10 rfl dX10_mostSkins_92 (fun v19720 hv19720 ov19720 => ?_)
        obtain ⟨b19721, rfl, mb19721, gb19721⟩ := okV_r ov19720
        have gb19721 : tag b19721 = 10 := tg_of gb19721
        refine lv_aload_n hx hb dX10_mostSkins_95 rfl (lv_at hl 1 rfl) ?_
        refine t_get (C := RX1) (T := TX1) (N := 20) X hT m1 g1 rfl rfl 10 (by decide) qw_1100 inlX1 rfl dX10_mostSkins_96 (fun v19722 hv19722 ov19722 => ?_)
        obtain rfl : v19722 = .int z19719 := hv19722.symm.trans qz19719
        refine t_cSv (n := 2) (As := [.ref b19721, .int z19719]) (rest := []) X hT (kt54_X5_advance l G tag L F hT.2.2.2 b19721 z19719 mb19721 gb19721 (by omega)) qw_1247 qw_1248 qw_1242 qw_1249 ⟨by decide +kernel, by decide +kernel, by decide +kernel⟩ ⟨Nat.le_of_ble_eq_true rfl, Nat.le_of_ble_eq_true rfl⟩ hl rfl rfl (Nat.le_of_ble_eq_true rfl) dX10_mostSkins_99 ⟨Nat.le_of_ble_eq_true rfl, Nat.le_of_ble_eq_true rfl⟩ (fun F H locs hT hz19723 => ?_)
        have yz19723 := hz19723
        have qz19719 := (yz19723.1 _ 10 ).trans qz19719
        have hv19720 := (yz19723.1 _ 0 ).trans hv19720
        have hfr : (∀ b j : Nat, (tag b ≠ 19 ∨ j ≠ 0) → (tag b ≠ 19 ∨ j ≠ 1) → fld F b j = fld Fo b j) ∧ EF tag F Fo := ⟨fun b j n19_0 n19_1 => (yz19723.1 b j ).trans (hfr.1 b j n19_0 n19_1), fun b j hb => (yz19723.2 b j hb).trans (hfr.2 b j hb)⟩
        obtain ⟨z19724, ez19724⟩ : ∃ y : Int32, y = z19714 + 1 := ⟨_, rfl⟩
        have hz19724 : z19724.toInt = z19714.toInt + 1 := ar_add ez19724 rfl (by decide : (1 : Int32).toInt = 1) (by omega) (by omega)
        refine lv_iinc (v := z19724) (lv' := [(6, .int z19724), (0, .ref p0), (1, .ref p1), (2, .ref p2), (3, .ref p3), (4, .int p4), (5, .int z19716), (7, .int z19718)]) hx hb dX10_mostSkins_102 hl (k := 6) rfl (by rw [ez19724]; rfl) (by decide) rfl (fun ls hl => ?_)
        refine lv_goto (tgt := 17) hx hb dX10_mostSkins_105 (by decide) ?_
        exact ih17 z19716 z19724 z19719 _ _ _ _ (by omega) (by omega) (by omega) (by omega) hT hfr qz19719 (lv_sub hl [1, 2, 3, 4, 5, 6, 0] rfl)
      have K38 : ∀ (n : Nat) (z19726 : Int32) (z19727 : Int32) (F : Nat → va_E) (H : Heap) (locs : List Loc) (ls : Array Slot), (30 - z19726.toInt < (n : Int)) → (0 ≤ z19726.toInt ∧ z19726.toInt ≤ 30) → (0 ≤ z19727.toInt ∧ z19727.toInt ≤ 4) → (0 ≤ z19714.toInt ∧ z19714.toInt ≤ 900) → TH G ttC A s tag L F H locs → ((∀ b j : Nat, (tag b ≠ 19 ∨ j ≠ 0) → (tag b ≠ 19 ∨ j ≠ 1) → fld F b j = fld Fo b j) ∧ EF tag F Fo) → fld F p1 10 = .int z19727 → lv_has ls 8 [(0, .ref p0), (1, .ref p1), (2, .ref p2), (3, .ref p3), (4, .int p4), (5, .int z19713), (6, .int z19714), (7, .int z19726)] → W p l e { frames := 6, cells := 0, slots := 0, locals := 157 } s m args below meth c H locs 0 0 Q (F0 m 38 ls []) := by
        intro n
        induction n with
        | zero =>
          intro z19726 z19727 F H locs ls hn rz19726 rz19727 r9s19725 hT hfr qz19727 hl
          exfalso
          omega
        | succ n ih38 =>
          intro z19726 z19727 F H locs ls hn rz19726 rz19727 r9s19725 hT hfr qz19727 hl
          refine lv_iload hx hb dX10_mostSkins_38 (lv_at hl 7 rfl) ?_
          refine lv_iload hx hb dX10_mostSkins_40 (lv_at hl 4 rfl) ?_
          refine lv_icmp_ge (tgt := 60) hx hb dX10_mostSkins_42 (by decide) (fun c19728 => ?_) (fun c19728 => ?_)
          · have w19729 := cv_le (rfl : p4.toInt = p4.toInt) (rfl : z19726.toInt = z19726.toInt) c19728
            refine lv_aload_n hx hb dX10_mostSkins_60 rfl (lv_at hl 3 rfl) ?_
            refine t_cVi (n := 0) (C := RX7) (T := TX7) (N := 7) (As := []) (rest := []) X hT (kt23_X7_skinsOfAll l G tag L F hT.2.2.2 p3 m3 g3) m3 g3 rfl rfl qw_1246 qw_1183 qw_1184 qw_22 qw_1185 ⟨rfl, by decide +kernel, by decide +kernel, by decide +kernel⟩ ⟨Nat.le_of_ble_eq_true rfl, Nat.le_of_ble_eq_true rfl⟩ hl rfl rfl (Nat.le_of_ble_eq_true rfl) dX10_mostSkins_61 ⟨Nat.le_of_ble_eq_true rfl, Nat.le_of_ble_eq_true rfl⟩ (fun z19730 F9 H locs hT hz19730 => ?_)
            obtain ⟨fz19730, hz19730⟩ := hz19730
            rw [fz19730] at hT
            refine lv_istore (lv' := [(7, .int z19730), (0, .ref p0), (1, .ref p1), (2, .ref p2), (3, .ref p3), (4, .int p4), (5, .int z19713), (6, .int z19714)]) hx hb dX10_mostSkins_64 hl (by decide) rfl (fun ls hl => ?_)
            refine lv_iload hx hb dX10_mostSkins_66 (lv_at hl 0 rfl) ?_
            refine lv_iload hx hb dX10_mostSkins_68 (lv_at hl 6 rfl) ?_
            refine lv_icmp_le (tgt := 91) hx hb dX10_mostSkins_70 (by decide) (fun c19731 => ?_) (fun c19731 => ?_)
            · have w19732 := cv_le (rfl : z19730.toInt = z19730.toInt) (rfl : z19713.toInt = z19713.toInt) c19731
              exact K91 z19713 z19730 z19727 _ _ _ _ (by omega) (by omega) (by omega) hT hfr qz19727 (lv_sub hl [1, 2, 3, 4, 5, 6, 7, 0] rfl)
            · have w19733 := cv_nle (rfl : z19730.toInt = z19730.toInt) (rfl : z19713.toInt = z19713.toInt) c19731
              refine lv_iload hx hb dX10_mostSkins_73 (lv_at hl 0 rfl) ?_
              refine lv_istore (lv' := [(5, .int z19730), (7, .int z19730), (0, .ref p0), (1, .ref p1), (2, .ref p2), (3, .ref p3), (4, .int p4), (6, .int z19714)]) hx hb dX10_mostSkins_75 hl (by decide) rfl (fun ls hl => ?_)
              refine lv_aload_n hx hb dX10_mostSkins_77 rfl (lv_at hl 2 rfl) ?_
              refine t_get (C := RX10) (T := TX10) (N := 2) X hT m0 g0 rfl rfl 0 (by decide) qw_83 inlX10 rfl dX10_mostSkins_78 (fun v19734 hv19734 ov19734 => ?_)
              obtain ⟨b19735, rfl, mb19735, gb19735⟩ := okV_r ov19734
              have gb19735 : tag b19735 = 10 := tg_of gb19735
              refine lv_iconst (v := 0) hx hb dX10_mostSkins_81 (by decide) ?_
              refine lv_aload_n hx hb dX10_mostSkins_82 rfl (lv_at hl 2 rfl) ?_
              refine t_get (C := RX10) (T := TX10) (N := 2) X hT m0 g0 rfl rfl 1 (by decide) qw_84 inlX10 rfl dX10_mostSkins_83 (fun v19736 hv19736 ov19736 => ?_)
              obtain ⟨b19737, rfl, mb19737, gb19737⟩ := okV_r ov19736
              have gb19737 : tag b19737 = 5 := tg_of gb19737
              refine lv_iconst (v := 0) hx hb dX10_mostSkins_86 (by decide) ?_
              refine lv_iconst (v := 4) hx hb dX10_mostSkins_87 (by decide) ?_
              refine t_copy X hT hl mb19735 gb19735 mb19737 gb19737 rfl rfl (by decide) (by decide) (by decide) (by decide) (by decide) (fun _ _ => ⟨by decide, by decide⟩) qw_1239 qw_454 qw_455 qw_456 (Nat.le_of_ble_eq_true rfl) (Nat.le_of_ble_eq_true rfl) dX10_mostSkins_88 (fun F H locs hT h2v19738 h1v19738 => ?_)
              have qz19727 := (h2v19738 _ _).trans qz19727
              have hv19734 := (h2v19738 _ _).trans hv19734
              have hv19736 := (h2v19738 _ _).trans hv19736
              have hfr : (∀ b j : Nat, (tag b ≠ 19 ∨ j ≠ 0) → (tag b ≠ 19 ∨ j ≠ 1) → fld F b j = fld Fo b j) ∧ EF tag F Fo := ⟨fun b j n19_0 n19_1 => (h2v19738 b j).trans (hfr.1 b j n19_0 n19_1), fun b j hb => (h1v19738 b j (ns_ne hb gb19737 (by decide))).trans (hfr.2 b j hb)⟩
              exact K91 z19730 z19730 z19727 _ _ _ _ (by omega) (by omega) (by omega) hT hfr qz19727 (lv_sub hl [2, 3, 4, 5, 6, 0, 7, 1] rfl)
          · have w19739 := cv_nle (rfl : p4.toInt = p4.toInt) (rfl : z19726.toInt = z19726.toInt) c19728
            refine lv_aload_n hx hb dX10_mostSkins_45 rfl (lv_at hl 1 rfl) ?_
            refine lv_aload_n hx hb dX10_mostSkins_46 rfl (lv_at hl 3 rfl) ?_
            refine lv_aload_n hx hb dX10_mostSkins_47 rfl (lv_at hl 0 rfl) ?_
            refine t_get (C := RX10) (T := TX10) (N := 2) X hT m0 g0 rfl rfl 0 (by decide) qw_83 inlX10 rfl dX10_mostSkins_48 (fun v19740 hv19740 ov19740 => ?_)
            obtain ⟨b19741, rfl, mb19741, gb19741⟩ := okV_r ov19740
            have gb19741 : tag b19741 = 10 := tg_of gb19741
            refine t_cSv (n := 3) (As := [.ref p1, .ref p3, .ref b19741]) (rest := []) X hT (kt50_X10_pass l G tag L F hT.2.2.2 p1 p3 b19741 m1 g1 m3 g3 mb19741 gb19741) qw_1245 qw_1098 qw_32 qw_1099 ⟨by decide +kernel, by decide +kernel, by decide +kernel⟩ ⟨Nat.le_of_ble_eq_true rfl, Nat.le_of_ble_eq_true rfl⟩ hl rfl rfl (Nat.le_of_ble_eq_true rfl) dX10_mostSkins_51 ⟨Nat.le_of_ble_eq_true rfl, Nat.le_of_ble_eq_true rfl⟩ (fun F H locs hT hz19742 => ?_)
            have yz19742 := hz19742
            have qz19727 := (yz19742.1 _ 10 (Or.inr (by decide)) (Or.inr (by decide))).trans qz19727
            have hv19740 := (yz19742.1 _ 0 (Or.inl (by rw [g0]; decide)) (Or.inr (by decide))).trans hv19740
            have hfr : (∀ b j : Nat, (tag b ≠ 19 ∨ j ≠ 0) → (tag b ≠ 19 ∨ j ≠ 1) → fld F b j = fld Fo b j) ∧ EF tag F Fo := ⟨fun b j n19_0 n19_1 => (yz19742.1 b j n19_0 n19_1).trans (hfr.1 b j n19_0 n19_1), fun b j hb => (yz19742.2 b j hb).trans (hfr.2 b j hb)⟩
            obtain ⟨z19743, ez19743⟩ : ∃ y : Int32, y = z19726 + 1 := ⟨_, rfl⟩
            have hz19743 : z19743.toInt = z19726.toInt + 1 := ar_add ez19743 rfl (by decide : (1 : Int32).toInt = 1) (by omega) (by omega)
            refine lv_iinc (v := z19743) (lv' := [(7, .int z19743), (0, .ref p0), (1, .ref p1), (2, .ref p2), (3, .ref p3), (4, .int p4), (5, .int z19713), (6, .int z19714)]) hx hb dX10_mostSkins_54 hl (k := 7) rfl (by rw [ez19743]; rfl) (by decide) rfl (fun ls hl => ?_)
            refine lv_goto (tgt := 38) hx hb dX10_mostSkins_57 (by decide) ?_
            exact ih38 z19743 z19727 _ _ _ _ (by omega) (by omega) (by omega) (by omega) hT hfr qz19727 (lv_sub hl [1, 2, 3, 4, 5, 6, 7, 0] rfl)
      refine lv_iload hx hb dX10_mostSkins_17 (lv_at hl 6 rfl) ?_
      refine t_getsN X hT X.2.2.2.1.2.1.2.2.1 (List.mem_of_getElem? (i := 2) rfl) dX10_mostSkins_19 ?_
      refine lv_aload_n hx hb dX10_mostSkins_22 rfl (lv_at hl 1 rfl) ?_
      refine t_get (C := RX1) (T := TX1) (N := 20) X hT m1 g1 rfl rfl 10 (by decide) qw_1100 inlX1 rfl dX10_mostSkins_23 (fun v19744 hv19744 ov19744 => ?_)
      obtain rfl : v19744 = .int z19715 := hv19744.symm.trans qz19715
      refine t_tild X hT X.2.2.2.1.2.1.2.2.1 (by omega) dX10_mostSkins_26 (fun z19745 ez19745 => ?_)
      have rz19745 : 1 ≤ z19745.toInt ∧ z19745.toInt ≤ 720 := by rw [ez19745]; exact gRows_r _
      refine lv_icmp_ge (tgt := 108) hx hb dX10_mostSkins_27 (by decide) (fun c19746 => ?_) (fun c19746 => ?_)
      · have w19747 := cv_le (rfl : z19745.toInt = z19745.toInt) (rfl : z19714.toInt = z19714.toInt) c19746
        refine lv_iload hx hb dX10_mostSkins_108 (lv_at hl 5 rfl) ?_
        exact t_iret hQ X hT (⟨(by omega), hfr⟩) (Nat.le_of_ble_eq_true rfl) (Nat.le_of_ble_eq_true rfl) dX10_mostSkins_110
      · have w19748 := cv_nle (rfl : z19745.toInt = z19745.toInt) (rfl : z19714.toInt = z19714.toInt) c19746
        refine lv_aload_n hx hb dX10_mostSkins_30 rfl (lv_at hl 3 rfl) ?_
        refine lv_aload_n hx hb dX10_mostSkins_31 rfl (lv_at hl 2 rfl) ?_
        refine t_cVv (n := 1) (C := RX7) (T := TX7) (N := 7) (As := [.ref p2]) (rest := []) X hT (kt49_X7_copyFrom l G tag L F hT.2.2.2 p3 p2 m3 g3 m2 g2) m3 g3 rfl rfl qw_1244 qw_450 qw_451 qw_22 qw_452 ⟨rfl, by decide +kernel, by decide +kernel, by decide +kernel⟩ ⟨Nat.le_of_ble_eq_true rfl, Nat.le_of_ble_eq_true rfl⟩ hl rfl rfl (Nat.le_of_ble_eq_true rfl) dX10_mostSkins_32 ⟨Nat.le_of_ble_eq_true rfl, Nat.le_of_ble_eq_true rfl⟩ (fun F H locs hT hz19749 => ?_)
        have yz19749 := hz19749
        have qz19715 := (yz19749.1 _ 10 (Or.inr (by decide)) (Or.inr (by decide))).trans qz19715
        have hfr : (∀ b j : Nat, (tag b ≠ 19 ∨ j ≠ 0) → (tag b ≠ 19 ∨ j ≠ 1) → fld F b j = fld Fo b j) ∧ EF tag F Fo := ⟨fun b j n19_0 n19_1 => (yz19749.1 b j n19_0 n19_1).trans (hfr.1 b j n19_0 n19_1), fun b j hb => (yz19749.2 b j hb).trans (hfr.2 b j hb)⟩
        refine lv_iconst (v := 0) hx hb dX10_mostSkins_35 (by decide) ?_
        refine lv_istore (lv' := [(7, .int 0), (0, .ref p0), (1, .ref p1), (2, .ref p2), (3, .ref p3), (4, .int p4), (5, .int z19713), (6, .int z19714)]) hx hb dX10_mostSkins_36 hl (by decide) rfl (fun ls hl => ?_)
        have kk19750 : (0 : Int32).toInt = 0 := by decide
        exact K38 31 0 z19715 _ _ _ _ (by omega) (by decide) (by omega) (by omega) hT hfr qz19715 (lv_sub hl [1, 2, 3, 4, 5, 6, 7, 0] rfl)
  refine lv_iconst (v := (-1)) hx hb dX10_mostSkins_0 (by decide) ?_
  refine lv_istore (lv' := [(5, .int (-1)), (0, .ref p0), (1, .ref p1), (2, .ref p2), (3, .ref p3), (4, .int p4)]) hx hb dX10_mostSkins_1 hl (by decide) rfl (fun ls hl => ?_)
  refine lv_aload_n hx hb dX10_mostSkins_3 rfl (lv_at hl 1 rfl) ?_
  refine t_get (C := RX10) (T := TX10) (N := 2) X hT m0 g0 rfl rfl 0 (by decide) qw_83 inlX10 rfl dX10_mostSkins_4 (fun v19751 hv19751 ov19751 => ?_)
  obtain ⟨b19752, rfl, mb19752, gb19752⟩ := okV_r ov19751
  have gb19752 : tag b19752 = 10 := tg_of gb19752
  refine lv_aload_n hx hb dX10_mostSkins_7 rfl (lv_at hl 2 rfl) ?_
  refine t_get (C := RX1) (T := TX1) (N := 20) X hT m1 g1 rfl rfl 10 (by decide) qw_1100 inlX1 rfl dX10_mostSkins_8 (fun v19753 hv19753 ov19753 => ?_)
  obtain ⟨z19754, rfl, rz19754⟩ := okV_i ov19753
  refine t_cSv (n := 2) (As := [.ref b19752, .int z19754]) (rest := []) X hT (kt48_X5_begin l G tag L F hT.2.2.2 b19752 z19754 mb19752 gb19752 (by omega)) qw_1240 qw_1241 qw_1242 qw_1243 ⟨by decide +kernel, by decide +kernel, by decide +kernel⟩ ⟨Nat.le_of_ble_eq_true rfl, Nat.le_of_ble_eq_true rfl⟩ hl rfl rfl (Nat.le_of_ble_eq_true rfl) dX10_mostSkins_11 ⟨Nat.le_of_ble_eq_true rfl, Nat.le_of_ble_eq_true rfl⟩ (fun F H locs hT hz19755 => ?_)
  have yz19755 := hz19755
  have hv19751 := (yz19755.1 _ 0 ).trans hv19751
  have hv19753 := (yz19755.1 _ 10 ).trans hv19753
  have hfr : (∀ b j : Nat, (tag b ≠ 19 ∨ j ≠ 0) → (tag b ≠ 19 ∨ j ≠ 1) → fld F b j = fld Fo b j) ∧ EF tag F Fo := ⟨fun b j n19_0 n19_1 => (yz19755.1 b j ).trans (hfr.1 b j n19_0 n19_1), fun b j hb => (yz19755.2 b j hb).trans (hfr.2 b j hb)⟩
  refine lv_iconst (v := 0) hx hb dX10_mostSkins_14 (by decide) ?_
  refine lv_istore (lv' := [(6, .int 0), (5, .int (-1)), (0, .ref p0), (1, .ref p1), (2, .ref p2), (3, .ref p3), (4, .int p4)]) hx hb dX10_mostSkins_15 hl (by decide) rfl (fun ls hl => ?_)
  have kk19756 : ((-1) : Int32).toInt = (-1) := by decide
  have kk19757 : (0 : Int32).toInt = 0 := by decide
  exact K17 902 (-1) 0 z19754 _ _ _ _ (by omega) (by decide) (by decide) (by omega) hT hfr hv19753 (lv_sub hl [2, 3, 4, 5, 6, 1, 0] rfl)
set_option maxHeartbeats 4000000 in
set_option maxRecDepth 100000 in
theorem kt56_X11_answer (l : Launch) (G : KG) (tag : Nat → Nat) (L : List Nat) (Fo : Nat → va_E) (ho : okT G ttC tag L Fo) (p0 : Nat) (p1 : Int32) (m0 : p0 ∈ L) (g0 : tag p0 = 26) : TMi l yX11_answer cX11_answer 2 (some .int) { frames := 0, cells := 0, slots := 0, locals := 0 } G ttC tag L Fo [.ref p0, .int p1] (fun r F1 => ((-2147483648) ≤ r.toInt ∧ r.toInt ≤ 2147483647) ∧ ((∀ b j : Nat, (tag b ≠ 26 ∨ j ≠ 13) → fld F1 b j = fld Fo b j) ∧ EF tag F1 Fo)) := by
  refine t_bodyi (y := yX11_answer) (cd := cX11_answer) (mL := 2) (rt := (some .int)) (rm := { frames := 0, cells := 0, slots := 0, locals := 0 }) (av := [.ref p0, .int p1]) (by decide) (Nat.le_of_ble_eq_true rfl) ho ?_
  intro p e s m args below meth c ls A Q hQ X hT hl
  have hx := X.1.1
  have hb := X.1.2.1
  have hl : lv_has ls 2 [(0, .ref p0), (1, .int p1)] := hl
  have rp1 := rg_all p1
  obtain ⟨F, hFo⟩ : ∃ F : Nat → va_E, F = Fo := ⟨_, rfl⟩
  rw [← hFo] at hT
  have hfr : (∀ b j : Nat, (tag b ≠ 26 ∨ j ≠ 13) → fld F b j = fld Fo b j) ∧ EF tag F Fo := by
    rw [hFo]
    exact ⟨by intros; rfl, fun _ _ _ => rfl⟩
  refine lv_aload_n hx hb dX11_answer_0 rfl (lv_at hl 0 rfl) ?_
  refine lv_iconst (v := 0) hx hb dX11_answer_1 (by decide) ?_
  refine t_put (C := RX11) (T := TX11) (N := 16) (v := .int 0) X hT m0 g0 rfl tyX11 tyX11_ok nmX11 rfl 13 (by decide) qw_156 inlX11 rfl (by first | rfl | decide) (by first | rfl | decide) rfl (⟨_, rfl, (show (-2147483648) ≤ (0 : Int32).toInt from (by decide)), (show (0 : Int32).toInt ≤ 2147483647 from (by decide))⟩) dX11_answer_2 (fun F H locs hT v19769 h1v19769 h2v19769 => ?_)
  have hfr : (∀ b j : Nat, (tag b ≠ 26 ∨ j ≠ 13) → fld F b j = fld Fo b j) ∧ EF tag F Fo := ⟨fun b j n26_13 => (h1v19769 b j (fr_ne g0 n26_13)).trans (hfr.1 b j n26_13), fun b j hb => (h2v19769 b j).trans (hfr.2 b j hb)⟩
  refine lv_iload_n hx hb dX11_answer_5 rfl (lv_at hl 1 rfl) ?_
  exact t_iret hQ X hT (⟨rg_all _, hfr⟩) (Nat.le_of_ble_eq_true rfl) (Nat.le_of_ble_eq_true rfl) dX11_answer_6
set_option maxHeartbeats 4000000 in
set_option maxRecDepth 100000 in
theorem kt57_X2_goToMark (l : Launch) (G : KG) (tag : Nat → Nat) (L : List Nat) (Fo : Nat → va_E) (ho : okT G ttC tag L Fo) (p0 : Nat) (p1 : Nat) (p2 : Int32) (m0 : p0 ∈ L) (g0 : tag p0 = 23) (m1 : p1 ∈ L) (g1 : tag p1 = 19) : TMi l yX2_goToMark cX2_goToMark 3 (some .boolean) { frames := 2, cells := 0, slots := 0, locals := 45 } G ttC tag L Fo [.ref p0, .ref p1, .int p2] (fun r F1 => (0 ≤ r.toInt ∧ r.toInt ≤ 1) ∧ ((∀ b j : Nat, (tag b ≠ 19 ∨ j ≠ 0) → (tag b ≠ 19 ∨ j ≠ 1) → (tag b ≠ 23 ∨ j ≠ 3) → fld F1 b j = fld Fo b j) ∧ EF tag F1 Fo)) := by
  refine t_bodyi (y := yX2_goToMark) (cd := cX2_goToMark) (mL := 3) (rt := (some .boolean)) (rm := { frames := 2, cells := 0, slots := 0, locals := 45 }) (av := [.ref p0, .ref p1, .int p2]) (by decide) (Nat.le_of_ble_eq_true rfl) ho ?_
  intro p e s m args below meth c ls A Q hQ X hT hl
  have hx := X.1.1
  have hb := X.1.2.1
  have hl : lv_has ls 3 [(0, .ref p0), (1, .ref p1), (2, .int p2)] := hl
  have rp2 := rg_all p2
  obtain ⟨F, hFo⟩ : ∃ F : Nat → va_E, F = Fo := ⟨_, rfl⟩
  rw [← hFo] at hT
  have hfr : (∀ b j : Nat, (tag b ≠ 19 ∨ j ≠ 0) → (tag b ≠ 19 ∨ j ≠ 1) → (tag b ≠ 23 ∨ j ≠ 3) → fld F b j = fld Fo b j) ∧ EF tag F Fo := by
    rw [hFo]
    exact ⟨by intros; rfl, fun _ _ _ => rfl⟩
  refine lv_iload_n hx hb dX2_goToMark_0 rfl (lv_at hl 2 rfl) ?_
  refine lv_if_lt (tgt := 12) hx hb dX2_goToMark_1 (by decide) (fun c19917 => ?_) (fun c19917 => ?_)
  · have w19918 := cv_lt (rfl : p2.toInt = p2.toInt) (by decide : (0 : Int32).toInt = 0) c19917
    refine lv_iconst (v := 0) hx hb dX2_goToMark_12 (by decide) ?_
    exact t_zret hQ X hT (by decide) (⟨(by decide), hfr⟩) (Nat.le_of_ble_eq_true rfl) (Nat.le_of_ble_eq_true rfl) dX2_goToMark_13
  · have w19919 := cv_nlt (rfl : p2.toInt = p2.toInt) (by decide : (0 : Int32).toInt = 0) c19917
    refine lv_iload_n hx hb dX2_goToMark_4 rfl (lv_at hl 2 rfl) ?_
    refine lv_aload_n hx hb dX2_goToMark_5 rfl (lv_at hl 0 rfl) ?_
    refine t_get (C := RX2) (T := TX2) (N := 5) X hT m0 g0 rfl rfl 4 (by decide) qw_462 inlX2 rfl dX2_goToMark_6 (fun v19920 hv19920 ov19920 => ?_)
    obtain ⟨z19921, rfl, rz19921⟩ := okV_i ov19920
    refine lv_icmp_lt (tgt := 14) hx hb dX2_goToMark_9 (by decide) (fun c19922 => ?_) (fun c19922 => ?_)
    · have w19923 := cv_lt (rfl : p2.toInt = p2.toInt) (rfl : z19921.toInt = z19921.toInt) c19922
      refine lv_aload_n hx hb dX2_goToMark_14 rfl (lv_at hl 1 rfl) ?_
      refine lv_aload_n hx hb dX2_goToMark_15 rfl (lv_at hl 0 rfl) ?_
      refine t_get (C := RX2) (T := TX2) (N := 5) X hT m0 g0 rfl rfl 1 (by decide) qw_104 inlX2 rfl dX2_goToMark_16 (fun v19924 hv19924 ov19924 => ?_)
      obtain ⟨b19925, rfl, mb19925, gb19925⟩ := okV_r ov19924
      have gb19925 : tag b19925 = 17 := tg_of gb19925
      refine lv_iload_n hx hb dX2_goToMark_19 rfl (lv_at hl 2 rfl) ?_
      refine t_ald X hT mb19925 gb19925 rfl (by omega) dX2_goToMark_20 (fun b19926 mb19926 gb19926 => ?_)
      have gb19926 : tag b19926 = 19 := tg_of gb19926
      refine t_cVv (n := 1) (C := RX7) (T := TX7) (N := 7) (As := [.ref b19926]) (rest := []) X hT (kt49_X7_copyFrom l G tag L F hT.2.2.2 p1 b19926 m1 g1 mb19926 gb19926) m1 g1 rfl rfl qw_1432 qw_450 qw_451 qw_22 qw_452 ⟨rfl, by decide +kernel, by decide +kernel, by decide +kernel⟩ ⟨Nat.le_of_ble_eq_true rfl, Nat.le_of_ble_eq_true rfl⟩ hl rfl rfl (Nat.le_of_ble_eq_true rfl) dX2_goToMark_21 ⟨Nat.le_of_ble_eq_true rfl, Nat.le_of_ble_eq_true rfl⟩ (fun F H locs hT hz19927 => ?_)
      have yz19927 := hz19927
      have hv19920 := (yz19927.1 _ 4 (Or.inr (by decide)) (Or.inr (by decide))).trans hv19920
      have hv19924 := (yz19927.1 _ 1 (Or.inr (by decide)) (Or.inl (by rw [g0]; decide))).trans hv19924
      have hfr : (∀ b j : Nat, (tag b ≠ 19 ∨ j ≠ 0) → (tag b ≠ 19 ∨ j ≠ 1) → (tag b ≠ 23 ∨ j ≠ 3) → fld F b j = fld Fo b j) ∧ EF tag F Fo := ⟨fun b j n19_0 n19_1 n23_3 => (yz19927.1 b j n19_0 n19_1).trans (hfr.1 b j n19_0 n19_1 n23_3), fun b j hb => (yz19927.2 b j hb).trans (hfr.2 b j hb)⟩
      refine lv_aload_n hx hb dX2_goToMark_24 rfl (lv_at hl 0 rfl) ?_
      refine lv_iconst (v := 0) hx hb dX2_goToMark_25 (by decide) ?_
      refine t_put (C := RX2) (T := TX2) (N := 5) (v := .int 0) X hT m0 g0 rfl tyX2 tyX2_ok nmX2 rfl 3 (by decide) qw_461 inlX2 rfl (by first | rfl | decide) (by first | rfl | decide) rfl (⟨_, rfl, (show 0 ≤ (0 : Int32).toInt from (by decide)), (show (0 : Int32).toInt ≤ 10 from (by decide))⟩) dX2_goToMark_26 (fun F H locs hT v19928 h1v19928 h2v19928 => ?_)
      have hv19920 := (h1v19928 _ _ (Or.inr (by decide))).trans hv19920
      have hv19924 := (h1v19928 _ _ (Or.inr (by decide))).trans hv19924
      have hfr : (∀ b j : Nat, (tag b ≠ 19 ∨ j ≠ 0) → (tag b ≠ 19 ∨ j ≠ 1) → (tag b ≠ 23 ∨ j ≠ 3) → fld F b j = fld Fo b j) ∧ EF tag F Fo := ⟨fun b j n19_0 n19_1 n23_3 => (h1v19928 b j (fr_ne g0 n23_3)).trans (hfr.1 b j n19_0 n19_1 n23_3), fun b j hb => (h2v19928 b j).trans (hfr.2 b j hb)⟩
      refine lv_iconst (v := 1) hx hb dX2_goToMark_29 (by decide) ?_
      exact t_zret hQ X hT (by decide) (⟨(by decide), hfr⟩) (Nat.le_of_ble_eq_true rfl) (Nat.le_of_ble_eq_true rfl) dX2_goToMark_30
    · have w19929 := cv_nlt (rfl : p2.toInt = p2.toInt) (rfl : z19921.toInt = z19921.toInt) c19922
      refine lv_iconst (v := 0) hx hb dX2_goToMark_12 (by decide) ?_
      exact t_zret hQ X hT (by decide) (⟨(by decide), hfr⟩) (Nat.le_of_ble_eq_true rfl) (Nat.le_of_ble_eq_true rfl) dX2_goToMark_13
set_option maxHeartbeats 4000000 in
set_option maxRecDepth 100000 in
theorem kt58_X11_no (l : Launch) (G : KG) (tag : Nat → Nat) (L : List Nat) (Fo : Nat → va_E) (ho : okT G ttC tag L Fo) (p0 : Nat) (p1 : Int32) (m0 : p0 ∈ L) (g0 : tag p0 = 26) : TMi l yX11_no cX11_no 2 (some .boolean) { frames := 0, cells := 0, slots := 0, locals := 0 } G ttC tag L Fo [.ref p0, .int p1] (fun r F1 => (0 ≤ r.toInt ∧ r.toInt ≤ 0) ∧ ((∀ b j : Nat, (tag b ≠ 26 ∨ j ≠ 13) → fld F1 b j = fld Fo b j) ∧ EF tag F1 Fo)) := by
  refine t_bodyi (y := yX11_no) (cd := cX11_no) (mL := 2) (rt := (some .boolean)) (rm := { frames := 0, cells := 0, slots := 0, locals := 0 }) (av := [.ref p0, .int p1]) (by decide) (Nat.le_of_ble_eq_true rfl) ho ?_
  intro p e s m args below meth c ls A Q hQ X hT hl
  have hx := X.1.1
  have hb := X.1.2.1
  have hl : lv_has ls 2 [(0, .ref p0), (1, .int p1)] := hl
  have rp1 := rg_all p1
  obtain ⟨F, hFo⟩ : ∃ F : Nat → va_E, F = Fo := ⟨_, rfl⟩
  rw [← hFo] at hT
  have hfr : (∀ b j : Nat, (tag b ≠ 26 ∨ j ≠ 13) → fld F b j = fld Fo b j) ∧ EF tag F Fo := by
    rw [hFo]
    exact ⟨by intros; rfl, fun _ _ _ => rfl⟩
  refine lv_aload_n hx hb dX11_no_0 rfl (lv_at hl 0 rfl) ?_
  refine lv_iload_n hx hb dX11_no_1 rfl (lv_at hl 1 rfl) ?_
  refine t_put (C := RX11) (T := TX11) (N := 16) (v := .int p1) X hT m0 g0 rfl tyX11 tyX11_ok nmX11 rfl 13 (by decide) qw_156 inlX11 rfl (by first | rfl | decide) (by first | rfl | decide) rfl (⟨_, rfl, (show (-2147483648) ≤ (p1 : Int32).toInt from (by omega)), (show (p1 : Int32).toInt ≤ 2147483647 from (by omega))⟩) dX11_no_2 (fun F H locs hT v19944 h1v19944 h2v19944 => ?_)
  have hfr : (∀ b j : Nat, (tag b ≠ 26 ∨ j ≠ 13) → fld F b j = fld Fo b j) ∧ EF tag F Fo := ⟨fun b j n26_13 => (h1v19944 b j (fr_ne g0 n26_13)).trans (hfr.1 b j n26_13), fun b j hb => (h2v19944 b j).trans (hfr.2 b j hb)⟩
  refine lv_iconst (v := 0) hx hb dX11_no_5 (by decide) ?_
  exact t_zret hQ X hT (by decide) (⟨(by decide), hfr⟩) (Nat.le_of_ble_eq_true rfl) (Nat.le_of_ble_eq_true rfl) dX11_no_6
set_option maxHeartbeats 4000000 in
set_option maxRecDepth 100000 in
theorem kt59_X11_yes (l : Launch) (G : KG) (tag : Nat → Nat) (L : List Nat) (Fo : Nat → va_E) (ho : okT G ttC tag L Fo) (p0 : Nat) (m0 : p0 ∈ L) (g0 : tag p0 = 26) : TMi l yX11_yes cX11_yes 1 (some .boolean) { frames := 0, cells := 0, slots := 0, locals := 0 } G ttC tag L Fo [.ref p0] (fun r F1 => (1 ≤ r.toInt ∧ r.toInt ≤ 1) ∧ ((∀ b j : Nat, (tag b ≠ 26 ∨ j ≠ 13) → fld F1 b j = fld Fo b j) ∧ EF tag F1 Fo)) := by
  refine t_bodyi (y := yX11_yes) (cd := cX11_yes) (mL := 1) (rt := (some .boolean)) (rm := { frames := 0, cells := 0, slots := 0, locals := 0 }) (av := [.ref p0]) (by decide) (Nat.le_of_ble_eq_true rfl) ho ?_
  intro p e s m args below meth c ls A Q hQ X hT hl
  have hx := X.1.1
  have hb := X.1.2.1
  have hl : lv_has ls 1 [(0, .ref p0)] := hl
  obtain ⟨F, hFo⟩ : ∃ F : Nat → va_E, F = Fo := ⟨_, rfl⟩
  rw [← hFo] at hT
  have hfr : (∀ b j : Nat, (tag b ≠ 26 ∨ j ≠ 13) → fld F b j = fld Fo b j) ∧ EF tag F Fo := by
    rw [hFo]
    exact ⟨by intros; rfl, fun _ _ _ => rfl⟩
  refine lv_aload_n hx hb dX11_yes_0 rfl (lv_at hl 0 rfl) ?_
  refine lv_iconst (v := 0) hx hb dX11_yes_1 (by decide) ?_
  refine t_put (C := RX11) (T := TX11) (N := 16) (v := .int 0) X hT m0 g0 rfl tyX11 tyX11_ok nmX11 rfl 13 (by decide) qw_156 inlX11 rfl (by first | rfl | decide) (by first | rfl | decide) rfl (⟨_, rfl, (show (-2147483648) ≤ (0 : Int32).toInt from (by decide)), (show (0 : Int32).toInt ≤ 2147483647 from (by decide))⟩) dX11_yes_2 (fun F H locs hT v19958 h1v19958 h2v19958 => ?_)
  have hfr : (∀ b j : Nat, (tag b ≠ 26 ∨ j ≠ 13) → fld F b j = fld Fo b j) ∧ EF tag F Fo := ⟨fun b j n26_13 => (h1v19958 b j (fr_ne g0 n26_13)).trans (hfr.1 b j n26_13), fun b j hb => (h2v19958 b j).trans (hfr.2 b j hb)⟩
  refine lv_iconst (v := 1) hx hb dX11_yes_5 (by decide) ?_
  exact t_zret hQ X hT (by decide) (⟨(by decide), hfr⟩) (Nat.le_of_ble_eq_true rfl) (Nat.le_of_ble_eq_true rfl) dX11_yes_6
set_option maxHeartbeats 4000000 in
set_option maxRecDepth 100000 in
theorem kt60_X11_back (l : Launch) (G : KG) (tag : Nat → Nat) (L : List Nat) (Fo : Nat → va_E) (ho : okT G ttC tag L Fo) (p0 : Nat) (p1 : Int32) (m0 : p0 ∈ L) (g0 : tag p0 = 26) : TMi l yX11_back cX11_back 2 (some .boolean) { frames := 3, cells := 0, slots := 0, locals := 67 } G ttC tag L Fo [.ref p0, .int p1] (fun r F1 => (0 ≤ r.toInt ∧ r.toInt ≤ 1) ∧ ((∀ b j : Nat, (tag b ≠ 19 ∨ j ≠ 0) → (tag b ≠ 19 ∨ j ≠ 1) → (tag b ≠ 23 ∨ j ≠ 3) → (tag b ≠ 26 ∨ j ≠ 13) → fld F1 b j = fld Fo b j) ∧ EF tag F1 Fo)) := by
  refine t_bodyi (y := yX11_back) (cd := cX11_back) (mL := 2) (rt := (some .boolean)) (rm := { frames := 3, cells := 0, slots := 0, locals := 67 }) (av := [.ref p0, .int p1]) (by decide) (Nat.le_of_ble_eq_true rfl) ho ?_
  intro p e s m args below meth c ls A Q hQ X hT hl
  have hx := X.1.1
  have hb := X.1.2.1
  have hl : lv_has ls 2 [(0, .ref p0), (1, .int p1)] := hl
  have rp1 := rg_all p1
  obtain ⟨F, hFo⟩ : ∃ F : Nat → va_E, F = Fo := ⟨_, rfl⟩
  rw [← hFo] at hT
  have hfr : (∀ b j : Nat, (tag b ≠ 19 ∨ j ≠ 0) → (tag b ≠ 19 ∨ j ≠ 1) → (tag b ≠ 23 ∨ j ≠ 3) → (tag b ≠ 26 ∨ j ≠ 13) → fld F b j = fld Fo b j) ∧ EF tag F Fo := by
    rw [hFo]
    exact ⟨by intros; rfl, fun _ _ _ => rfl⟩
  refine lv_aload_n hx hb dX11_back_0 rfl (lv_at hl 0 rfl) ?_
  refine t_get (C := RX11) (T := TX11) (N := 16) X hT m0 g0 rfl rfl 12 (by decide) qw_45 inlX11 rfl dX11_back_1 (fun v20060 hv20060 ov20060 => ?_)
  obtain ⟨b20061, rfl, mb20061, gb20061⟩ := okV_r ov20060
  have gb20061 : tag b20061 = 23 := tg_of gb20061
  refine lv_aload_n hx hb dX11_back_4 rfl (lv_at hl 0 rfl) ?_
  refine t_get (C := RX11) (T := TX11) (N := 16) X hT m0 g0 rfl rfl 5 (by decide) qw_23 inlX11 rfl dX11_back_5 (fun v20062 hv20062 ov20062 => ?_)
  obtain ⟨b20063, rfl, mb20063, gb20063⟩ := okV_r ov20062
  have gb20063 : tag b20063 = 19 := tg_of gb20063
  refine lv_iload_n hx hb dX11_back_8 rfl (lv_at hl 1 rfl) ?_
  refine t_cVi (n := 2) (C := RX2) (T := TX2) (N := 5) (As := [.ref b20063, .int p1]) (rest := []) X hT (kt57_X2_goToMark l G tag L F hT.2.2.2 b20061 b20063 p1 mb20061 gb20061 mb20063 gb20063) mb20061 gb20061 rfl rfl qw_1545 qw_1546 qw_1547 qw_44 qw_1548 ⟨rfl, by decide +kernel, by decide +kernel, by decide +kernel⟩ ⟨Nat.le_of_ble_eq_true rfl, Nat.le_of_ble_eq_true rfl⟩ hl rfl rfl (Nat.le_of_ble_eq_true rfl) dX11_back_9 ⟨Nat.le_of_ble_eq_true rfl, Nat.le_of_ble_eq_true rfl⟩ (fun z20064 F H locs hT hz20064 => ?_)
  obtain ⟨hz20064, yz20064⟩ := hz20064
  have hv20060 := (yz20064.1 _ 12 (Or.inr (by decide)) (Or.inr (by decide)) (Or.inr (by decide))).trans hv20060
  have hv20062 := (yz20064.1 _ 5 (Or.inr (by decide)) (Or.inr (by decide)) (Or.inr (by decide))).trans hv20062
  have hfr : (∀ b j : Nat, (tag b ≠ 19 ∨ j ≠ 0) → (tag b ≠ 19 ∨ j ≠ 1) → (tag b ≠ 23 ∨ j ≠ 3) → (tag b ≠ 26 ∨ j ≠ 13) → fld F b j = fld Fo b j) ∧ EF tag F Fo := ⟨fun b j n19_0 n19_1 n23_3 n26_13 => (yz20064.1 b j n19_0 n19_1 n23_3).trans (hfr.1 b j n19_0 n19_1 n23_3 n26_13), fun b j hb => (yz20064.2 b j hb).trans (hfr.2 b j hb)⟩
  refine lv_if_eq (tgt := 22) hx hb dX11_back_12 (by decide) (fun c20065 => ?_) (fun c20065 => ?_)
  · have w20066 := cv_eq (rfl : z20064.toInt = z20064.toInt) (by decide : (0 : Int32).toInt = 0) c20065
    refine lv_aload_n hx hb dX11_back_22 rfl (lv_at hl 0 rfl) ?_
    refine lv_iconst (v := 1) hx hb dX11_back_23 (by decide) ?_
    refine t_cVi (n := 1) (C := RX11) (T := TX11) (N := 16) (As := [.int 1]) (rest := []) X hT (kt58_X11_no l G tag L F hT.2.2.2 p0 1 m0 g0) m0 g0 rfl rfl qw_1454 qw_1455 qw_1456 qw_2 qw_1457 ⟨rfl, by decide +kernel, by decide +kernel, by decide +kernel⟩ ⟨Nat.le_of_ble_eq_true rfl, Nat.le_of_ble_eq_true rfl⟩ hl rfl rfl (Nat.le_of_ble_eq_true rfl) dX11_back_24 ⟨Nat.le_of_ble_eq_true rfl, Nat.le_of_ble_eq_true rfl⟩ (fun z20067 F H locs hT hz20067 => ?_)
    obtain ⟨hz20067, yz20067⟩ := hz20067
    have hv20060 := (yz20067.1 _ 12 (Or.inr (by decide))).trans hv20060
    have hv20062 := (yz20067.1 _ 5 (Or.inr (by decide))).trans hv20062
    have hfr : (∀ b j : Nat, (tag b ≠ 19 ∨ j ≠ 0) → (tag b ≠ 19 ∨ j ≠ 1) → (tag b ≠ 23 ∨ j ≠ 3) → (tag b ≠ 26 ∨ j ≠ 13) → fld F b j = fld Fo b j) ∧ EF tag F Fo := ⟨fun b j n19_0 n19_1 n23_3 n26_13 => (yz20067.1 b j n26_13).trans (hfr.1 b j n19_0 n19_1 n23_3 n26_13), fun b j hb => (yz20067.2 b j hb).trans (hfr.2 b j hb)⟩
    exact t_zret hQ X hT (nar_z (by omega)) (⟨(by omega), hfr⟩) (Nat.le_of_ble_eq_true rfl) (Nat.le_of_ble_eq_true rfl) dX11_back_27
  · have w20068 := cv_ne (rfl : z20064.toInt = z20064.toInt) (by decide : (0 : Int32).toInt = 0) c20065
    refine lv_aload_n hx hb dX11_back_15 rfl (lv_at hl 0 rfl) ?_
    refine t_cVi (n := 0) (C := RX11) (T := TX11) (N := 16) (As := []) (rest := []) X hT (kt59_X11_yes l G tag L F hT.2.2.2 p0 m0 g0) m0 g0 rfl rfl qw_1460 qw_1461 qw_1462 qw_2 qw_1463 ⟨rfl, by decide +kernel, by decide +kernel, by decide +kernel⟩ ⟨Nat.le_of_ble_eq_true rfl, Nat.le_of_ble_eq_true rfl⟩ hl rfl rfl (Nat.le_of_ble_eq_true rfl) dX11_back_16 ⟨Nat.le_of_ble_eq_true rfl, Nat.le_of_ble_eq_true rfl⟩ (fun z20069 F H locs hT hz20069 => ?_)
    obtain ⟨hz20069, yz20069⟩ := hz20069
    have hv20060 := (yz20069.1 _ 12 (Or.inr (by decide))).trans hv20060
    have hv20062 := (yz20069.1 _ 5 (Or.inr (by decide))).trans hv20062
    have hfr : (∀ b j : Nat, (tag b ≠ 19 ∨ j ≠ 0) → (tag b ≠ 19 ∨ j ≠ 1) → (tag b ≠ 23 ∨ j ≠ 3) → (tag b ≠ 26 ∨ j ≠ 13) → fld F b j = fld Fo b j) ∧ EF tag F Fo := ⟨fun b j n19_0 n19_1 n23_3 n26_13 => (yz20069.1 b j n26_13).trans (hfr.1 b j n19_0 n19_1 n23_3 n26_13), fun b j hb => (yz20069.2 b j hb).trans (hfr.2 b j hb)⟩
    refine lv_goto (tgt := 27) hx hb dX11_back_19 (by decide) ?_
    exact t_zret hQ X hT (nar_z (by omega)) (⟨(by omega), hfr⟩) (Nat.le_of_ble_eq_true rfl) (Nat.le_of_ble_eq_true rfl) dX11_back_27
set_option maxHeartbeats 4000000 in
set_option maxRecDepth 100000 in
theorem kt61_X11_isHouse (l : Launch) (G : KG) (tag : Nat → Nat) (L : List Nat) (F : Nat → va_E) (ho : okT G ttC tag L F) (p0 : Nat) (p1 : Int32) (m0 : p0 ∈ L) (g0 : tag p0 = 26) : TMi l yX11_isHouse cX11_isHouse 2 (some .boolean) { frames := 0, cells := 0, slots := 0, locals := 0 } G ttC tag L F [.ref p0, .int p1] (fun r F1 => F1 = F ∧ ((0 ≤ r.toInt ∧ r.toInt ≤ 1) ∧ (r.toInt ≠ 0 → (0 ≤ p1.toInt ∧ p1.toInt ≤ 3)))) := by
  refine t_bodyi (y := yX11_isHouse) (cd := cX11_isHouse) (mL := 2) (rt := (some .boolean)) (rm := { frames := 0, cells := 0, slots := 0, locals := 0 }) (av := [.ref p0, .int p1]) (by decide) (Nat.le_of_ble_eq_true rfl) ho ?_
  intro p e s m args below meth c ls A Q hQ X hT hl
  have hx := X.1.1
  have hb := X.1.2.1
  have hl : lv_has ls 2 [(0, .ref p0), (1, .int p1)] := hl
  have rp1 := rg_all p1
  refine lv_aload_n hx hb dX11_isHouse_0 rfl (lv_at hl 0 rfl) ?_
  refine t_get (C := RX11) (T := TX11) (N := 16) X hT m0 g0 rfl rfl 2 (by decide) qw_150 inlX11 rfl dX11_isHouse_1 (fun v20235 hv20235 ov20235 => ?_)
  obtain ⟨z20236, rfl, rz20236⟩ := okV_i ov20235
  refine lv_if_eq (tgt := 26) hx hb dX11_isHouse_4 (by decide) (fun c20237 => ?_) (fun c20237 => ?_)
  · have w20238 := cv_eq (rfl : z20236.toInt = z20236.toInt) (by decide : (0 : Int32).toInt = 0) c20237
    refine lv_iconst (v := 0) hx hb dX11_isHouse_26 (by decide) ?_
    exact t_zret hQ X hT (by decide) (⟨rfl, ⟨(by decide), fun h => absurd (by decide) h⟩⟩) (Nat.le_of_ble_eq_true rfl) (Nat.le_of_ble_eq_true rfl) dX11_isHouse_27
  · have w20239 := cv_ne (rfl : z20236.toInt = z20236.toInt) (by decide : (0 : Int32).toInt = 0) c20237
    refine lv_iload_n hx hb dX11_isHouse_7 rfl (lv_at hl 1 rfl) ?_
    refine lv_if_lt (tgt := 26) hx hb dX11_isHouse_8 (by decide) (fun c20240 => ?_) (fun c20240 => ?_)
    · have w20241 := cv_lt (rfl : p1.toInt = p1.toInt) (by decide : (0 : Int32).toInt = 0) c20240
      refine lv_iconst (v := 0) hx hb dX11_isHouse_26 (by decide) ?_
      exact t_zret hQ X hT (by decide) (⟨rfl, ⟨(by decide), fun h => absurd (by decide) h⟩⟩) (Nat.le_of_ble_eq_true rfl) (Nat.le_of_ble_eq_true rfl) dX11_isHouse_27
    · have w20242 := cv_nlt (rfl : p1.toInt = p1.toInt) (by decide : (0 : Int32).toInt = 0) c20240
      refine lv_iload_n hx hb dX11_isHouse_11 rfl (lv_at hl 1 rfl) ?_
      refine lv_aload_n hx hb dX11_isHouse_12 rfl (lv_at hl 0 rfl) ?_
      refine t_get (C := RX11) (T := TX11) (N := 16) X hT m0 g0 rfl rfl 3 (by decide) qw_18 inlX11 rfl dX11_isHouse_13 (fun v20243 hv20243 ov20243 => ?_)
      obtain ⟨b20244, rfl, mb20244, gb20244⟩ := okV_r ov20243
      have gb20244 : tag b20244 = 18 := tg_of gb20244
      refine t_get (C := RX1) (T := TX1) (N := 20) X hT mb20244 gb20244 rfl rfl 10 (by decide) qw_151 inlX1 rfl dX11_isHouse_16 (fun v20245 hv20245 ov20245 => ?_)
      obtain ⟨z20246, rfl, rz20246⟩ := okV_i ov20245
      refine lv_icmp_ge (tgt := 26) hx hb dX11_isHouse_19 (by decide) (fun c20247 => ?_) (fun c20247 => ?_)
      · have w20248 := cv_le (rfl : z20246.toInt = z20246.toInt) (rfl : p1.toInt = p1.toInt) c20247
        refine lv_iconst (v := 0) hx hb dX11_isHouse_26 (by decide) ?_
        exact t_zret hQ X hT (by decide) (⟨rfl, ⟨(by decide), fun h => absurd (by decide) h⟩⟩) (Nat.le_of_ble_eq_true rfl) (Nat.le_of_ble_eq_true rfl) dX11_isHouse_27
      · have w20249 := cv_nle (rfl : z20246.toInt = z20246.toInt) (rfl : p1.toInt = p1.toInt) c20247
        refine lv_iconst (v := 1) hx hb dX11_isHouse_22 (by decide) ?_
        refine lv_goto (tgt := 27) hx hb dX11_isHouse_23 (by decide) ?_
        exact t_zret hQ X hT (by decide) (⟨rfl, ⟨(by decide), fun _ => by omega⟩⟩) (Nat.le_of_ble_eq_true rfl) (Nat.le_of_ble_eq_true rfl) dX11_isHouse_27
