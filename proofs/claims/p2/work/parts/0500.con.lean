set_option maxHeartbeats 4000000 in
set_option maxRecDepth 100000 in
theorem kt0_X4_eastOf (l : Launch) (G : KG) (tag : Nat → Nat) (L : List Nat) (F : Nat → va_E) (ho : okT G ttC tag L F) (p0 : Int32) (p1 : Int32)  : TMi l yX4_eastOf cX4_eastOf 3 (some .int) { frames := 0, cells := 0, slots := 0, locals := 0 } G ttC tag L F [.int p0, .int p1] (fun r F1 => F1 = F ∧ ((-2147483648) ≤ r.toInt ∧ r.toInt ≤ 2147483647)) := by
  refine t_bodyi (y := yX4_eastOf) (cd := cX4_eastOf) (mL := 3) (rt := (some .int)) (rm := { frames := 0, cells := 0, slots := 0, locals := 0 }) (av := [.int p0, .int p1]) (by decide) (Nat.le_of_ble_eq_true rfl) ho ?_
  intro p e s m args below meth c ls A Q hQ X hT hl
  have hx := X.1.1
  have hb := X.1.2.1
  have hl : lv_has ls 3 [(0, .int p0), (1, .int p1)] := hl
  refine lv_iload_n hx hb dX4_eastOf_0 rfl (lv_at hl 0 rfl) ?_
  refine lv_iconst (v := 1) hx hb dX4_eastOf_1 (by decide) ?_
  refine lv_icmp_ge (tgt := 7) hx hb dX4_eastOf_2 (by decide) (fun c77 => ?_) (fun c77 => ?_)
  · have w78 := cv_le (by decide : (1 : Int32).toInt = 1) (rfl : p0.toInt = p0.toInt) c77
    refine lv_iload_n hx hb dX4_eastOf_7 rfl (lv_at hl 1 rfl) ?_
    refine lv_iconst (v := 2) hx hb dX4_eastOf_8 (by decide) ?_
    refine lv_iload_n hx hb dX4_eastOf_9 rfl (lv_at hl 0 rfl) ?_
    refine lv_imul hx hb dX4_eastOf_10 ?_
    refine lv_topi (fun z79 ez79 => ?_)
    have rz79 := rg_all z79
    refine lv_irem hx hb dX4_eastOf_11 (mul2_ne ez79 (by omega)) ?_
    refine lv_topi (fun z80 ez80 => ?_)
    have rz80 := rg_all z80
    refine lv_istore_n (lv' := [(2, .int z80), (0, .int p0), (1, .int p1)]) hx hb dX4_eastOf_12 rfl hl (by decide) rfl (fun ls hl => ?_)
    refine lv_iload_n hx hb dX4_eastOf_13 rfl (lv_at hl 2 rfl) ?_
    refine lv_iconst (v := 2) hx hb dX4_eastOf_14 (by decide) ?_
    refine lv_iload_n hx hb dX4_eastOf_15 rfl (lv_at hl 1 rfl) ?_
    refine lv_imul hx hb dX4_eastOf_16 ?_
    refine lv_topi (fun z81 ez81 => ?_)
    have rz81 := rg_all z81
    refine lv_idiv hx hb dX4_eastOf_17 (mul2_ne ez81 (by omega)) ?_
    refine lv_topi (fun z82 ez82 => ?_)
    have rz82 := rg_all z82
    by_cases c83 : z82 = 0
    · have w84 := cv_eq (rfl : z82.toInt = z82.toInt) (by decide : (0 : Int32).toInt = 0) c83
      refine lv_tableIn (off := 26) (tgt := 44) hx hb dX4_eastOf_18 (by rw [c83]; decide) (by rw [c83]; decide) (by rw [c83]; decide) (by decide) ?_
      refine lv_iload_n hx hb dX4_eastOf_44 rfl (lv_at hl 0 rfl) ?_
      refine lv_iload_n hx hb dX4_eastOf_45 rfl (lv_at hl 1 rfl) ?_
      refine lv_isub hx hb dX4_eastOf_46 ?_
      refine lv_topi (fun z85 ez85 => ?_)
      have rz85 := rg_all z85
      exact t_iret hQ X hT (⟨rfl, rg_all _⟩) (Nat.le_of_ble_eq_true rfl) (Nat.le_of_ble_eq_true rfl) dX4_eastOf_47
    have w86 := cv_ne (rfl : z82.toInt = z82.toInt) (by decide : (0 : Int32).toInt = 0) c83
    by_cases c87 : z82 = 1
    · have w88 := cv_eq (rfl : z82.toInt = z82.toInt) (by decide : (1 : Int32).toInt = 1) c87
      refine lv_tableIn (off := 30) (tgt := 48) hx hb dX4_eastOf_18 (by rw [c87]; decide) (by rw [c87]; decide) (by rw [c87]; decide) (by decide) ?_
      refine lv_iload_n hx hb dX4_eastOf_48 rfl (lv_at hl 1 rfl) ?_
      exact t_iret hQ X hT (⟨rfl, rg_all _⟩) (Nat.le_of_ble_eq_true rfl) (Nat.le_of_ble_eq_true rfl) dX4_eastOf_49
    have w89 := cv_ne (rfl : z82.toInt = z82.toInt) (by decide : (1 : Int32).toInt = 1) c87
    by_cases c90 : z82 = 2
    · have w91 := cv_eq (rfl : z82.toInt = z82.toInt) (by decide : (2 : Int32).toInt = 2) c90
      refine lv_tableIn (off := 32) (tgt := 50) hx hb dX4_eastOf_18 (by rw [c90]; decide) (by rw [c90]; decide) (by rw [c90]; decide) (by decide) ?_
      refine lv_iload_n hx hb dX4_eastOf_50 rfl (lv_at hl 1 rfl) ?_
      refine lv_iload_n hx hb dX4_eastOf_51 rfl (lv_at hl 0 rfl) ?_
      refine lv_isub hx hb dX4_eastOf_52 ?_
      refine lv_topi (fun z92 ez92 => ?_)
      have rz92 := rg_all z92
      exact t_iret hQ X hT (⟨rfl, rg_all _⟩) (Nat.le_of_ble_eq_true rfl) (Nat.le_of_ble_eq_true rfl) dX4_eastOf_53
    have w93 := cv_ne (rfl : z82.toInt = z82.toInt) (by decide : (2 : Int32).toInt = 2) c90
    refine lv_tableOut (tgt := 54) hx hb dX4_eastOf_18 (by omega) (by decide) ?_
    refine lv_iload_n hx hb dX4_eastOf_54 rfl (lv_at hl 1 rfl) ?_
    refine lv_ineg hx hb dX4_eastOf_55 ?_
    refine lv_topi (fun z94 ez94 => ?_)
    have hz94 : z94.toInt = - p0.toInt := ar_neg ez94 (rfl : p0.toInt = p0.toInt) (by omega)
    exact t_iret hQ X hT (⟨rfl, rg_all _⟩) (Nat.le_of_ble_eq_true rfl) (Nat.le_of_ble_eq_true rfl) dX4_eastOf_56
  · have w95 := cv_nle (by decide : (1 : Int32).toInt = 1) (rfl : p0.toInt = p0.toInt) c77
    refine lv_iconst (v := 0) hx hb dX4_eastOf_5 (by decide) ?_
    exact t_iret hQ X hT (⟨rfl, rg_all _⟩) (Nat.le_of_ble_eq_true rfl) (Nat.le_of_ble_eq_true rfl) dX4_eastOf_6
set_option maxHeartbeats 4000000 in
set_option maxRecDepth 100000 in
theorem kt1_X4_southOf (l : Launch) (G : KG) (tag : Nat → Nat) (L : List Nat) (F : Nat → va_E) (ho : okT G ttC tag L F) (p0 : Int32) (p1 : Int32)  : TMi l yX4_southOf cX4_southOf 3 (some .int) { frames := 0, cells := 0, slots := 0, locals := 0 } G ttC tag L F [.int p0, .int p1] (fun r F1 => F1 = F ∧ ((-2147483648) ≤ r.toInt ∧ r.toInt ≤ 2147483647)) := by
  refine t_bodyi (y := yX4_southOf) (cd := cX4_southOf) (mL := 3) (rt := (some .int)) (rm := { frames := 0, cells := 0, slots := 0, locals := 0 }) (av := [.int p0, .int p1]) (by decide) (Nat.le_of_ble_eq_true rfl) ho ?_
  intro p e s m args below meth c ls A Q hQ X hT hl
  have hx := X.1.1
  have hb := X.1.2.1
  have hl : lv_has ls 3 [(0, .int p0), (1, .int p1)] := hl
  refine lv_iload_n hx hb dX4_southOf_0 rfl (lv_at hl 0 rfl) ?_
  refine lv_iconst (v := 1) hx hb dX4_southOf_1 (by decide) ?_
  refine lv_icmp_ge (tgt := 7) hx hb dX4_southOf_2 (by decide) (fun c172 => ?_) (fun c172 => ?_)
  · have w173 := cv_le (by decide : (1 : Int32).toInt = 1) (rfl : p0.toInt = p0.toInt) c172
    refine lv_iload_n hx hb dX4_southOf_7 rfl (lv_at hl 1 rfl) ?_
    refine lv_iconst (v := 2) hx hb dX4_southOf_8 (by decide) ?_
    refine lv_iload_n hx hb dX4_southOf_9 rfl (lv_at hl 0 rfl) ?_
    refine lv_imul hx hb dX4_southOf_10 ?_
    refine lv_topi (fun z174 ez174 => ?_)
    have rz174 := rg_all z174
    refine lv_irem hx hb dX4_southOf_11 (mul2_ne ez174 (by omega)) ?_
    refine lv_topi (fun z175 ez175 => ?_)
    have rz175 := rg_all z175
    refine lv_istore_n (lv' := [(2, .int z175), (0, .int p0), (1, .int p1)]) hx hb dX4_southOf_12 rfl hl (by decide) rfl (fun ls hl => ?_)
    refine lv_iload_n hx hb dX4_southOf_13 rfl (lv_at hl 2 rfl) ?_
    refine lv_iconst (v := 2) hx hb dX4_southOf_14 (by decide) ?_
    refine lv_iload_n hx hb dX4_southOf_15 rfl (lv_at hl 1 rfl) ?_
    refine lv_imul hx hb dX4_southOf_16 ?_
    refine lv_topi (fun z176 ez176 => ?_)
    have rz176 := rg_all z176
    refine lv_idiv hx hb dX4_southOf_17 (mul2_ne ez176 (by omega)) ?_
    refine lv_topi (fun z177 ez177 => ?_)
    have rz177 := rg_all z177
    by_cases c178 : z177 = 0
    · have w179 := cv_eq (rfl : z177.toInt = z177.toInt) (by decide : (0 : Int32).toInt = 0) c178
      refine lv_tableIn (off := 26) (tgt := 44) hx hb dX4_southOf_18 (by rw [c178]; decide) (by rw [c178]; decide) (by rw [c178]; decide) (by decide) ?_
      refine lv_iload_n hx hb dX4_southOf_44 rfl (lv_at hl 1 rfl) ?_
      refine lv_ineg hx hb dX4_southOf_45 ?_
      refine lv_topi (fun z180 ez180 => ?_)
      have hz180 : z180.toInt = - p0.toInt := ar_neg ez180 (rfl : p0.toInt = p0.toInt) (by omega)
      exact t_iret hQ X hT (⟨rfl, rg_all _⟩) (Nat.le_of_ble_eq_true rfl) (Nat.le_of_ble_eq_true rfl) dX4_southOf_46
    have w181 := cv_ne (rfl : z177.toInt = z177.toInt) (by decide : (0 : Int32).toInt = 0) c178
    by_cases c182 : z177 = 1
    · have w183 := cv_eq (rfl : z177.toInt = z177.toInt) (by decide : (1 : Int32).toInt = 1) c182
      refine lv_tableIn (off := 29) (tgt := 47) hx hb dX4_southOf_18 (by rw [c182]; decide) (by rw [c182]; decide) (by rw [c182]; decide) (by decide) ?_
      refine lv_iload_n hx hb dX4_southOf_47 rfl (lv_at hl 0 rfl) ?_
      refine lv_iload_n hx hb dX4_southOf_48 rfl (lv_at hl 1 rfl) ?_
      refine lv_isub hx hb dX4_southOf_49 ?_
      refine lv_topi (fun z184 ez184 => ?_)
      have rz184 := rg_all z184
      exact t_iret hQ X hT (⟨rfl, rg_all _⟩) (Nat.le_of_ble_eq_true rfl) (Nat.le_of_ble_eq_true rfl) dX4_southOf_50
    have w185 := cv_ne (rfl : z177.toInt = z177.toInt) (by decide : (1 : Int32).toInt = 1) c182
    by_cases c186 : z177 = 2
    · have w187 := cv_eq (rfl : z177.toInt = z177.toInt) (by decide : (2 : Int32).toInt = 2) c186
      refine lv_tableIn (off := 33) (tgt := 51) hx hb dX4_southOf_18 (by rw [c186]; decide) (by rw [c186]; decide) (by rw [c186]; decide) (by decide) ?_
      refine lv_iload_n hx hb dX4_southOf_51 rfl (lv_at hl 1 rfl) ?_
      exact t_iret hQ X hT (⟨rfl, rg_all _⟩) (Nat.le_of_ble_eq_true rfl) (Nat.le_of_ble_eq_true rfl) dX4_southOf_52
    have w188 := cv_ne (rfl : z177.toInt = z177.toInt) (by decide : (2 : Int32).toInt = 2) c186
    refine lv_tableOut (tgt := 53) hx hb dX4_southOf_18 (by omega) (by decide) ?_
    refine lv_iload_n hx hb dX4_southOf_53 rfl (lv_at hl 1 rfl) ?_
    refine lv_iload_n hx hb dX4_southOf_54 rfl (lv_at hl 0 rfl) ?_
    refine lv_isub hx hb dX4_southOf_55 ?_
    refine lv_topi (fun z189 ez189 => ?_)
    have rz189 := rg_all z189
    exact t_iret hQ X hT (⟨rfl, rg_all _⟩) (Nat.le_of_ble_eq_true rfl) (Nat.le_of_ble_eq_true rfl) dX4_southOf_56
  · have w190 := cv_nle (by decide : (1 : Int32).toInt = 1) (rfl : p0.toInt = p0.toInt) c172
    refine lv_iconst (v := 0) hx hb dX4_southOf_5 (by decide) ?_
    exact t_iret hQ X hT (⟨rfl, rg_all _⟩) (Nat.le_of_ble_eq_true rfl) (Nat.le_of_ble_eq_true rfl) dX4_southOf_6
set_option maxHeartbeats 4000000 in
set_option maxRecDepth 100000 in
theorem kt2_X4_doorPlace (l : Launch) (G : KG) (tag : Nat → Nat) (L : List Nat) (F : Nat → va_E) (ho : okT G ttC tag L F) (p0 : Int32) (p1 : Int32) (p2 : Int32)  : TMi l yX4_doorPlace cX4_doorPlace 3 (some .int) { frames := 0, cells := 0, slots := 0, locals := 0 } G ttC tag L F [.int p0, .int p1, .int p2] (fun r F1 => F1 = F ∧ ((-2147483648) ≤ r.toInt ∧ r.toInt ≤ 2147483647)) := by
  refine t_bodyi (y := yX4_doorPlace) (cd := cX4_doorPlace) (mL := 3) (rt := (some .int)) (rm := { frames := 0, cells := 0, slots := 0, locals := 0 }) (av := [.int p0, .int p1, .int p2]) (by decide) (Nat.le_of_ble_eq_true rfl) ho ?_
  intro p e s m args below meth c ls A Q hQ X hT hl
  have hx := X.1.1
  have hb := X.1.2.1
  have hl : lv_has ls 3 [(0, .int p0), (1, .int p1), (2, .int p2)] := hl
  refine lv_iload_n hx hb dX4_doorPlace_0 rfl (lv_at hl 1 rfl) ?_
  by_cases c267 : p1 = 0
  · have w268 := cv_eq (rfl : p1.toInt = p1.toInt) (by decide : (0 : Int32).toInt = 0) c267
    refine lv_tableIn (off := 27) (tgt := 28) hx hb dX4_doorPlace_1 (by rw [c267]; decide) (by rw [c267]; decide) (by rw [c267]; decide) (by decide) ?_
    refine lv_iconst (v := 1) hx hb dX4_doorPlace_28 (by decide) ?_
    refine lv_iload_n hx hb dX4_doorPlace_29 rfl (lv_at hl 2 rfl) ?_
    refine lv_iadd hx hb dX4_doorPlace_30 ?_
    refine lv_topi (fun z269 ez269 => ?_)
    have rz269 := rg_all z269
    exact t_iret hQ X hT (⟨rfl, rg_all _⟩) (Nat.le_of_ble_eq_true rfl) (Nat.le_of_ble_eq_true rfl) dX4_doorPlace_31
  have w270 := cv_ne (rfl : p1.toInt = p1.toInt) (by decide : (0 : Int32).toInt = 0) c267
  by_cases c271 : p1 = 1
  · have w272 := cv_eq (rfl : p1.toInt = p1.toInt) (by decide : (1 : Int32).toInt = 1) c271
    refine lv_tableIn (off := 31) (tgt := 32) hx hb dX4_doorPlace_1 (by rw [c271]; decide) (by rw [c271]; decide) (by rw [c271]; decide) (by decide) ?_
    refine lv_iconst (v := 2) hx hb dX4_doorPlace_32 (by decide) ?_
    refine lv_iload_n hx hb dX4_doorPlace_33 rfl (lv_at hl 0 rfl) ?_
    refine lv_imul hx hb dX4_doorPlace_34 ?_
    refine lv_topi (fun z273 ez273 => ?_)
    have rz273 := rg_all z273
    refine lv_iconst (v := 1) hx hb dX4_doorPlace_35 (by decide) ?_
    refine lv_iadd hx hb dX4_doorPlace_36 ?_
    refine lv_topi (fun z274 ez274 => ?_)
    have rz274 := rg_all z274
    refine lv_iload_n hx hb dX4_doorPlace_37 rfl (lv_at hl 2 rfl) ?_
    refine lv_iadd hx hb dX4_doorPlace_38 ?_
    refine lv_topi (fun z275 ez275 => ?_)
    have rz275 := rg_all z275
    exact t_iret hQ X hT (⟨rfl, rg_all _⟩) (Nat.le_of_ble_eq_true rfl) (Nat.le_of_ble_eq_true rfl) dX4_doorPlace_39
  have w276 := cv_ne (rfl : p1.toInt = p1.toInt) (by decide : (1 : Int32).toInt = 1) c271
  by_cases c277 : p1 = 2
  · have w278 := cv_eq (rfl : p1.toInt = p1.toInt) (by decide : (2 : Int32).toInt = 2) c277
    refine lv_tableIn (off := 39) (tgt := 40) hx hb dX4_doorPlace_1 (by rw [c277]; decide) (by rw [c277]; decide) (by rw [c277]; decide) (by decide) ?_
    refine lv_bipush (v := 6) hx hb dX4_doorPlace_40 (by decide) ?_
    refine lv_iload_n hx hb dX4_doorPlace_42 rfl (lv_at hl 0 rfl) ?_
    refine lv_imul hx hb dX4_doorPlace_43 ?_
    refine lv_topi (fun z279 ez279 => ?_)
    have rz279 := rg_all z279
    refine lv_iconst (v := 1) hx hb dX4_doorPlace_44 (by decide) ?_
    refine lv_isub hx hb dX4_doorPlace_45 ?_
    refine lv_topi (fun z280 ez280 => ?_)
    have rz280 := rg_all z280
    refine lv_iload_n hx hb dX4_doorPlace_46 rfl (lv_at hl 2 rfl) ?_
    refine lv_isub hx hb dX4_doorPlace_47 ?_
    refine lv_topi (fun z281 ez281 => ?_)
    have rz281 := rg_all z281
    exact t_iret hQ X hT (⟨rfl, rg_all _⟩) (Nat.le_of_ble_eq_true rfl) (Nat.le_of_ble_eq_true rfl) dX4_doorPlace_48
  have w282 := cv_ne (rfl : p1.toInt = p1.toInt) (by decide : (2 : Int32).toInt = 2) c277
  refine lv_tableOut (tgt := 49) hx hb dX4_doorPlace_1 (by omega) (by decide) ?_
  refine lv_bipush (v := 8) hx hb dX4_doorPlace_49 (by decide) ?_
  refine lv_iload_n hx hb dX4_doorPlace_51 rfl (lv_at hl 0 rfl) ?_
  refine lv_imul hx hb dX4_doorPlace_52 ?_
  refine lv_topi (fun z283 ez283 => ?_)
  have rz283 := rg_all z283
  refine lv_iconst (v := 1) hx hb dX4_doorPlace_53 (by decide) ?_
  refine lv_isub hx hb dX4_doorPlace_54 ?_
  refine lv_topi (fun z284 ez284 => ?_)
  have rz284 := rg_all z284
  refine lv_iload_n hx hb dX4_doorPlace_55 rfl (lv_at hl 2 rfl) ?_
  refine lv_isub hx hb dX4_doorPlace_56 ?_
  refine lv_topi (fun z285 ez285 => ?_)
  have rz285 := rg_all z285
  exact t_iret hQ X hT (⟨rfl, rg_all _⟩) (Nat.le_of_ble_eq_true rfl) (Nat.le_of_ble_eq_true rfl) dX4_doorPlace_57
set_option maxHeartbeats 4000000 in
set_option maxRecDepth 100000 in
theorem kt3_X4_isCorner (l : Launch) (G : KG) (tag : Nat → Nat) (L : List Nat) (F : Nat → va_E) (ho : okT G ttC tag L F) (p0 : Int32) (p1 : Int32)  : TMi l yX4_isCorner cX4_isCorner 2 (some .boolean) { frames := 0, cells := 0, slots := 0, locals := 0 } G ttC tag L F [.int p0, .int p1] (fun r F1 => F1 = F ∧ (0 ≤ r.toInt ∧ r.toInt ≤ 1)) := by
  refine t_bodyi (y := yX4_isCorner) (cd := cX4_isCorner) (mL := 2) (rt := (some .boolean)) (rm := { frames := 0, cells := 0, slots := 0, locals := 0 }) (av := [.int p0, .int p1]) (by decide) (Nat.le_of_ble_eq_true rfl) ho ?_
  intro p e s m args below meth c ls A Q hQ X hT hl
  have hx := X.1.1
  have hb := X.1.2.1
  have hl : lv_has ls 2 [(0, .int p0), (1, .int p1)] := hl
  have K13 : ∀  (H : Heap) (locs : List Loc) (ls : Array Slot), TH G ttC A s tag L F H locs → lv_has ls 2 [(0, .int p0), (1, .int p1)] → W p l e { frames := 0, cells := 0, slots := 0, locals := 0 } s m args below meth c H locs 0 0 Q (F0 m 13 ls []) := by
    intro H locs ls hT hl
    refine lv_iconst (v := 1) hx hb dX4_isCorner_13 (by decide) ?_
    refine lv_goto (tgt := 18) hx hb dX4_isCorner_14 (by decide) ?_
    exact t_zret hQ X hT (by decide) (⟨rfl, (by decide)⟩) (Nat.le_of_ble_eq_true rfl) (Nat.le_of_ble_eq_true rfl) dX4_isCorner_18
  refine lv_iload_n hx hb dX4_isCorner_0 rfl (lv_at hl 0 rfl) ?_
  refine lv_iconst (v := 1) hx hb dX4_isCorner_1 (by decide) ?_
  refine lv_icmp_lt (tgt := 13) hx hb dX4_isCorner_2 (by decide) (fun c318 => ?_) (fun c318 => ?_)
  · have w319 := cv_lt (rfl : p0.toInt = p0.toInt) (by decide : (1 : Int32).toInt = 1) c318
    exact K13  _ _ _  hT  (lv_sub hl [0, 1] rfl)
  · have w320 := cv_nlt (rfl : p0.toInt = p0.toInt) (by decide : (1 : Int32).toInt = 1) c318
    refine lv_iload_n hx hb dX4_isCorner_5 rfl (lv_at hl 1 rfl) ?_
    refine lv_iconst (v := 2) hx hb dX4_isCorner_6 (by decide) ?_
    refine lv_iload_n hx hb dX4_isCorner_7 rfl (lv_at hl 0 rfl) ?_
    refine lv_imul hx hb dX4_isCorner_8 ?_
    refine lv_topi (fun z321 ez321 => ?_)
    have rz321 := rg_all z321
    refine lv_irem hx hb dX4_isCorner_9 (mul2_ne ez321 (by omega)) ?_
    refine lv_topi (fun z322 ez322 => ?_)
    have rz322 := rg_all z322
    refine lv_if_ne (tgt := 17) hx hb dX4_isCorner_10 (by decide) (fun c323 => ?_) (fun c323 => ?_)
    · have w324 := cv_ne (rfl : z322.toInt = z322.toInt) (by decide : (0 : Int32).toInt = 0) c323
      refine lv_iconst (v := 0) hx hb dX4_isCorner_17 (by decide) ?_
      exact t_zret hQ X hT (by decide) (⟨rfl, (by decide)⟩) (Nat.le_of_ble_eq_true rfl) (Nat.le_of_ble_eq_true rfl) dX4_isCorner_18
    · have w325 := cv_eq (rfl : z322.toInt = z322.toInt) (by decide : (0 : Int32).toInt = 0) c323
      exact K13  _ _ _  hT  (lv_sub hl [0, 1] rfl)
set_option maxHeartbeats 4000000 in
set_option maxRecDepth 100000 in
theorem kt4_X4_inFront (l : Launch) (G : KG) (tag : Nat → Nat) (L : List Nat) (F : Nat → va_E) (ho : okT G ttC tag L F) (p0 : Int32) (p1 : Int32)  : TMi l yX4_inFront cX4_inFront 4 (some .int) { frames := 0, cells := 0, slots := 0, locals := 0 } G ttC tag L F [.int p0, .int p1] (fun r F1 => F1 = F ∧ ((-2147483648) ≤ r.toInt ∧ r.toInt ≤ 2147483647)) := by
  refine t_bodyi (y := yX4_inFront) (cd := cX4_inFront) (mL := 4) (rt := (some .int)) (rm := { frames := 0, cells := 0, slots := 0, locals := 0 }) (av := [.int p0, .int p1]) (by decide) (Nat.le_of_ble_eq_true rfl) ho ?_
  intro p e s m args below meth c ls A Q hQ X hT hl
  have hx := X.1.1
  have hb := X.1.2.1
  have hl : lv_has ls 4 [(0, .int p0), (1, .int p1)] := hl
  refine lv_iload_n hx hb dX4_inFront_0 rfl (lv_at hl 0 rfl) ?_
  refine lv_iconst (v := 1) hx hb dX4_inFront_1 (by decide) ?_
  refine lv_icmp_ge (tgt := 7) hx hb dX4_inFront_2 (by decide) (fun c374 => ?_) (fun c374 => ?_)
  · have w375 := cv_le (by decide : (1 : Int32).toInt = 1) (rfl : p0.toInt = p0.toInt) c374
    refine lv_iload_n hx hb dX4_inFront_7 rfl (lv_at hl 1 rfl) ?_
    refine lv_iconst (v := 2) hx hb dX4_inFront_8 (by decide) ?_
    refine lv_iload_n hx hb dX4_inFront_9 rfl (lv_at hl 0 rfl) ?_
    refine lv_imul hx hb dX4_inFront_10 ?_
    refine lv_topi (fun z376 ez376 => ?_)
    have rz376 := rg_all z376
    refine lv_idiv hx hb dX4_inFront_11 (mul2_ne ez376 (by omega)) ?_
    refine lv_topi (fun z377 ez377 => ?_)
    have rz377 := rg_all z377
    refine lv_istore_n (lv' := [(2, .int z377), (0, .int p0), (1, .int p1)]) hx hb dX4_inFront_12 rfl hl (by decide) rfl (fun ls hl => ?_)
    refine lv_iload_n hx hb dX4_inFront_13 rfl (lv_at hl 2 rfl) ?_
    refine lv_iconst (v := 2) hx hb dX4_inFront_14 (by decide) ?_
    refine lv_iload_n hx hb dX4_inFront_15 rfl (lv_at hl 1 rfl) ?_
    refine lv_imul hx hb dX4_inFront_16 ?_
    refine lv_topi (fun z378 ez378 => ?_)
    have rz378 := rg_all z378
    refine lv_irem hx hb dX4_inFront_17 (mul2_ne ez378 (by omega)) ?_
    refine lv_topi (fun z379 ez379 => ?_)
    have rz379 := rg_all z379
    refine lv_istore_n (lv' := [(3, .int z379), (2, .int z377), (0, .int p0), (1, .int p1)]) hx hb dX4_inFront_18 rfl hl (by decide) rfl (fun ls hl => ?_)
    refine lv_iload_n hx hb dX4_inFront_19 rfl (lv_at hl 1 rfl) ?_
    refine lv_iconst (v := 2) hx hb dX4_inFront_20 (by decide) ?_
    refine lv_iload_n hx hb dX4_inFront_21 rfl (lv_at hl 2 rfl) ?_
    refine lv_imul hx hb dX4_inFront_22 ?_
    refine lv_topi (fun z380 ez380 => ?_)
    have rz380 := rg_all z380
    refine lv_iconst (v := 2) hx hb dX4_inFront_23 (by decide) ?_
    refine lv_iadd hx hb dX4_inFront_24 ?_
    refine lv_topi (fun z381 ez381 => ?_)
    have rz381 := rg_all z381
    refine lv_imul hx hb dX4_inFront_25 ?_
    refine lv_topi (fun z382 ez382 => ?_)
    have rz382 := rg_all z382
    refine lv_iload_n hx hb dX4_inFront_26 rfl (lv_at hl 0 rfl) ?_
    refine lv_iadd hx hb dX4_inFront_27 ?_
    refine lv_topi (fun z383 ez383 => ?_)
    have rz383 := rg_all z383
    refine lv_iconst (v := 1) hx hb dX4_inFront_28 (by decide) ?_
    refine lv_iadd hx hb dX4_inFront_29 ?_
    refine lv_topi (fun z384 ez384 => ?_)
    have rz384 := rg_all z384
    exact t_iret hQ X hT (⟨rfl, rg_all _⟩) (Nat.le_of_ble_eq_true rfl) (Nat.le_of_ble_eq_true rfl) dX4_inFront_30
  · have w385 := cv_nle (by decide : (1 : Int32).toInt = 1) (rfl : p0.toInt = p0.toInt) c374
    refine lv_iconst (v := 0) hx hb dX4_inFront_5 (by decide) ?_
    exact t_iret hQ X hT (⟨rfl, rg_all _⟩) (Nat.le_of_ble_eq_true rfl) (Nat.le_of_ble_eq_true rfl) dX4_inFront_6
set_option maxHeartbeats 4000000 in
set_option maxRecDepth 100000 in
theorem kt5_X4_between (l : Launch) (G : KG) (tag : Nat → Nat) (L : List Nat) (F : Nat → va_E) (ho : okT G ttC tag L F) (p0 : Int32) (p1 : Int32) (p2 : Int32)  : TMi l yX4_between cX4_between 5 (some .int) { frames := 0, cells := 0, slots := 0, locals := 0 } G ttC tag L F [.int p0, .int p1, .int p2] (fun r F1 => F1 = F ∧ ((-2147483648) ≤ r.toInt ∧ r.toInt ≤ 2147483647)) := by
  refine t_bodyi (y := yX4_between) (cd := cX4_between) (mL := 5) (rt := (some .int)) (rm := { frames := 0, cells := 0, slots := 0, locals := 0 }) (av := [.int p0, .int p1, .int p2]) (by decide) (Nat.le_of_ble_eq_true rfl) ho ?_
  intro p e s m args below meth c ls A Q hQ X hT hl
  have hx := X.1.1
  have hb := X.1.2.1
  have hl : lv_has ls 5 [(0, .int p0), (1, .int p1), (2, .int p2)] := hl
  have K14 : ∀ (z426 : Int32) (H : Heap) (locs : List Loc) (ls : Array Slot), TH G ttC A s tag L F H locs → lv_has ls 5 [(0, .int p0), (1, .int p1), (2, .int p2)] → W p l e { frames := 0, cells := 0, slots := 0, locals := 0 } s m args below meth c H locs 0 0 Q (F0 m 14 ls [.int z426]) := by
    intro z426 H locs ls hT hl
    refine lv_istore_n (lv' := [(3, .int z426), (0, .int p0), (1, .int p1), (2, .int p2)]) hx hb dX4_between_14 rfl hl (by decide) rfl (fun ls hl => ?_)
    refine lv_bipush (v := 8) hx hb dX4_between_15 (by decide) ?_
    refine lv_iload_n hx hb dX4_between_17 rfl (lv_at hl 1 rfl) ?_
    refine lv_imul hx hb dX4_between_18 ?_
    refine lv_topi (fun z427 ez427 => ?_)
    have rz427 := rg_all z427
    refine lv_iload_n hx hb dX4_between_19 rfl (lv_at hl 0 rfl) ?_
    refine lv_isub hx hb dX4_between_20 ?_
    refine lv_topi (fun z428 ez428 => ?_)
    have rz428 := rg_all z428
    refine lv_istore (lv' := [(4, .int z428), (3, .int z426), (0, .int p0), (1, .int p1), (2, .int p2)]) hx hb dX4_between_21 hl (by decide) rfl (fun ls hl => ?_)
    refine lv_iload_n hx hb dX4_between_23 rfl (lv_at hl 1 rfl) ?_
    refine lv_iload hx hb dX4_between_24 (lv_at hl 0 rfl) ?_
    refine lv_icmp_ge (tgt := 33) hx hb dX4_between_26 (by decide) (fun c429 => ?_) (fun c429 => ?_)
    · have w430 := cv_le (rfl : z428.toInt = z428.toInt) (rfl : z426.toInt = z426.toInt) c429
      refine lv_iload hx hb dX4_between_33 (lv_at hl 0 rfl) ?_
      exact t_iret hQ X hT (⟨rfl, rg_all _⟩) (Nat.le_of_ble_eq_true rfl) (Nat.le_of_ble_eq_true rfl) dX4_between_35
    · have w431 := cv_nle (rfl : z428.toInt = z428.toInt) (rfl : z426.toInt = z426.toInt) c429
      refine lv_iload_n hx hb dX4_between_29 rfl (lv_at hl 1 rfl) ?_
      refine lv_goto (tgt := 35) hx hb dX4_between_30 (by decide) ?_
      exact t_iret hQ X hT (⟨rfl, rg_all _⟩) (Nat.le_of_ble_eq_true rfl) (Nat.le_of_ble_eq_true rfl) dX4_between_35
  refine lv_iload_n hx hb dX4_between_0 rfl (lv_at hl 1 rfl) ?_
  refine lv_iload_n hx hb dX4_between_1 rfl (lv_at hl 2 rfl) ?_
  refine lv_icmp_ge (tgt := 11) hx hb dX4_between_2 (by decide) (fun c432 => ?_) (fun c432 => ?_)
  · have w433 := cv_le (rfl : p2.toInt = p2.toInt) (rfl : p1.toInt = p1.toInt) c432
    refine lv_iload_n hx hb dX4_between_11 rfl (lv_at hl 1 rfl) ?_
    refine lv_iload_n hx hb dX4_between_12 rfl (lv_at hl 2 rfl) ?_
    refine lv_isub hx hb dX4_between_13 ?_
    refine lv_topi (fun z434 ez434 => ?_)
    have rz434 := rg_all z434
    exact K14 z434 _ _ _  hT  (lv_sub hl [0, 1, 2] rfl)
  · have w435 := cv_nle (rfl : p2.toInt = p2.toInt) (rfl : p1.toInt = p1.toInt) c432
    refine lv_iload_n hx hb dX4_between_5 rfl (lv_at hl 2 rfl) ?_
    refine lv_iload_n hx hb dX4_between_6 rfl (lv_at hl 1 rfl) ?_
    refine lv_isub hx hb dX4_between_7 ?_
    refine lv_topi (fun z436 ez436 => ?_)
    have rz436 := rg_all z436
    refine lv_goto (tgt := 14) hx hb dX4_between_8 (by decide) ?_
    exact K14 z436 _ _ _  hT  (lv_sub hl [0, 1, 2] rfl)
set_option maxHeartbeats 4000000 in
set_option maxRecDepth 100000 in
theorem kt6_X1_isOn (l : Launch) (G : KG) (tag : Nat → Nat) (L : List Nat) (F : Nat → va_E) (ho : okT G ttC tag L F) (p0 : Nat) (p1 : Int32) (p2 : Int32) (m0 : p0 ∈ L) (g0 : tag p0 = 18) : TMi l yX1_isOn cX1_isOn 3 (some .boolean) { frames := 0, cells := 0, slots := 0, locals := 0 } G ttC tag L F [.ref p0, .int p1, .int p2] (fun r F1 => F1 = F ∧ (0 ≤ r.toInt ∧ r.toInt ≤ 1)) := by
  refine t_bodyi (y := yX1_isOn) (cd := cX1_isOn) (mL := 3) (rt := (some .boolean)) (rm := { frames := 0, cells := 0, slots := 0, locals := 0 }) (av := [.ref p0, .int p1, .int p2]) (by decide) (Nat.le_of_ble_eq_true rfl) ho ?_
  intro p e s m args below meth c ls A Q hQ X hT hl
  have hx := X.1.1
  have hb := X.1.2.1
  have hl : lv_has ls 3 [(0, .ref p0), (1, .int p1), (2, .int p2)] := hl
  refine lv_iload_n hx hb dX1_isOn_0 rfl (lv_at hl 1 rfl) ?_
  refine lv_if_lt (tgt := 28) hx hb dX1_isOn_1 (by decide) (fun c501 => ?_) (fun c501 => ?_)
  · have w502 := cv_lt (rfl : p1.toInt = p1.toInt) (by decide : (0 : Int32).toInt = 0) c501
    refine lv_iconst (v := 0) hx hb dX1_isOn_28 (by decide) ?_
    exact t_zret hQ X hT (by decide) (⟨rfl, (by decide)⟩) (Nat.le_of_ble_eq_true rfl) (Nat.le_of_ble_eq_true rfl) dX1_isOn_29
  · have w503 := cv_nlt (rfl : p1.toInt = p1.toInt) (by decide : (0 : Int32).toInt = 0) c501
    refine lv_iload_n hx hb dX1_isOn_4 rfl (lv_at hl 1 rfl) ?_
    refine lv_aload_n hx hb dX1_isOn_5 rfl (lv_at hl 0 rfl) ?_
    refine t_get (C := RX1) (T := TX1) (N := 20) X hT m0 g0 rfl rfl 0 (by decide) qw_177 inlX1 rfl dX1_isOn_6 (fun v504 hv504 ov504 => ?_)
    obtain ⟨z505, rfl, rz505⟩ := okV_i ov504
    refine lv_icmp_ge (tgt := 28) hx hb dX1_isOn_9 (by decide) (fun c506 => ?_) (fun c506 => ?_)
    · have w507 := cv_le (rfl : z505.toInt = z505.toInt) (rfl : p1.toInt = p1.toInt) c506
      refine lv_iconst (v := 0) hx hb dX1_isOn_28 (by decide) ?_
      exact t_zret hQ X hT (by decide) (⟨rfl, (by decide)⟩) (Nat.le_of_ble_eq_true rfl) (Nat.le_of_ble_eq_true rfl) dX1_isOn_29
    · have w508 := cv_nle (rfl : z505.toInt = z505.toInt) (rfl : p1.toInt = p1.toInt) c506
      refine lv_iload_n hx hb dX1_isOn_12 rfl (lv_at hl 2 rfl) ?_
      refine lv_if_lt (tgt := 28) hx hb dX1_isOn_13 (by decide) (fun c509 => ?_) (fun c509 => ?_)
      · have w510 := cv_lt (rfl : p2.toInt = p2.toInt) (by decide : (0 : Int32).toInt = 0) c509
        refine lv_iconst (v := 0) hx hb dX1_isOn_28 (by decide) ?_
        exact t_zret hQ X hT (by decide) (⟨rfl, (by decide)⟩) (Nat.le_of_ble_eq_true rfl) (Nat.le_of_ble_eq_true rfl) dX1_isOn_29
      · have w511 := cv_nlt (rfl : p2.toInt = p2.toInt) (by decide : (0 : Int32).toInt = 0) c509
        refine lv_iload_n hx hb dX1_isOn_16 rfl (lv_at hl 2 rfl) ?_
        refine lv_aload_n hx hb dX1_isOn_17 rfl (lv_at hl 0 rfl) ?_
        refine t_get (C := RX1) (T := TX1) (N := 20) X hT m0 g0 rfl rfl 1 (by decide) qw_178 inlX1 rfl dX1_isOn_18 (fun v512 hv512 ov512 => ?_)
        obtain ⟨z513, rfl, rz513⟩ := okV_i ov512
        refine lv_icmp_ge (tgt := 28) hx hb dX1_isOn_21 (by decide) (fun c514 => ?_) (fun c514 => ?_)
        · have w515 := cv_le (rfl : z513.toInt = z513.toInt) (rfl : p2.toInt = p2.toInt) c514
          refine lv_iconst (v := 0) hx hb dX1_isOn_28 (by decide) ?_
          exact t_zret hQ X hT (by decide) (⟨rfl, (by decide)⟩) (Nat.le_of_ble_eq_true rfl) (Nat.le_of_ble_eq_true rfl) dX1_isOn_29
        · have w516 := cv_nle (rfl : z513.toInt = z513.toInt) (rfl : p2.toInt = p2.toInt) c514
          refine lv_iconst (v := 1) hx hb dX1_isOn_24 (by decide) ?_
          refine lv_goto (tgt := 29) hx hb dX1_isOn_25 (by decide) ?_
          exact t_zret hQ X hT (by decide) (⟨rfl, (by decide)⟩) (Nat.le_of_ble_eq_true rfl) (Nat.le_of_ble_eq_true rfl) dX1_isOn_29
set_option maxHeartbeats 4000000 in
set_option maxRecDepth 100000 in
theorem kt7_X1_isWet (l : Launch) (G : KG) (tag : Nat → Nat) (L : List Nat) (F : Nat → va_E) (ho : okT G ttC tag L F) (p0 : Nat) (p1 : Int32) (p2 : Int32) (m0 : p0 ∈ L) (g0 : tag p0 = 18) : TMi l yX1_isWet cX1_isWet 4 (some .boolean) { frames := 0, cells := 0, slots := 0, locals := 0 } G ttC tag L F [.ref p0, .int p1, .int p2] (fun r F1 => F1 = F ∧ (0 ≤ r.toInt ∧ r.toInt ≤ 1)) := by
  refine t_bodyi (y := yX1_isWet) (cd := cX1_isWet) (mL := 4) (rt := (some .boolean)) (rm := { frames := 0, cells := 0, slots := 0, locals := 0 }) (av := [.ref p0, .int p1, .int p2]) (by decide) (Nat.le_of_ble_eq_true rfl) ho ?_
  intro p e s m args below meth c ls A Q hQ X hT hl
  have hx := X.1.1
  have hb := X.1.2.1
  have hl : lv_has ls 4 [(0, .ref p0), (1, .int p1), (2, .int p2)] := hl
  refine lv_iload_n hx hb dX1_isWet_0 rfl (lv_at hl 2 rfl) ?_
  refine lv_aload_n hx hb dX1_isWet_1 rfl (lv_at hl 0 rfl) ?_
  refine t_get (C := RX1) (T := TX1) (N := 20) X hT m0 g0 rfl rfl 0 (by decide) qw_177 inlX1 rfl dX1_isWet_2 (fun v589 hv589 ov589 => ?_)
  obtain ⟨z590, rfl, rz590⟩ := okV_i ov589
  refine lv_imul hx hb dX1_isWet_5 ?_
  refine lv_topi (fun z591 ez591 => ?_)
  have rz591 := rg_all z591
  refine lv_iload_n hx hb dX1_isWet_6 rfl (lv_at hl 1 rfl) ?_
  refine lv_iadd hx hb dX1_isWet_7 ?_
  refine lv_topi (fun z592 ez592 => ?_)
  have rz592 := rg_all z592
  refine lv_istore_n (lv' := [(3, .int z592), (0, .ref p0), (1, .int p1), (2, .int p2)]) hx hb dX1_isWet_8 rfl hl (by decide) rfl (fun ls hl => ?_)
  refine lv_iload_n hx hb dX1_isWet_9 rfl (lv_at hl 0 rfl) ?_
  refine lv_if_lt (tgt := 35) hx hb dX1_isWet_10 (by decide) (fun c593 => ?_) (fun c593 => ?_)
  · have w594 := cv_lt (rfl : z592.toInt = z592.toInt) (by decide : (0 : Int32).toInt = 0) c593
    refine lv_iconst (v := 0) hx hb dX1_isWet_35 (by decide) ?_
    exact t_zret hQ X hT (by decide) (⟨rfl, (by decide)⟩) (Nat.le_of_ble_eq_true rfl) (Nat.le_of_ble_eq_true rfl) dX1_isWet_36
  · have w595 := cv_nlt (rfl : z592.toInt = z592.toInt) (by decide : (0 : Int32).toInt = 0) c593
    refine lv_iload_n hx hb dX1_isWet_13 rfl (lv_at hl 0 rfl) ?_
    refine lv_aload_n hx hb dX1_isWet_14 rfl (lv_at hl 1 rfl) ?_
    refine t_get (C := RX1) (T := TX1) (N := 20) X hT m0 g0 rfl rfl 7 (by decide) qw_50 inlX1 rfl dX1_isWet_15 (fun v596 hv596 ov596 => ?_)
    obtain ⟨b597, rfl, mb597, gb597⟩ := okV_r ov596
    have gb597 : tag b597 = 2 := by simpa using gb597
    refine t_alen X hT mb597 gb597 rfl (by decide) dX1_isWet_18 ?_
    refine lv_topi (fun z598 ez598 => ?_)
    obtain rfl : z598 = 144 := ez598.trans (by rfl)
    refine lv_icmp_ge (tgt := 35) hx hb dX1_isWet_19 (by decide) (fun c599 => ?_) (fun c599 => ?_)
    · have w600 := cv_le (by decide : (144 : Int32).toInt = 144) (rfl : z592.toInt = z592.toInt) c599
      refine lv_iconst (v := 0) hx hb dX1_isWet_35 (by decide) ?_
      exact t_zret hQ X hT (by decide) (⟨rfl, (by decide)⟩) (Nat.le_of_ble_eq_true rfl) (Nat.le_of_ble_eq_true rfl) dX1_isWet_36
    · have w601 := cv_nle (by decide : (144 : Int32).toInt = 144) (rfl : z592.toInt = z592.toInt) c599
      refine lv_aload_n hx hb dX1_isWet_22 rfl (lv_at hl 1 rfl) ?_
      refine t_get (C := RX1) (T := TX1) (N := 20) X hT m0 g0 rfl rfl 7 (by decide) qw_50 inlX1 rfl dX1_isWet_23 (fun v602 hv602 ov602 => ?_)
      obtain rfl : v602 = .ref b597 := hv602.symm.trans hv596
      refine lv_iload_n hx hb dX1_isWet_26 rfl (lv_at hl 0 rfl) ?_
      refine t_zld X hT mb597 gb597 rfl (by omega) dX1_isWet_27 (fun z603 vz603 rz603 => ?_)
      have rz603 : 0 ≤ z603.toInt ∧ z603.toInt ≤ 1 := rz603
      refine lv_if_eq (tgt := 35) hx hb dX1_isWet_28 (by decide) (fun c604 => ?_) (fun c604 => ?_)
      · have w605 := cv_eq (rfl : z603.toInt = z603.toInt) (by decide : (0 : Int32).toInt = 0) c604
        refine lv_iconst (v := 0) hx hb dX1_isWet_35 (by decide) ?_
        exact t_zret hQ X hT (by decide) (⟨rfl, (by decide)⟩) (Nat.le_of_ble_eq_true rfl) (Nat.le_of_ble_eq_true rfl) dX1_isWet_36
      · have w606 := cv_ne (rfl : z603.toInt = z603.toInt) (by decide : (0 : Int32).toInt = 0) c604
        refine lv_iconst (v := 1) hx hb dX1_isWet_31 (by decide) ?_
        refine lv_goto (tgt := 36) hx hb dX1_isWet_32 (by decide) ?_
        exact t_zret hQ X hT (by decide) (⟨rfl, (by decide)⟩) (Nat.le_of_ble_eq_true rfl) (Nat.le_of_ble_eq_true rfl) dX1_isWet_36
set_option maxHeartbeats 4000000 in
set_option maxRecDepth 100000 in
theorem kt8_X1_addWater (l : Launch) (G : KG) (tag : Nat → Nat) (L : List Nat) (F : Nat → va_E) (ho : okT G ttC tag L F) (p0 : Nat) (p1 : Int32) (p2 : Int32) (m0 : p0 ∈ L) (g0 : tag p0 = 18) : TMv l yX1_addWater cX1_addWater 4 { frames := 0, cells := 0, slots := 0, locals := 0 } G ttC tag L F [.ref p0, .int p1, .int p2] (fun _ => True) := by
  refine t_bodyv (y := yX1_addWater) (cd := cX1_addWater) (mL := 4) (rm := { frames := 0, cells := 0, slots := 0, locals := 0 }) (av := [.ref p0, .int p1, .int p2]) (by decide) (Nat.le_of_ble_eq_true rfl) ho ?_
  intro p e s m args below meth c ls A Q hQ X hT hl
  have hx := X.1.1
  have hb := X.1.2.1
  have hl : lv_has ls 4 [(0, .ref p0), (1, .int p1), (2, .int p2)] := hl
  refine lv_iload_n hx hb dX1_addWater_0 rfl (lv_at hl 2 rfl) ?_
  refine lv_aload_n hx hb dX1_addWater_1 rfl (lv_at hl 0 rfl) ?_
  refine t_get (C := RX1) (T := TX1) (N := 20) X hT m0 g0 rfl rfl 0 (by decide) qw_177 inlX1 rfl dX1_addWater_2 (fun v667 hv667 ov667 => ?_)
  obtain ⟨z668, rfl, rz668⟩ := okV_i ov667
  refine lv_imul hx hb dX1_addWater_5 ?_
  refine lv_topi (fun z669 ez669 => ?_)
  have rz669 := rg_all z669
  refine lv_iload_n hx hb dX1_addWater_6 rfl (lv_at hl 1 rfl) ?_
  refine lv_iadd hx hb dX1_addWater_7 ?_
  refine lv_topi (fun z670 ez670 => ?_)
  have rz670 := rg_all z670
  refine lv_istore_n (lv' := [(3, .int z670), (0, .ref p0), (1, .int p1), (2, .int p2)]) hx hb dX1_addWater_8 rfl hl (by decide) rfl (fun ls hl => ?_)
  refine lv_iload_n hx hb dX1_addWater_9 rfl (lv_at hl 0 rfl) ?_
  refine lv_if_lt (tgt := 29) hx hb dX1_addWater_10 (by decide) (fun c671 => ?_) (fun c671 => ?_)
  · have w672 := cv_lt (rfl : z670.toInt = z670.toInt) (by decide : (0 : Int32).toInt = 0) c671
    exact t_vret hQ X hT trivial (Nat.le_of_ble_eq_true rfl) (Nat.le_of_ble_eq_true rfl) dX1_addWater_29
  · have w673 := cv_nlt (rfl : z670.toInt = z670.toInt) (by decide : (0 : Int32).toInt = 0) c671
    refine lv_iload_n hx hb dX1_addWater_13 rfl (lv_at hl 0 rfl) ?_
    refine lv_aload_n hx hb dX1_addWater_14 rfl (lv_at hl 1 rfl) ?_
    refine t_get (C := RX1) (T := TX1) (N := 20) X hT m0 g0 rfl rfl 7 (by decide) qw_50 inlX1 rfl dX1_addWater_15 (fun v674 hv674 ov674 => ?_)
    obtain ⟨b675, rfl, mb675, gb675⟩ := okV_r ov674
    have gb675 : tag b675 = 2 := by simpa using gb675
    refine t_alen X hT mb675 gb675 rfl (by decide) dX1_addWater_18 ?_
    refine lv_topi (fun z676 ez676 => ?_)
    obtain rfl : z676 = 144 := ez676.trans (by rfl)
    refine lv_icmp_ge (tgt := 29) hx hb dX1_addWater_19 (by decide) (fun c677 => ?_) (fun c677 => ?_)
    · have w678 := cv_le (by decide : (144 : Int32).toInt = 144) (rfl : z670.toInt = z670.toInt) c677
      exact t_vret hQ X hT trivial (Nat.le_of_ble_eq_true rfl) (Nat.le_of_ble_eq_true rfl) dX1_addWater_29
    · have w679 := cv_nle (by decide : (144 : Int32).toInt = 144) (rfl : z670.toInt = z670.toInt) c677
      refine lv_aload_n hx hb dX1_addWater_22 rfl (lv_at hl 1 rfl) ?_
      refine t_get (C := RX1) (T := TX1) (N := 20) X hT m0 g0 rfl rfl 7 (by decide) qw_50 inlX1 rfl dX1_addWater_23 (fun v680 hv680 ov680 => ?_)
      obtain rfl : v680 = .ref b675 := hv680.symm.trans hv674
      refine lv_iload_n hx hb dX1_addWater_26 rfl (lv_at hl 0 rfl) ?_
      refine lv_iconst (v := 1) hx hb dX1_addWater_27 (by decide) ?_
      refine t_zst X hT mb675 gb675 rfl (by omega) (show 0 ≤ (vp_nar .boolean 1).toInt ∧ (vp_nar .boolean 1).toInt ≤ 1 from (by decide)) dX1_addWater_28 (fun F H locs hT v681 h1v681 h2v681 => ?_)
      have hv667 := (h2v681 _ _).trans hv667
      have hv674 := (h2v681 _ _).trans hv674
      exact t_vret hQ X hT trivial (Nat.le_of_ble_eq_true rfl) (Nat.le_of_ble_eq_true rfl) dX1_addWater_29
set_option maxHeartbeats 4000000 in
set_option maxRecDepth 100000 in
theorem kt9_X1_stonePart (l : Launch) (G : KG) (tag : Nat → Nat) (L : List Nat) (F : Nat → va_E) (ho : okT G ttC tag L F) (p0 : Nat) (p1 : Int32) (p2 : Int32) (m0 : p0 ∈ L) (g0 : tag p0 = 18) : TMi l yX1_stonePart cX1_stonePart 4 (some .int) { frames := 0, cells := 0, slots := 0, locals := 0 } G ttC tag L F [.ref p0, .int p1, .int p2] (fun r F1 => F1 = F ∧ ((-2147483648) ≤ r.toInt ∧ r.toInt ≤ 2147483647)) := by
  refine t_bodyi (y := yX1_stonePart) (cd := cX1_stonePart) (mL := 4) (rt := (some .int)) (rm := { frames := 0, cells := 0, slots := 0, locals := 0 }) (av := [.ref p0, .int p1, .int p2]) (by decide) (Nat.le_of_ble_eq_true rfl) ho ?_
  intro p e s m args below meth c ls A Q hQ X hT hl
  have hx := X.1.1
  have hb := X.1.2.1
  have hl : lv_has ls 4 [(0, .ref p0), (1, .int p1), (2, .int p2)] := hl
  refine lv_iload_n hx hb dX1_stonePart_0 rfl (lv_at hl 1 rfl) ?_
  refine lv_iconst (v := 5) hx hb dX1_stonePart_1 (by decide) ?_
  refine lv_imul hx hb dX1_stonePart_2 ?_
  refine lv_topi (fun z734 ez734 => ?_)
  have rz734 := rg_all z734
  refine lv_iload_n hx hb dX1_stonePart_3 rfl (lv_at hl 2 rfl) ?_
  refine lv_iadd hx hb dX1_stonePart_4 ?_
  refine lv_topi (fun z735 ez735 => ?_)
  have rz735 := rg_all z735
  refine lv_istore_n (lv' := [(3, .int z735), (0, .ref p0), (1, .int p1), (2, .int p2)]) hx hb dX1_stonePart_5 rfl hl (by decide) rfl (fun ls hl => ?_)
  refine lv_iload_n hx hb dX1_stonePart_6 rfl (lv_at hl 0 rfl) ?_
  refine lv_if_lt (tgt := 28) hx hb dX1_stonePart_7 (by decide) (fun c736 => ?_) (fun c736 => ?_)
  · have w737 := cv_lt (rfl : z735.toInt = z735.toInt) (by decide : (0 : Int32).toInt = 0) c736
    refine lv_iconst (v := 0) hx hb dX1_stonePart_28 (by decide) ?_
    exact t_iret hQ X hT (⟨rfl, rg_all _⟩) (Nat.le_of_ble_eq_true rfl) (Nat.le_of_ble_eq_true rfl) dX1_stonePart_29
  · have w738 := cv_nlt (rfl : z735.toInt = z735.toInt) (by decide : (0 : Int32).toInt = 0) c736
    refine lv_iload_n hx hb dX1_stonePart_10 rfl (lv_at hl 0 rfl) ?_
    refine lv_aload_n hx hb dX1_stonePart_11 rfl (lv_at hl 1 rfl) ?_
    refine t_get (C := RX1) (T := TX1) (N := 20) X hT m0 g0 rfl rfl 9 (by decide) qw_51 inlX1 rfl dX1_stonePart_12 (fun v739 hv739 ov739 => ?_)
    obtain ⟨b740, rfl, mb740, gb740⟩ := okV_r ov739
    have gb740 : tag b740 = 3 := by simpa using gb740
    refine t_alen X hT mb740 gb740 rfl (by decide) dX1_stonePart_15 ?_
    refine lv_topi (fun z741 ez741 => ?_)
    obtain rfl : z741 = 20 := ez741.trans (by rfl)
    refine lv_icmp_ge (tgt := 28) hx hb dX1_stonePart_16 (by decide) (fun c742 => ?_) (fun c742 => ?_)
    · have w743 := cv_le (by decide : (20 : Int32).toInt = 20) (rfl : z735.toInt = z735.toInt) c742
      refine lv_iconst (v := 0) hx hb dX1_stonePart_28 (by decide) ?_
      exact t_iret hQ X hT (⟨rfl, rg_all _⟩) (Nat.le_of_ble_eq_true rfl) (Nat.le_of_ble_eq_true rfl) dX1_stonePart_29
    · have w744 := cv_nle (by decide : (20 : Int32).toInt = 20) (rfl : z735.toInt = z735.toInt) c742
      refine lv_aload_n hx hb dX1_stonePart_19 rfl (lv_at hl 1 rfl) ?_
      refine t_get (C := RX1) (T := TX1) (N := 20) X hT m0 g0 rfl rfl 9 (by decide) qw_51 inlX1 rfl dX1_stonePart_20 (fun v745 hv745 ov745 => ?_)
      obtain rfl : v745 = .ref b740 := hv745.symm.trans hv739
      refine lv_iload_n hx hb dX1_stonePart_23 rfl (lv_at hl 0 rfl) ?_
      refine t_ild X hT mb740 gb740 rfl (by omega) dX1_stonePart_24 (fun z746 vz746 rz746 => ?_)
      have rz746 : (-2147483648) ≤ z746.toInt ∧ z746.toInt ≤ 2147483647 := rz746
      refine lv_goto (tgt := 29) hx hb dX1_stonePart_25 (by decide) ?_
      exact t_iret hQ X hT (⟨rfl, rg_all _⟩) (Nat.le_of_ble_eq_true rfl) (Nat.le_of_ble_eq_true rfl) dX1_stonePart_29
set_option maxHeartbeats 4000000 in
set_option maxRecDepth 100000 in
theorem kt10_X1_setStonePart (l : Launch) (G : KG) (tag : Nat → Nat) (L : List Nat) (F : Nat → va_E) (ho : okT G ttC tag L F) (p0 : Nat) (p1 : Int32) (p2 : Int32) (p3 : Int32) (m0 : p0 ∈ L) (g0 : tag p0 = 18) : TMv l yX1_setStonePart cX1_setStonePart 5 { frames := 0, cells := 0, slots := 0, locals := 0 } G ttC tag L F [.ref p0, .int p1, .int p2, .int p3] (fun _ => True) := by
  refine t_bodyv (y := yX1_setStonePart) (cd := cX1_setStonePart) (mL := 5) (rm := { frames := 0, cells := 0, slots := 0, locals := 0 }) (av := [.ref p0, .int p1, .int p2, .int p3]) (by decide) (Nat.le_of_ble_eq_true rfl) ho ?_
  intro p e s m args below meth c ls A Q hQ X hT hl
  have hx := X.1.1
  have hb := X.1.2.1
  have hl : lv_has ls 5 [(0, .ref p0), (1, .int p1), (2, .int p2), (3, .int p3)] := hl
  refine lv_iload_n hx hb dX1_setStonePart_0 rfl (lv_at hl 1 rfl) ?_
  refine lv_iconst (v := 5) hx hb dX1_setStonePart_1 (by decide) ?_
  refine lv_imul hx hb dX1_setStonePart_2 ?_
  refine lv_topi (fun z799 ez799 => ?_)
  have rz799 := rg_all z799
  refine lv_iload_n hx hb dX1_setStonePart_3 rfl (lv_at hl 2 rfl) ?_
  refine lv_iadd hx hb dX1_setStonePart_4 ?_
  refine lv_topi (fun z800 ez800 => ?_)
  have rz800 := rg_all z800
  refine lv_istore (lv' := [(4, .int z800), (0, .ref p0), (1, .int p1), (2, .int p2), (3, .int p3)]) hx hb dX1_setStonePart_5 hl (by decide) rfl (fun ls hl => ?_)
  refine lv_iload hx hb dX1_setStonePart_7 (lv_at hl 0 rfl) ?_
  refine lv_if_lt (tgt := 30) hx hb dX1_setStonePart_9 (by decide) (fun c801 => ?_) (fun c801 => ?_)
  · have w802 := cv_lt (rfl : z800.toInt = z800.toInt) (by decide : (0 : Int32).toInt = 0) c801
    exact t_vret hQ X hT trivial (Nat.le_of_ble_eq_true rfl) (Nat.le_of_ble_eq_true rfl) dX1_setStonePart_30
  · have w803 := cv_nlt (rfl : z800.toInt = z800.toInt) (by decide : (0 : Int32).toInt = 0) c801
    refine lv_iload hx hb dX1_setStonePart_12 (lv_at hl 0 rfl) ?_
    refine lv_aload_n hx hb dX1_setStonePart_14 rfl (lv_at hl 1 rfl) ?_
    refine t_get (C := RX1) (T := TX1) (N := 20) X hT m0 g0 rfl rfl 9 (by decide) qw_51 inlX1 rfl dX1_setStonePart_15 (fun v804 hv804 ov804 => ?_)
    obtain ⟨b805, rfl, mb805, gb805⟩ := okV_r ov804
    have gb805 : tag b805 = 3 := by simpa using gb805
    refine t_alen X hT mb805 gb805 rfl (by decide) dX1_setStonePart_18 ?_
    refine lv_topi (fun z806 ez806 => ?_)
    obtain rfl : z806 = 20 := ez806.trans (by rfl)
    refine lv_icmp_ge (tgt := 30) hx hb dX1_setStonePart_19 (by decide) (fun c807 => ?_) (fun c807 => ?_)
    · have w808 := cv_le (by decide : (20 : Int32).toInt = 20) (rfl : z800.toInt = z800.toInt) c807
      exact t_vret hQ X hT trivial (Nat.le_of_ble_eq_true rfl) (Nat.le_of_ble_eq_true rfl) dX1_setStonePart_30
    · have w809 := cv_nle (by decide : (20 : Int32).toInt = 20) (rfl : z800.toInt = z800.toInt) c807
      refine lv_aload_n hx hb dX1_setStonePart_22 rfl (lv_at hl 1 rfl) ?_
      refine t_get (C := RX1) (T := TX1) (N := 20) X hT m0 g0 rfl rfl 9 (by decide) qw_51 inlX1 rfl dX1_setStonePart_23 (fun v810 hv810 ov810 => ?_)
      obtain rfl : v810 = .ref b805 := hv810.symm.trans hv804
      refine lv_iload hx hb dX1_setStonePart_26 (lv_at hl 0 rfl) ?_
      refine lv_iload_n hx hb dX1_setStonePart_28 rfl (lv_at hl 4 rfl) ?_
      refine t_ist X hT mb805 gb805 rfl (by omega) (show (-2147483648) ≤ (p3).toInt ∧ (p3).toInt ≤ 2147483647 from (by omega)) dX1_setStonePart_29 (fun F H locs hT v811 h1v811 h2v811 => ?_)
      have hv804 := (h2v811 _ _).trans hv804
      exact t_vret hQ X hT trivial (Nat.le_of_ble_eq_true rfl) (Nat.le_of_ble_eq_true rfl) dX1_setStonePart_30
set_option maxHeartbeats 4000000 in
set_option maxRecDepth 100000 in
theorem kt11_X1_clear (l : Launch) (G : KG) (tag : Nat → Nat) (L : List Nat) (F : Nat → va_E) (ho : okT G ttC tag L F) (p0 : Nat) (m0 : p0 ∈ L) (g0 : tag p0 = 18) : TMv l yX1_clear cX1_clear 2 { frames := 0, cells := 0, slots := 0, locals := 0 } G ttC tag L F [.ref p0] (fun _ => True) := by
  refine t_bodyv (y := yX1_clear) (cd := cX1_clear) (mL := 2) (rm := { frames := 0, cells := 0, slots := 0, locals := 0 }) (av := [.ref p0]) (by decide) (Nat.le_of_ble_eq_true rfl) ho ?_
  intro p e s m args below meth c ls A Q hQ X hT hl
  have hx := X.1.1
  have hb := X.1.2.1
  have hl : lv_has ls 2 [(0, .ref p0)] := hl
  have K56 : ∀ (n : Nat) (z1266 : Int32) (z1267 : Int32) (z1268 : Int32) (z1269 : Int32) (z1270 : Int32) (z1271 : Int32) (z1272 : Int32) (F : Nat → va_E) (H : Heap) (locs : List Loc) (ls : Array Slot), (6 - z1266.toInt < (n : Int)) → (0 ≤ z1266.toInt ∧ z1266.toInt ≤ 6) → (0 ≤ z1267.toInt ∧ z1267.toInt ≤ 0) → (0 ≤ z1268.toInt ∧ z1268.toInt ≤ 0) → (0 ≤ z1269.toInt ∧ z1269.toInt ≤ 0) → (0 ≤ z1270.toInt ∧ z1270.toInt ≤ 0) → (0 ≤ z1271.toInt ∧ z1271.toInt ≤ 0) → (0 ≤ z1272.toInt ∧ z1272.toInt ≤ 0) → TH G ttC A s tag L F H locs → fld F p0 0 = .int z1267 → fld F p0 1 = .int z1268 → fld F p0 8 = .int z1269 → fld F p0 10 = .int z1270 → fld F p0 14 = .int z1271 → fld F p0 16 = .int z1272 → lv_has ls 2 [(0, .ref p0), (1, .int z1266)] → W p l e { frames := 0, cells := 0, slots := 0, locals := 0 } s m args below meth c H locs 0 0 Q (F0 m 56 ls []) := by
    intro n
    induction n with
    | zero =>
      intro z1266 z1267 z1268 z1269 z1270 z1271 z1272 F H locs ls hn rz1266 rz1267 rz1268 rz1269 rz1270 rz1271 rz1272 hT qz1267 qz1268 qz1269 qz1270 qz1271 qz1272 hl
      exfalso
      omega
    | succ n ih56 =>
      intro z1266 z1267 z1268 z1269 z1270 z1271 z1272 F H locs ls hn rz1266 rz1267 rz1268 rz1269 rz1270 rz1271 rz1272 hT qz1267 qz1268 qz1269 qz1270 qz1271 qz1272 hl
      refine lv_iload_n hx hb dX1_clear_56 rfl (lv_at hl 1 rfl) ?_
      refine lv_bipush (v := 6) hx hb dX1_clear_57 (by decide) ?_
      refine lv_icmp_ge (tgt := 89) hx hb dX1_clear_59 (by decide) (fun c1273 => ?_) (fun c1273 => ?_)
      · have w1274 := cv_le (by decide : (6 : Int32).toInt = 6) (rfl : z1266.toInt = z1266.toInt) c1273
        exact t_vret hQ X hT trivial (Nat.le_of_ble_eq_true rfl) (Nat.le_of_ble_eq_true rfl) dX1_clear_89
      · have w1275 := cv_nle (by decide : (6 : Int32).toInt = 6) (rfl : z1266.toInt = z1266.toInt) c1273
        refine lv_aload_n hx hb dX1_clear_62 rfl (lv_at hl 0 rfl) ?_
        refine t_get (C := RX1) (T := TX1) (N := 20) X hT m0 g0 rfl rfl 17 (by decide) qw_56 inlX1 rfl dX1_clear_63 (fun v1276 hv1276 ov1276 => ?_)
        obtain ⟨b1277, rfl, mb1277, gb1277⟩ := okV_r ov1276
        have gb1277 : tag b1277 = 7 := by simpa using gb1277
        refine lv_iload_n hx hb dX1_clear_66 rfl (lv_at hl 1 rfl) ?_
        refine lv_iconst (v := 0) hx hb dX1_clear_67 (by decide) ?_
        refine t_ist X hT mb1277 gb1277 rfl (by omega) (show (-2147483648) ≤ (0).toInt ∧ (0).toInt ≤ 2147483647 from (by decide)) dX1_clear_68 (fun F H locs hT v1278 h1v1278 h2v1278 => ?_)
        have qz1267 := (h2v1278 _ _).trans qz1267
        have qz1268 := (h2v1278 _ _).trans qz1268
        have qz1269 := (h2v1278 _ _).trans qz1269
        have qz1270 := (h2v1278 _ _).trans qz1270
        have qz1271 := (h2v1278 _ _).trans qz1271
        have qz1272 := (h2v1278 _ _).trans qz1272
        have hv1276 := (h2v1278 _ _).trans hv1276
        refine lv_aload_n hx hb dX1_clear_69 rfl (lv_at hl 0 rfl) ?_
        refine t_get (C := RX1) (T := TX1) (N := 20) X hT m0 g0 rfl rfl 18 (by decide) qw_57 inlX1 rfl dX1_clear_70 (fun v1279 hv1279 ov1279 => ?_)
        obtain ⟨b1280, rfl, mb1280, gb1280⟩ := okV_r ov1279
        have gb1280 : tag b1280 = 7 := by simpa using gb1280
        refine lv_iload_n hx hb dX1_clear_73 rfl (lv_at hl 1 rfl) ?_
        refine lv_iconst (v := (-1)) hx hb dX1_clear_74 (by decide) ?_
        refine t_ist X hT mb1280 gb1280 rfl (by omega) (show (-2147483648) ≤ ((-1)).toInt ∧ ((-1)).toInt ≤ 2147483647 from (by decide)) dX1_clear_75 (fun F H locs hT v1281 h1v1281 h2v1281 => ?_)
        have qz1267 := (h2v1281 _ _).trans qz1267
        have qz1268 := (h2v1281 _ _).trans qz1268
        have qz1269 := (h2v1281 _ _).trans qz1269
        have qz1270 := (h2v1281 _ _).trans qz1270
        have qz1271 := (h2v1281 _ _).trans qz1271
        have qz1272 := (h2v1281 _ _).trans qz1272
        have hv1276 := (h2v1281 _ _).trans hv1276
        have hv1279 := (h2v1281 _ _).trans hv1279
        refine lv_aload_n hx hb dX1_clear_76 rfl (lv_at hl 0 rfl) ?_
        refine t_get (C := RX1) (T := TX1) (N := 20) X hT m0 g0 rfl rfl 19 (by decide) qw_58 inlX1 rfl dX1_clear_77 (fun v1282 hv1282 ov1282 => ?_)
        obtain ⟨b1283, rfl, mb1283, gb1283⟩ := okV_r ov1282
        have gb1283 : tag b1283 = 7 := by simpa using gb1283
        refine lv_iload_n hx hb dX1_clear_80 rfl (lv_at hl 1 rfl) ?_
        refine lv_iconst (v := (-1)) hx hb dX1_clear_81 (by decide) ?_
        refine t_ist X hT mb1283 gb1283 rfl (by omega) (show (-2147483648) ≤ ((-1)).toInt ∧ ((-1)).toInt ≤ 2147483647 from (by decide)) dX1_clear_82 (fun F H locs hT v1284 h1v1284 h2v1284 => ?_)
        have qz1267 := (h2v1284 _ _).trans qz1267
        have qz1268 := (h2v1284 _ _).trans qz1268
        have qz1269 := (h2v1284 _ _).trans qz1269
        have qz1270 := (h2v1284 _ _).trans qz1270
        have qz1271 := (h2v1284 _ _).trans qz1271
        have qz1272 := (h2v1284 _ _).trans qz1272
        have hv1276 := (h2v1284 _ _).trans hv1276
        have hv1279 := (h2v1284 _ _).trans hv1279
        have hv1282 := (h2v1284 _ _).trans hv1282
        obtain ⟨z1285, ez1285⟩ : ∃ y : Int32, y = z1266 + 1 := ⟨_, rfl⟩
        have hz1285 : z1285.toInt = z1266.toInt + 1 := ar_add ez1285 rfl (by decide : (1 : Int32).toInt = 1) (by omega) (by omega)
        refine lv_iinc (v := z1285) (lv' := [(1, .int z1285), (0, .ref p0)]) hx hb dX1_clear_83 hl (k := 1) rfl (by rw [ez1285]; rfl) (by decide) rfl (fun ls hl => ?_)
        refine lv_goto (tgt := 56) hx hb dX1_clear_86 (by decide) ?_
        exact ih56 z1285 z1267 z1268 z1269 z1270 z1271 z1272 _ _ _ _ (by omega) (by omega) (by omega) (by omega) (by omega) (by omega) (by omega) (by omega) hT qz1267 qz1268 qz1269 qz1270 qz1271 qz1272 (lv_sub hl [1, 0] rfl)
  have K32 : ∀ (n : Nat) (z1286 : Int32) (z1287 : Int32) (z1288 : Int32) (z1289 : Int32) (z1290 : Int32) (z1291 : Int32) (z1292 : Int32) (F : Nat → va_E) (H : Heap) (locs : List Loc) (ls : Array Slot), (144 - z1286.toInt < (n : Int)) → (0 ≤ z1286.toInt ∧ z1286.toInt ≤ 144) → (0 ≤ z1287.toInt ∧ z1287.toInt ≤ 0) → (0 ≤ z1288.toInt ∧ z1288.toInt ≤ 0) → (0 ≤ z1289.toInt ∧ z1289.toInt ≤ 0) → (0 ≤ z1290.toInt ∧ z1290.toInt ≤ 0) → (0 ≤ z1291.toInt ∧ z1291.toInt ≤ 0) → (0 ≤ z1292.toInt ∧ z1292.toInt ≤ 0) → TH G ttC A s tag L F H locs → fld F p0 0 = .int z1287 → fld F p0 1 = .int z1288 → fld F p0 8 = .int z1289 → fld F p0 10 = .int z1290 → fld F p0 14 = .int z1291 → fld F p0 16 = .int z1292 → lv_has ls 2 [(0, .ref p0), (1, .int z1286)] → W p l e { frames := 0, cells := 0, slots := 0, locals := 0 } s m args below meth c H locs 0 0 Q (F0 m 32 ls []) := by
    intro n
    induction n with
    | zero =>
      intro z1286 z1287 z1288 z1289 z1290 z1291 z1292 F H locs ls hn rz1286 rz1287 rz1288 rz1289 rz1290 rz1291 rz1292 hT qz1287 qz1288 qz1289 qz1290 qz1291 qz1292 hl
      exfalso
      omega
    | succ n ih32 =>
      intro z1286 z1287 z1288 z1289 z1290 z1291 z1292 F H locs ls hn rz1286 rz1287 rz1288 rz1289 rz1290 rz1291 rz1292 hT qz1287 qz1288 qz1289 qz1290 qz1291 qz1292 hl
      refine lv_iload_n hx hb dX1_clear_32 rfl (lv_at hl 1 rfl) ?_
      refine lv_aload_n hx hb dX1_clear_33 rfl (lv_at hl 0 rfl) ?_
      refine t_get (C := RX1) (T := TX1) (N := 20) X hT m0 g0 rfl rfl 7 (by decide) qw_50 inlX1 rfl dX1_clear_34 (fun v1293 hv1293 ov1293 => ?_)
      obtain ⟨b1294, rfl, mb1294, gb1294⟩ := okV_r ov1293
      have gb1294 : tag b1294 = 2 := by simpa using gb1294
      refine t_alen X hT mb1294 gb1294 rfl (by decide) dX1_clear_37 ?_
      refine lv_topi (fun z1295 ez1295 => ?_)
      obtain rfl : z1295 = 144 := ez1295.trans (by rfl)
      refine lv_icmp_ge (tgt := 54) hx hb dX1_clear_38 (by decide) (fun c1296 => ?_) (fun c1296 => ?_)
      · have w1297 := cv_le (by decide : (144 : Int32).toInt = 144) (rfl : z1286.toInt = z1286.toInt) c1296
        refine lv_iconst (v := 0) hx hb dX1_clear_54 (by decide) ?_
        refine lv_istore_n (lv' := [(1, .int 0), (0, .ref p0)]) hx hb dX1_clear_55 rfl hl (by decide) rfl (fun ls hl => ?_)
        have kk1298 : (0 : Int32).toInt = 0 := by decide
        exact K56 7 0 z1287 z1288 z1289 z1290 z1291 z1292 _ _ _ _ (by omega) (by decide) (by omega) (by omega) (by omega) (by omega) (by omega) (by omega) hT qz1287 qz1288 qz1289 qz1290 qz1291 qz1292 (lv_sub hl [1, 0] rfl)
      · have w1299 := cv_nle (by decide : (144 : Int32).toInt = 144) (rfl : z1286.toInt = z1286.toInt) c1296
        refine lv_aload_n hx hb dX1_clear_41 rfl (lv_at hl 0 rfl) ?_
        refine t_get (C := RX1) (T := TX1) (N := 20) X hT m0 g0 rfl rfl 7 (by decide) qw_50 inlX1 rfl dX1_clear_42 (fun v1300 hv1300 ov1300 => ?_)
        obtain rfl : v1300 = .ref b1294 := hv1300.symm.trans hv1293
        refine lv_iload_n hx hb dX1_clear_45 rfl (lv_at hl 1 rfl) ?_
        refine lv_iconst (v := 0) hx hb dX1_clear_46 (by decide) ?_
        refine t_zst X hT mb1294 gb1294 rfl (by omega) (show 0 ≤ (vp_nar .boolean 0).toInt ∧ (vp_nar .boolean 0).toInt ≤ 1 from (by decide)) dX1_clear_47 (fun F H locs hT v1301 h1v1301 h2v1301 => ?_)
        have qz1287 := (h2v1301 _ _).trans qz1287
        have qz1288 := (h2v1301 _ _).trans qz1288
        have qz1289 := (h2v1301 _ _).trans qz1289
        have qz1290 := (h2v1301 _ _).trans qz1290
        have qz1291 := (h2v1301 _ _).trans qz1291
        have qz1292 := (h2v1301 _ _).trans qz1292
        have hv1293 := (h2v1301 _ _).trans hv1293
        obtain ⟨z1302, ez1302⟩ : ∃ y : Int32, y = z1286 + 1 := ⟨_, rfl⟩
        have hz1302 : z1302.toInt = z1286.toInt + 1 := ar_add ez1302 rfl (by decide : (1 : Int32).toInt = 1) (by omega) (by omega)
        refine lv_iinc (v := z1302) (lv' := [(1, .int z1302), (0, .ref p0)]) hx hb dX1_clear_48 hl (k := 1) rfl (by rw [ez1302]; rfl) (by decide) rfl (fun ls hl => ?_)
        refine lv_goto (tgt := 32) hx hb dX1_clear_51 (by decide) ?_
        exact ih32 z1302 z1287 z1288 z1289 z1290 z1291 z1292 _ _ _ _ (by omega) (by omega) (by omega) (by omega) (by omega) (by omega) (by omega) (by omega) hT qz1287 qz1288 qz1289 qz1290 qz1291 qz1292 (lv_sub hl [1, 0] rfl)
  refine lv_aload_n hx hb dX1_clear_0 rfl (lv_at hl 0 rfl) ?_
  refine lv_iconst (v := 0) hx hb dX1_clear_1 (by decide) ?_
  refine t_put (C := RX1) (T := TX1) (N := 20) (v := .int 0) X hT m0 g0 rfl tyX1 tyX1_ok nmX1 rfl 0 (by decide) qw_177 inlX1 rfl (by first | rfl | decide) (by first | rfl | decide) rfl (⟨_, rfl, (by decide), (by decide)⟩) dX1_clear_2 (fun F H locs hT v1303 h1v1303 h2v1303 => ?_)
  refine lv_aload_n hx hb dX1_clear_5 rfl (lv_at hl 0 rfl) ?_
  refine lv_iconst (v := 0) hx hb dX1_clear_6 (by decide) ?_
  refine t_put (C := RX1) (T := TX1) (N := 20) (v := .int 0) X hT m0 g0 rfl tyX1 tyX1_ok nmX1 rfl 1 (by decide) qw_178 inlX1 rfl (by first | rfl | decide) (by first | rfl | decide) rfl (⟨_, rfl, (by decide), (by decide)⟩) dX1_clear_7 (fun F H locs hT v1304 h1v1304 h2v1304 => ?_)
  have v1303 := (h1v1304 _ _ (Or.inr (by decide))).trans v1303
  refine lv_aload_n hx hb dX1_clear_10 rfl (lv_at hl 0 rfl) ?_
  refine lv_iconst (v := 0) hx hb dX1_clear_11 (by decide) ?_
  refine t_put (C := RX1) (T := TX1) (N := 20) (v := .int 0) X hT m0 g0 rfl tyX1 tyX1_ok nmX1 rfl 8 (by decide) qw_179 inlX1 rfl (by first | rfl | decide) (by first | rfl | decide) rfl (⟨_, rfl, (by decide), (by decide)⟩) dX1_clear_12 (fun F H locs hT v1305 h1v1305 h2v1305 => ?_)
  have v1303 := (h1v1305 _ _ (Or.inr (by decide))).trans v1303
  have v1304 := (h1v1305 _ _ (Or.inr (by decide))).trans v1304
  refine lv_aload_n hx hb dX1_clear_15 rfl (lv_at hl 0 rfl) ?_
  refine lv_iconst (v := 0) hx hb dX1_clear_16 (by decide) ?_
  refine t_put (C := RX1) (T := TX1) (N := 20) (v := .int 0) X hT m0 g0 rfl tyX1 tyX1_ok nmX1 rfl 10 (by decide) qw_180 inlX1 rfl (by first | rfl | decide) (by first | rfl | decide) rfl (⟨_, rfl, (by decide), (by decide)⟩) dX1_clear_17 (fun F H locs hT v1306 h1v1306 h2v1306 => ?_)
  have v1303 := (h1v1306 _ _ (Or.inr (by decide))).trans v1303
  have v1304 := (h1v1306 _ _ (Or.inr (by decide))).trans v1304
  have v1305 := (h1v1306 _ _ (Or.inr (by decide))).trans v1305
  refine lv_aload_n hx hb dX1_clear_20 rfl (lv_at hl 0 rfl) ?_
  refine lv_iconst (v := 0) hx hb dX1_clear_21 (by decide) ?_
  refine t_put (C := RX1) (T := TX1) (N := 20) (v := .int 0) X hT m0 g0 rfl tyX1 tyX1_ok nmX1 rfl 14 (by decide) qw_181 inlX1 rfl (by first | rfl | decide) (by first | rfl | decide) rfl (⟨_, rfl, (by decide), (by decide)⟩) dX1_clear_22 (fun F H locs hT v1307 h1v1307 h2v1307 => ?_)
  have v1303 := (h1v1307 _ _ (Or.inr (by decide))).trans v1303
  have v1304 := (h1v1307 _ _ (Or.inr (by decide))).trans v1304
  have v1305 := (h1v1307 _ _ (Or.inr (by decide))).trans v1305
  have v1306 := (h1v1307 _ _ (Or.inr (by decide))).trans v1306
  refine lv_aload_n hx hb dX1_clear_25 rfl (lv_at hl 0 rfl) ?_
  refine lv_iconst (v := 0) hx hb dX1_clear_26 (by decide) ?_
  refine t_put (C := RX1) (T := TX1) (N := 20) (v := .int 0) X hT m0 g0 rfl tyX1 tyX1_ok nmX1 rfl 16 (by decide) qw_182 inlX1 rfl (by first | rfl | decide) (by first | rfl | decide) rfl (⟨_, rfl, (by decide), (by decide)⟩) dX1_clear_27 (fun F H locs hT v1308 h1v1308 h2v1308 => ?_)
  have v1303 := (h1v1308 _ _ (Or.inr (by decide))).trans v1303
  have v1304 := (h1v1308 _ _ (Or.inr (by decide))).trans v1304
  have v1305 := (h1v1308 _ _ (Or.inr (by decide))).trans v1305
  have v1306 := (h1v1308 _ _ (Or.inr (by decide))).trans v1306
  have v1307 := (h1v1308 _ _ (Or.inr (by decide))).trans v1307
  refine lv_iconst (v := 0) hx hb dX1_clear_30 (by decide) ?_
  refine lv_istore_n (lv' := [(1, .int 0), (0, .ref p0)]) hx hb dX1_clear_31 rfl hl (by decide) rfl (fun ls hl => ?_)
  have kk1309 : (0 : Int32).toInt = 0 := by decide
  exact K32 145 0 0 0 0 0 0 0 _ _ _ _ (by omega) (by decide) (by decide) (by decide) (by decide) (by decide) (by decide) (by decide) hT v1303 v1304 v1305 v1306 v1307 v1308 (lv_sub hl [1, 0] rfl)
set_option maxHeartbeats 4000000 in
set_option maxRecDepth 100000 in
theorem kt12_X1_apart (l : Launch) (G : KG) (tag : Nat → Nat) (L : List Nat) (F : Nat → va_E) (ho : okT G ttC tag L F) (p0 : Nat) (p1 : Int32) (p2 : Int32) (p3 : Int32) (m0 : p0 ∈ L) (g0 : tag p0 = 18) (h1 : 0 ≤ p1.toInt ∧ p1.toInt ≤ 3) : TMi l yX1_apart cX1_apart 6 (some .int) { frames := 0, cells := 0, slots := 0, locals := 0 } G ttC tag L F [.ref p0, .int p1, .int p2, .int p3] (fun r F1 => F1 = F ∧ ((-2147483648) ≤ r.toInt ∧ r.toInt ≤ 2147483647)) := by
  refine t_bodyi (y := yX1_apart) (cd := cX1_apart) (mL := 6) (rt := (some .int)) (rm := { frames := 0, cells := 0, slots := 0, locals := 0 }) (av := [.ref p0, .int p1, .int p2, .int p3]) (by decide) (Nat.le_of_ble_eq_true rfl) ho ?_
  intro p e s m args below meth c ls A Q hQ X hT hl
  have hx := X.1.1
  have hb := X.1.2.1
  have hl : lv_has ls 6 [(0, .ref p0), (1, .int p1), (2, .int p2), (3, .int p3)] := hl
  have K60 : ∀ (z1439 : Int32) (z1440 : Int32) (H : Heap) (locs : List Loc) (ls : Array Slot), TH G ttC A s tag L F H locs → lv_has ls 6 [(0, .ref p0), (1, .int p1), (2, .int p2), (3, .int p3), (4, .int z1439)] → W p l e { frames := 0, cells := 0, slots := 0, locals := 0 } s m args below meth c H locs 0 0 Q (F0 m 60 ls [.int z1440]) := by
    intro z1439 z1440 H locs ls hT hl
    refine lv_istore (lv' := [(5, .int z1440), (0, .ref p0), (1, .int p1), (2, .int p2), (3, .int p3), (4, .int z1439)]) hx hb dX1_apart_60 hl (by decide) rfl (fun ls hl => ?_)
    refine lv_iload hx hb dX1_apart_62 (lv_at hl 5 rfl) ?_
    refine lv_iload hx hb dX1_apart_64 (lv_at hl 0 rfl) ?_
    refine lv_icmp_ge (tgt := 74) hx hb dX1_apart_66 (by decide) (fun c1441 => ?_) (fun c1441 => ?_)
    · have w1442 := cv_le (rfl : z1440.toInt = z1440.toInt) (rfl : z1439.toInt = z1439.toInt) c1441
      refine lv_iload hx hb dX1_apart_74 (lv_at hl 5 rfl) ?_
      exact t_iret hQ X hT (⟨rfl, rg_all _⟩) (Nat.le_of_ble_eq_true rfl) (Nat.le_of_ble_eq_true rfl) dX1_apart_76
    · have w1443 := cv_nle (rfl : z1440.toInt = z1440.toInt) (rfl : z1439.toInt = z1439.toInt) c1441
      refine lv_iload hx hb dX1_apart_69 (lv_at hl 0 rfl) ?_
      refine lv_goto (tgt := 76) hx hb dX1_apart_71 (by decide) ?_
      exact t_iret hQ X hT (⟨rfl, rg_all _⟩) (Nat.le_of_ble_eq_true rfl) (Nat.le_of_ble_eq_true rfl) dX1_apart_76
  have K29 : ∀ (z1444 : Int32) (H : Heap) (locs : List Loc) (ls : Array Slot), TH G ttC A s tag L F H locs → lv_has ls 6 [(0, .ref p0), (1, .int p1), (2, .int p2), (3, .int p3)] → W p l e { frames := 0, cells := 0, slots := 0, locals := 0 } s m args below meth c H locs 0 0 Q (F0 m 29 ls [.int z1444]) := by
    intro z1444 H locs ls hT hl
    refine lv_istore (lv' := [(4, .int z1444), (0, .ref p0), (1, .int p1), (2, .int p2), (3, .int p3)]) hx hb dX1_apart_29 hl (by decide) rfl (fun ls hl => ?_)
    refine lv_iload_n hx hb dX1_apart_31 rfl (lv_at hl 4 rfl) ?_
    refine lv_aload_n hx hb dX1_apart_32 rfl (lv_at hl 1 rfl) ?_
    refine t_get (C := RX1) (T := TX1) (N := 20) X hT m0 g0 rfl rfl 12 (by decide) qw_53 inlX1 rfl dX1_apart_33 (fun v1445 hv1445 ov1445 => ?_)
    obtain ⟨b1446, rfl, mb1446, gb1446⟩ := okV_r ov1445
    have gb1446 : tag b1446 = 4 := by simpa using gb1446
    refine lv_iload_n hx hb dX1_apart_36 rfl (lv_at hl 2 rfl) ?_
    refine t_ild X hT mb1446 gb1446 rfl (by omega) dX1_apart_37 (fun z1447 vz1447 rz1447 => ?_)
    have rz1447 : 0 ≤ z1447.toInt ∧ z1447.toInt ≤ 11 := rz1447
    refine lv_icmp_ge (tgt := 52) hx hb dX1_apart_38 (by decide) (fun c1448 => ?_) (fun c1448 => ?_)
    · have w1449 := cv_le (rfl : z1447.toInt = z1447.toInt) (rfl : p3.toInt = p3.toInt) c1448
      refine lv_iload_n hx hb dX1_apart_52 rfl (lv_at hl 4 rfl) ?_
      refine lv_aload_n hx hb dX1_apart_53 rfl (lv_at hl 1 rfl) ?_
      refine t_get (C := RX1) (T := TX1) (N := 20) X hT m0 g0 rfl rfl 12 (by decide) qw_53 inlX1 rfl dX1_apart_54 (fun v1450 hv1450 ov1450 => ?_)
      obtain rfl : v1450 = .ref b1446 := hv1450.symm.trans hv1445
      refine lv_iload_n hx hb dX1_apart_57 rfl (lv_at hl 2 rfl) ?_
      refine t_ild X hT mb1446 gb1446 rfl (by omega) dX1_apart_58 (fun z1451 vz1451 rz1451 => ?_)
      obtain rfl : z1451 = z1447 := vz1451.symm.trans vz1447
      refine lv_isub hx hb dX1_apart_59 ?_
      refine lv_topi (fun z1452 ez1452 => ?_)
      have hz1452 : z1452.toInt = p3.toInt - z1447.toInt := ar_sub ez1452 (rfl : p3.toInt = p3.toInt) (rfl : z1447.toInt = z1447.toInt) (by omega) (by omega)
      have rz1452 : (-11) ≤ z1452.toInt ∧ z1452.toInt ≤ 2147483647 := by omega
      exact K60 z1444 z1452 _ _ _  hT  (lv_sub hl [1, 2, 3, 4, 0] rfl)
    · have w1453 := cv_nle (rfl : z1447.toInt = z1447.toInt) (rfl : p3.toInt = p3.toInt) c1448
      refine lv_aload_n hx hb dX1_apart_41 rfl (lv_at hl 1 rfl) ?_
      refine t_get (C := RX1) (T := TX1) (N := 20) X hT m0 g0 rfl rfl 12 (by decide) qw_53 inlX1 rfl dX1_apart_42 (fun v1454 hv1454 ov1454 => ?_)
      obtain rfl : v1454 = .ref b1446 := hv1454.symm.trans hv1445
      refine lv_iload_n hx hb dX1_apart_45 rfl (lv_at hl 2 rfl) ?_
      refine t_ild X hT mb1446 gb1446 rfl (by omega) dX1_apart_46 (fun z1455 vz1455 rz1455 => ?_)
      obtain rfl : z1455 = z1447 := vz1455.symm.trans vz1447
      refine lv_iload_n hx hb dX1_apart_47 rfl (lv_at hl 4 rfl) ?_
      refine lv_isub hx hb dX1_apart_48 ?_
      refine lv_topi (fun z1456 ez1456 => ?_)
      have rz1456 := rg_all z1456
      refine lv_goto (tgt := 60) hx hb dX1_apart_49 (by decide) ?_
      exact K60 z1444 z1456 _ _ _  hT  (lv_sub hl [1, 2, 3, 4, 0] rfl)
  refine lv_iload_n hx hb dX1_apart_0 rfl (lv_at hl 2 rfl) ?_
  refine lv_aload_n hx hb dX1_apart_1 rfl (lv_at hl 0 rfl) ?_
  refine t_get (C := RX1) (T := TX1) (N := 20) X hT m0 g0 rfl rfl 11 (by decide) qw_52 inlX1 rfl dX1_apart_2 (fun v1457 hv1457 ov1457 => ?_)
  obtain ⟨b1458, rfl, mb1458, gb1458⟩ := okV_r ov1457
  have gb1458 : tag b1458 = 4 := by simpa using gb1458
  refine lv_iload_n hx hb dX1_apart_5 rfl (lv_at hl 1 rfl) ?_
  refine t_ild X hT mb1458 gb1458 rfl (by omega) dX1_apart_6 (fun z1459 vz1459 rz1459 => ?_)
  have rz1459 : 0 ≤ z1459.toInt ∧ z1459.toInt ≤ 11 := rz1459
  refine lv_icmp_ge (tgt := 21) hx hb dX1_apart_7 (by decide) (fun c1460 => ?_) (fun c1460 => ?_)
  · have w1461 := cv_le (rfl : z1459.toInt = z1459.toInt) (rfl : p2.toInt = p2.toInt) c1460
    refine lv_iload_n hx hb dX1_apart_21 rfl (lv_at hl 2 rfl) ?_
    refine lv_aload_n hx hb dX1_apart_22 rfl (lv_at hl 0 rfl) ?_
    refine t_get (C := RX1) (T := TX1) (N := 20) X hT m0 g0 rfl rfl 11 (by decide) qw_52 inlX1 rfl dX1_apart_23 (fun v1462 hv1462 ov1462 => ?_)
    obtain rfl : v1462 = .ref b1458 := hv1462.symm.trans hv1457
    refine lv_iload_n hx hb dX1_apart_26 rfl (lv_at hl 1 rfl) ?_
    refine t_ild X hT mb1458 gb1458 rfl (by omega) dX1_apart_27 (fun z1463 vz1463 rz1463 => ?_)
    obtain rfl : z1463 = z1459 := vz1463.symm.trans vz1459
    refine lv_isub hx hb dX1_apart_28 ?_
    refine lv_topi (fun z1464 ez1464 => ?_)
    have hz1464 : z1464.toInt = p2.toInt - z1459.toInt := ar_sub ez1464 (rfl : p2.toInt = p2.toInt) (rfl : z1459.toInt = z1459.toInt) (by omega) (by omega)
    have rz1464 : (-11) ≤ z1464.toInt ∧ z1464.toInt ≤ 2147483647 := by omega
    exact K29 z1464 _ _ _  hT  (lv_sub hl [0, 1, 2, 3] rfl)
  · have w1465 := cv_nle (rfl : z1459.toInt = z1459.toInt) (rfl : p2.toInt = p2.toInt) c1460
    refine lv_aload_n hx hb dX1_apart_10 rfl (lv_at hl 0 rfl) ?_
    refine t_get (C := RX1) (T := TX1) (N := 20) X hT m0 g0 rfl rfl 11 (by decide) qw_52 inlX1 rfl dX1_apart_11 (fun v1466 hv1466 ov1466 => ?_)
    obtain rfl : v1466 = .ref b1458 := hv1466.symm.trans hv1457
    refine lv_iload_n hx hb dX1_apart_14 rfl (lv_at hl 1 rfl) ?_
    refine t_ild X hT mb1458 gb1458 rfl (by omega) dX1_apart_15 (fun z1467 vz1467 rz1467 => ?_)
    obtain rfl : z1467 = z1459 := vz1467.symm.trans vz1459
    refine lv_iload_n hx hb dX1_apart_16 rfl (lv_at hl 2 rfl) ?_
    refine lv_isub hx hb dX1_apart_17 ?_
    refine lv_topi (fun z1468 ez1468 => ?_)
    have rz1468 := rg_all z1468
    refine lv_goto (tgt := 29) hx hb dX1_apart_18 (by decide) ?_
    exact K29 z1468 _ _ _  hT  (lv_sub hl [0, 1, 2, 3] rfl)
