set_option maxHeartbeats 4000000 in
set_option maxRecDepth 100000 in
theorem kt27_X4_doorPlace (l : Launch) (G : KG) (tag : Nat → Nat) (L : List Nat) (F : Nat → va_E) (ho : okT G ttC tag L F) (p0 : Int32) (p1 : Int32) (p2 : Int32)  : TMi l yX4_doorPlace cX4_doorPlace 3 (some .int) { frames := 0, cells := 0, slots := 0, locals := 0 } G ttC tag L F [.int p0, .int p1, .int p2] (fun r F1 => F1 = F ∧ ((-2147483648) ≤ r.toInt ∧ r.toInt ≤ 2147483647)) := by
  refine t_bodyi (y := yX4_doorPlace) (cd := cX4_doorPlace) (mL := 3) (rt := (some .int)) (rm := { frames := 0, cells := 0, slots := 0, locals := 0 }) (av := [.int p0, .int p1, .int p2]) (by decide) (Nat.le_of_ble_eq_true rfl) ho ?_
  intro p e s m args below meth c ls A Q hQ X hT hl
  have hx := X.1.1
  have hb := X.1.2.1
  have hl : lv_has ls 3 [(0, .int p0), (1, .int p1), (2, .int p2)] := hl
  refine lv_iload_n hx hb dX4_doorPlace_0 rfl (lv_at hl 1 rfl) ?_
  by_cases c3075 : p1 = 0
  · have w3076 := cv_eq (rfl : p1.toInt = p1.toInt) (by decide : (0 : Int32).toInt = 0) c3075
    refine lv_tableIn (off := 27) (tgt := 28) hx hb dX4_doorPlace_1 (by rw [c3075]; decide) (by rw [c3075]; decide) (by rw [c3075]; decide) (by decide) ?_
    refine lv_iconst (v := 1) hx hb dX4_doorPlace_28 (by decide) ?_
    refine lv_iload_n hx hb dX4_doorPlace_29 rfl (lv_at hl 2 rfl) ?_
    refine lv_iadd hx hb dX4_doorPlace_30 ?_
    refine lv_topi (fun z3077 ez3077 => ?_)
    have rz3077 := rg_all z3077
    exact t_iret hQ X hT (⟨rfl, rg_all _⟩) (Nat.le_of_ble_eq_true rfl) (Nat.le_of_ble_eq_true rfl) dX4_doorPlace_31
  have w3078 := cv_ne (rfl : p1.toInt = p1.toInt) (by decide : (0 : Int32).toInt = 0) c3075
  by_cases c3079 : p1 = 1
  · have w3080 := cv_eq (rfl : p1.toInt = p1.toInt) (by decide : (1 : Int32).toInt = 1) c3079
    refine lv_tableIn (off := 31) (tgt := 32) hx hb dX4_doorPlace_1 (by rw [c3079]; decide) (by rw [c3079]; decide) (by rw [c3079]; decide) (by decide) ?_
    refine lv_iconst (v := 2) hx hb dX4_doorPlace_32 (by decide) ?_
    refine lv_iload_n hx hb dX4_doorPlace_33 rfl (lv_at hl 0 rfl) ?_
    refine lv_imul hx hb dX4_doorPlace_34 ?_
    refine lv_topi (fun z3081 ez3081 => ?_)
    have rz3081 := rg_all z3081
    refine lv_iconst (v := 1) hx hb dX4_doorPlace_35 (by decide) ?_
    refine lv_iadd hx hb dX4_doorPlace_36 ?_
    refine lv_topi (fun z3082 ez3082 => ?_)
    have rz3082 := rg_all z3082
    refine lv_iload_n hx hb dX4_doorPlace_37 rfl (lv_at hl 2 rfl) ?_
    refine lv_iadd hx hb dX4_doorPlace_38 ?_
    refine lv_topi (fun z3083 ez3083 => ?_)
    have rz3083 := rg_all z3083
    exact t_iret hQ X hT (⟨rfl, rg_all _⟩) (Nat.le_of_ble_eq_true rfl) (Nat.le_of_ble_eq_true rfl) dX4_doorPlace_39
  have w3084 := cv_ne (rfl : p1.toInt = p1.toInt) (by decide : (1 : Int32).toInt = 1) c3079
  by_cases c3085 : p1 = 2
  · have w3086 := cv_eq (rfl : p1.toInt = p1.toInt) (by decide : (2 : Int32).toInt = 2) c3085
    refine lv_tableIn (off := 39) (tgt := 40) hx hb dX4_doorPlace_1 (by rw [c3085]; decide) (by rw [c3085]; decide) (by rw [c3085]; decide) (by decide) ?_
    refine lv_bipush (v := 6) hx hb dX4_doorPlace_40 (by decide) ?_
    refine lv_iload_n hx hb dX4_doorPlace_42 rfl (lv_at hl 0 rfl) ?_
    refine lv_imul hx hb dX4_doorPlace_43 ?_
    refine lv_topi (fun z3087 ez3087 => ?_)
    have rz3087 := rg_all z3087
    refine lv_iconst (v := 1) hx hb dX4_doorPlace_44 (by decide) ?_
    refine lv_isub hx hb dX4_doorPlace_45 ?_
    refine lv_topi (fun z3088 ez3088 => ?_)
    have rz3088 := rg_all z3088
    refine lv_iload_n hx hb dX4_doorPlace_46 rfl (lv_at hl 2 rfl) ?_
    refine lv_isub hx hb dX4_doorPlace_47 ?_
    refine lv_topi (fun z3089 ez3089 => ?_)
    have rz3089 := rg_all z3089
    exact t_iret hQ X hT (⟨rfl, rg_all _⟩) (Nat.le_of_ble_eq_true rfl) (Nat.le_of_ble_eq_true rfl) dX4_doorPlace_48
  have w3090 := cv_ne (rfl : p1.toInt = p1.toInt) (by decide : (2 : Int32).toInt = 2) c3085
  refine lv_tableOut (tgt := 49) hx hb dX4_doorPlace_1 (by omega) (by decide) ?_
  refine lv_bipush (v := 8) hx hb dX4_doorPlace_49 (by decide) ?_
  refine lv_iload_n hx hb dX4_doorPlace_51 rfl (lv_at hl 0 rfl) ?_
  refine lv_imul hx hb dX4_doorPlace_52 ?_
  refine lv_topi (fun z3091 ez3091 => ?_)
  have rz3091 := rg_all z3091
  refine lv_iconst (v := 1) hx hb dX4_doorPlace_53 (by decide) ?_
  refine lv_isub hx hb dX4_doorPlace_54 ?_
  refine lv_topi (fun z3092 ez3092 => ?_)
  have rz3092 := rg_all z3092
  refine lv_iload_n hx hb dX4_doorPlace_55 rfl (lv_at hl 2 rfl) ?_
  refine lv_isub hx hb dX4_doorPlace_56 ?_
  refine lv_topi (fun z3093 ez3093 => ?_)
  have rz3093 := rg_all z3093
  exact t_iret hQ X hT (⟨rfl, rg_all _⟩) (Nat.le_of_ble_eq_true rfl) (Nat.le_of_ble_eq_true rfl) dX4_doorPlace_57
set_option maxHeartbeats 4000000 in
set_option maxRecDepth 100000 in
theorem kt28_X7_doorOf (l : Launch) (G : KG) (tag : Nat → Nat) (L : List Nat) (F : Nat → va_E) (ho : okT G ttC tag L F) (p0 : Nat) (p1 : Int32) (p2 : Int32) (m0 : p0 ∈ L) (g0 : tag p0 = 19) : TMi l yX7_doorOf cX7_doorOf 3 (some .int) { frames := 1, cells := 0, slots := 0, locals := 24 } G ttC tag L F [.ref p0, .int p1, .int p2] (fun r F1 => F1 = F ∧ ((-2147483648) ≤ r.toInt ∧ r.toInt ≤ 2147483647)) := by
  refine t_bodyi (y := yX7_doorOf) (cd := cX7_doorOf) (mL := 3) (rt := (some .int)) (rm := { frames := 1, cells := 0, slots := 0, locals := 24 }) (av := [.ref p0, .int p1, .int p2]) (by decide) (Nat.le_of_ble_eq_true rfl) ho ?_
  intro p e s m args below meth c ls A Q hQ X hT hl
  have hx := X.1.1
  have hb := X.1.2.1
  have hl : lv_has ls 3 [(0, .ref p0), (1, .int p1), (2, .int p2)] := hl
  refine lv_iload_n hx hb dX7_doorOf_0 rfl (lv_at hl 2 rfl) ?_
  refine lv_aload_n hx hb dX7_doorOf_1 rfl (lv_at hl 0 rfl) ?_
  refine lv_iload_n hx hb dX7_doorOf_2 rfl (lv_at hl 1 rfl) ?_
  refine lv_iload_n hx hb dX7_doorOf_3 rfl (lv_at hl 2 rfl) ?_
  refine lv_iconst (v := 1) hx hb dX7_doorOf_4 (by decide) ?_
  refine t_cVi (n := 3) (C := RX7) (T := TX7) (N := 7) (As := [.int p1, .int p2, .int 1]) (rest := [.int p2]) X hT (kt19_X7_partOf l G tag L F hT.2.2.2 p0 p1 p2 1 m0 g0) m0 g0 rfl rfl qw_856 qw_778 qw_779 qw_22 qw_780 ⟨rfl, by decide +kernel, by decide +kernel, by decide +kernel⟩ ⟨Nat.le_of_ble_eq_true rfl, Nat.le_of_ble_eq_true rfl⟩ hl rfl rfl (Nat.le_of_ble_eq_true rfl) dX7_doorOf_5 ⟨Nat.le_of_ble_eq_true rfl, Nat.le_of_ble_eq_true rfl⟩ (fun z3104 F9 H locs hT hz3104 => ?_)
  obtain ⟨fz3104, hz3104⟩ := hz3104
  rw [fz3104] at hT
  refine lv_aload_n hx hb dX7_doorOf_8 rfl (lv_at hl 0 rfl) ?_
  refine lv_iload_n hx hb dX7_doorOf_9 rfl (lv_at hl 1 rfl) ?_
  refine lv_iload_n hx hb dX7_doorOf_10 rfl (lv_at hl 2 rfl) ?_
  refine lv_iconst (v := 2) hx hb dX7_doorOf_11 (by decide) ?_
  refine t_cVi (n := 3) (C := RX7) (T := TX7) (N := 7) (As := [.int p1, .int p2, .int 2]) (rest := [.int z3104, .int p2]) X hT (kt19_X7_partOf l G tag L F hT.2.2.2 p0 p1 p2 2 m0 g0) m0 g0 rfl rfl qw_856 qw_778 qw_779 qw_22 qw_780 ⟨rfl, by decide +kernel, by decide +kernel, by decide +kernel⟩ ⟨Nat.le_of_ble_eq_true rfl, Nat.le_of_ble_eq_true rfl⟩ hl rfl rfl (Nat.le_of_ble_eq_true rfl) dX7_doorOf_12 ⟨Nat.le_of_ble_eq_true rfl, Nat.le_of_ble_eq_true rfl⟩ (fun z3105 F9 H locs hT hz3105 => ?_)
  obtain ⟨fz3105, hz3105⟩ := hz3105
  rw [fz3105] at hT
  refine t_cSi (n := 3) (As := [.int p2, .int z3104, .int z3105]) (rest := []) X hT (kt27_X4_doorPlace l G tag L F hT.2.2.2 p2 z3104 z3105 ) qw_921 qw_785 qw_409 qw_786 ⟨by decide +kernel, by decide +kernel, by decide +kernel⟩ ⟨Nat.le_of_ble_eq_true rfl, Nat.le_of_ble_eq_true rfl⟩ hl rfl rfl (Nat.le_of_ble_eq_true rfl) dX7_doorOf_15 ⟨Nat.le_of_ble_eq_true rfl, Nat.le_of_ble_eq_true rfl⟩ (fun z3106 F9 H locs hT hz3106 => ?_)
  obtain ⟨fz3106, hz3106⟩ := hz3106
  rw [fz3106] at hT
  exact t_iret hQ X hT (⟨rfl, rg_all _⟩) (Nat.le_of_ble_eq_true rfl) (Nat.le_of_ble_eq_true rfl) dX7_doorOf_18
set_option maxHeartbeats 4000000 in
set_option maxRecDepth 100000 in
theorem kt29_X7_doorOf (l : Launch) (G : KG) (tag : Nat → Nat) (L : List Nat) (F : Nat → va_E) (ho : okT G ttC tag L F) (p0 : Nat) (p1 : Int32) (p2 : Int32) (m0 : p0 ∈ L) (g0 : tag p0 = 19) : TMi l yX7_doorOf cX7_doorOf 3 (some .int) { frames := 1, cells := 0, slots := 0, locals := 24 } G ttC tag L F [.ref p0, .int p1, .int p2] (fun r F1 => F1 = F ∧ ((-2147483648) ≤ r.toInt ∧ r.toInt ≤ 2147483647)) := by
  refine t_bodyi (y := yX7_doorOf) (cd := cX7_doorOf) (mL := 3) (rt := (some .int)) (rm := { frames := 1, cells := 0, slots := 0, locals := 24 }) (av := [.ref p0, .int p1, .int p2]) (by decide) (Nat.le_of_ble_eq_true rfl) ho ?_
  intro p e s m args below meth c ls A Q hQ X hT hl
  have hx := X.1.1
  have hb := X.1.2.1
  have hl : lv_has ls 3 [(0, .ref p0), (1, .int p1), (2, .int p2)] := hl
  refine lv_iload_n hx hb dX7_doorOf_0 rfl (lv_at hl 2 rfl) ?_
  refine lv_aload_n hx hb dX7_doorOf_1 rfl (lv_at hl 0 rfl) ?_
  refine lv_iload_n hx hb dX7_doorOf_2 rfl (lv_at hl 1 rfl) ?_
  refine lv_iload_n hx hb dX7_doorOf_3 rfl (lv_at hl 2 rfl) ?_
  refine lv_iconst (v := 1) hx hb dX7_doorOf_4 (by decide) ?_
  refine t_cVi (n := 3) (C := RX7) (T := TX7) (N := 7) (As := [.int p1, .int p2, .int 1]) (rest := [.int p2]) X hT (kt19_X7_partOf l G tag L F hT.2.2.2 p0 p1 p2 1 m0 g0) m0 g0 rfl rfl qw_856 qw_778 qw_779 qw_22 qw_780 ⟨rfl, by decide +kernel, by decide +kernel, by decide +kernel⟩ ⟨Nat.le_of_ble_eq_true rfl, Nat.le_of_ble_eq_true rfl⟩ hl rfl rfl (Nat.le_of_ble_eq_true rfl) dX7_doorOf_5 ⟨Nat.le_of_ble_eq_true rfl, Nat.le_of_ble_eq_true rfl⟩ (fun z3119 F9 H locs hT hz3119 => ?_)
  obtain ⟨fz3119, hz3119⟩ := hz3119
  rw [fz3119] at hT
  refine lv_aload_n hx hb dX7_doorOf_8 rfl (lv_at hl 0 rfl) ?_
  refine lv_iload_n hx hb dX7_doorOf_9 rfl (lv_at hl 1 rfl) ?_
  refine lv_iload_n hx hb dX7_doorOf_10 rfl (lv_at hl 2 rfl) ?_
  refine lv_iconst (v := 2) hx hb dX7_doorOf_11 (by decide) ?_
  refine t_cVi (n := 3) (C := RX7) (T := TX7) (N := 7) (As := [.int p1, .int p2, .int 2]) (rest := [.int z3119, .int p2]) X hT (kt19_X7_partOf l G tag L F hT.2.2.2 p0 p1 p2 2 m0 g0) m0 g0 rfl rfl qw_856 qw_778 qw_779 qw_22 qw_780 ⟨rfl, by decide +kernel, by decide +kernel, by decide +kernel⟩ ⟨Nat.le_of_ble_eq_true rfl, Nat.le_of_ble_eq_true rfl⟩ hl rfl rfl (Nat.le_of_ble_eq_true rfl) dX7_doorOf_12 ⟨Nat.le_of_ble_eq_true rfl, Nat.le_of_ble_eq_true rfl⟩ (fun z3120 F9 H locs hT hz3120 => ?_)
  obtain ⟨fz3120, hz3120⟩ := hz3120
  rw [fz3120] at hT
  refine t_cSi (n := 3) (As := [.int p2, .int z3119, .int z3120]) (rest := []) X hT (kt27_X4_doorPlace l G tag L F hT.2.2.2 p2 z3119 z3120 ) qw_921 qw_785 qw_409 qw_786 ⟨by decide +kernel, by decide +kernel, by decide +kernel⟩ ⟨Nat.le_of_ble_eq_true rfl, Nat.le_of_ble_eq_true rfl⟩ hl rfl rfl (Nat.le_of_ble_eq_true rfl) dX7_doorOf_15 ⟨Nat.le_of_ble_eq_true rfl, Nat.le_of_ble_eq_true rfl⟩ (fun z3121 F9 H locs hT hz3121 => ?_)
  obtain ⟨fz3121, hz3121⟩ := hz3121
  rw [fz3121] at hT
  exact t_iret hQ X hT (⟨rfl, rg_all _⟩) (Nat.le_of_ble_eq_true rfl) (Nat.le_of_ble_eq_true rfl) dX7_doorOf_18
set_option maxHeartbeats 4000000 in
set_option maxRecDepth 100000 in
theorem kt30_X4_inFront (l : Launch) (G : KG) (tag : Nat → Nat) (L : List Nat) (F : Nat → va_E) (ho : okT G ttC tag L F) (p0 : Int32) (p1 : Int32)  : TMi l yX4_inFront cX4_inFront 4 (some .int) { frames := 0, cells := 0, slots := 0, locals := 0 } G ttC tag L F [.int p0, .int p1] (fun r F1 => F1 = F ∧ ((-2147483648) ≤ r.toInt ∧ r.toInt ≤ 2147483647)) := by
  refine t_bodyi (y := yX4_inFront) (cd := cX4_inFront) (mL := 4) (rt := (some .int)) (rm := { frames := 0, cells := 0, slots := 0, locals := 0 }) (av := [.int p0, .int p1]) (by decide) (Nat.le_of_ble_eq_true rfl) ho ?_
  intro p e s m args below meth c ls A Q hQ X hT hl
  have hx := X.1.1
  have hb := X.1.2.1
  have hl : lv_has ls 4 [(0, .int p0), (1, .int p1)] := hl
  refine lv_iload_n hx hb dX4_inFront_0 rfl (lv_at hl 0 rfl) ?_
  refine lv_iconst (v := 1) hx hb dX4_inFront_1 (by decide) ?_
  refine lv_icmp_ge (tgt := 7) hx hb dX4_inFront_2 (by decide) (fun c3174 => ?_) (fun c3174 => ?_)
  · have w3175 := cv_le (by decide : (1 : Int32).toInt = 1) (rfl : p0.toInt = p0.toInt) c3174
    refine lv_iload_n hx hb dX4_inFront_7 rfl (lv_at hl 1 rfl) ?_
    refine lv_iconst (v := 2) hx hb dX4_inFront_8 (by decide) ?_
    refine lv_iload_n hx hb dX4_inFront_9 rfl (lv_at hl 0 rfl) ?_
    refine lv_imul hx hb dX4_inFront_10 ?_
    refine lv_topi (fun z3176 ez3176 => ?_)
    have rz3176 := rg_all z3176
    refine lv_idiv hx hb dX4_inFront_11 (mul2_ne ez3176 (by omega)) ?_
    refine lv_topi (fun z3177 ez3177 => ?_)
    have rz3177 := rg_all z3177
    refine lv_istore_n (lv' := [(2, .int z3177), (0, .int p0), (1, .int p1)]) hx hb dX4_inFront_12 rfl hl (by decide) rfl (fun ls hl => ?_)
    refine lv_iload_n hx hb dX4_inFront_13 rfl (lv_at hl 2 rfl) ?_
    refine lv_iconst (v := 2) hx hb dX4_inFront_14 (by decide) ?_
    refine lv_iload_n hx hb dX4_inFront_15 rfl (lv_at hl 1 rfl) ?_
    refine lv_imul hx hb dX4_inFront_16 ?_
    refine lv_topi (fun z3178 ez3178 => ?_)
    have rz3178 := rg_all z3178
    refine lv_irem hx hb dX4_inFront_17 (mul2_ne ez3178 (by omega)) ?_
    refine lv_topi (fun z3179 ez3179 => ?_)
    have rz3179 := rg_all z3179
    refine lv_istore_n (lv' := [(3, .int z3179), (2, .int z3177), (0, .int p0), (1, .int p1)]) hx hb dX4_inFront_18 rfl hl (by decide) rfl (fun ls hl => ?_)
    refine lv_iload_n hx hb dX4_inFront_19 rfl (lv_at hl 1 rfl) ?_
    refine lv_iconst (v := 2) hx hb dX4_inFront_20 (by decide) ?_
    refine lv_iload_n hx hb dX4_inFront_21 rfl (lv_at hl 2 rfl) ?_
    refine lv_imul hx hb dX4_inFront_22 ?_
    refine lv_topi (fun z3180 ez3180 => ?_)
    have rz3180 := rg_all z3180
    refine lv_iconst (v := 2) hx hb dX4_inFront_23 (by decide) ?_
    refine lv_iadd hx hb dX4_inFront_24 ?_
    refine lv_topi (fun z3181 ez3181 => ?_)
    have rz3181 := rg_all z3181
    refine lv_imul hx hb dX4_inFront_25 ?_
    refine lv_topi (fun z3182 ez3182 => ?_)
    have rz3182 := rg_all z3182
    refine lv_iload_n hx hb dX4_inFront_26 rfl (lv_at hl 0 rfl) ?_
    refine lv_iadd hx hb dX4_inFront_27 ?_
    refine lv_topi (fun z3183 ez3183 => ?_)
    have rz3183 := rg_all z3183
    refine lv_iconst (v := 1) hx hb dX4_inFront_28 (by decide) ?_
    refine lv_iadd hx hb dX4_inFront_29 ?_
    refine lv_topi (fun z3184 ez3184 => ?_)
    have rz3184 := rg_all z3184
    exact t_iret hQ X hT (⟨rfl, rg_all _⟩) (Nat.le_of_ble_eq_true rfl) (Nat.le_of_ble_eq_true rfl) dX4_inFront_30
  · have w3185 := cv_nle (by decide : (1 : Int32).toInt = 1) (rfl : p0.toInt = p0.toInt) c3174
    refine lv_iconst (v := 0) hx hb dX4_inFront_5 (by decide) ?_
    exact t_iret hQ X hT (⟨rfl, rg_all _⟩) (Nat.le_of_ble_eq_true rfl) (Nat.le_of_ble_eq_true rfl) dX4_inFront_6
set_option maxHeartbeats 4000000 in
set_option maxRecDepth 100000 in
theorem kt31_X4_between (l : Launch) (G : KG) (tag : Nat → Nat) (L : List Nat) (F : Nat → va_E) (ho : okT G ttC tag L F) (p0 : Int32) (p1 : Int32) (p2 : Int32)  : TMi l yX4_between cX4_between 5 (some .int) { frames := 0, cells := 0, slots := 0, locals := 0 } G ttC tag L F [.int p0, .int p1, .int p2] (fun r F1 => F1 = F ∧ ((-2147483648) ≤ r.toInt ∧ r.toInt ≤ 2147483647)) := by
  refine t_bodyi (y := yX4_between) (cd := cX4_between) (mL := 5) (rt := (some .int)) (rm := { frames := 0, cells := 0, slots := 0, locals := 0 }) (av := [.int p0, .int p1, .int p2]) (by decide) (Nat.le_of_ble_eq_true rfl) ho ?_
  intro p e s m args below meth c ls A Q hQ X hT hl
  have hx := X.1.1
  have hb := X.1.2.1
  have hl : lv_has ls 5 [(0, .int p0), (1, .int p1), (2, .int p2)] := hl
  have K14 : ∀ (z3227 : Int32) (H : Heap) (locs : List Loc) (ls : Array Slot), TH G ttC A s tag L F H locs → lv_has ls 5 [(0, .int p0), (1, .int p1), (2, .int p2)] → W p l e { frames := 0, cells := 0, slots := 0, locals := 0 } s m args below meth c H locs 0 0 Q (F0 m 14 ls [.int z3227]) := by
    intro z3227 H locs ls hT hl
    refine lv_istore_n (lv' := [(3, .int z3227), (0, .int p0), (1, .int p1), (2, .int p2)]) hx hb dX4_between_14 rfl hl (by decide) rfl (fun ls hl => ?_)
    refine lv_bipush (v := 8) hx hb dX4_between_15 (by decide) ?_
    refine lv_iload_n hx hb dX4_between_17 rfl (lv_at hl 1 rfl) ?_
    refine lv_imul hx hb dX4_between_18 ?_
    refine lv_topi (fun z3228 ez3228 => ?_)
    have rz3228 := rg_all z3228
    refine lv_iload_n hx hb dX4_between_19 rfl (lv_at hl 0 rfl) ?_
    refine lv_isub hx hb dX4_between_20 ?_
    refine lv_topi (fun z3229 ez3229 => ?_)
    have rz3229 := rg_all z3229
    refine lv_istore (lv' := [(4, .int z3229), (3, .int z3227), (0, .int p0), (1, .int p1), (2, .int p2)]) hx hb dX4_between_21 hl (by decide) rfl (fun ls hl => ?_)
    refine lv_iload_n hx hb dX4_between_23 rfl (lv_at hl 1 rfl) ?_
    refine lv_iload hx hb dX4_between_24 (lv_at hl 0 rfl) ?_
    refine lv_icmp_ge (tgt := 33) hx hb dX4_between_26 (by decide) (fun c3230 => ?_) (fun c3230 => ?_)
    · have w3231 := cv_le (rfl : z3229.toInt = z3229.toInt) (rfl : z3227.toInt = z3227.toInt) c3230
      refine lv_iload hx hb dX4_between_33 (lv_at hl 0 rfl) ?_
      exact t_iret hQ X hT (⟨rfl, rg_all _⟩) (Nat.le_of_ble_eq_true rfl) (Nat.le_of_ble_eq_true rfl) dX4_between_35
    · have w3232 := cv_nle (rfl : z3229.toInt = z3229.toInt) (rfl : z3227.toInt = z3227.toInt) c3230
      refine lv_iload_n hx hb dX4_between_29 rfl (lv_at hl 1 rfl) ?_
      refine lv_goto (tgt := 35) hx hb dX4_between_30 (by decide) ?_
      exact t_iret hQ X hT (⟨rfl, rg_all _⟩) (Nat.le_of_ble_eq_true rfl) (Nat.le_of_ble_eq_true rfl) dX4_between_35
  refine lv_iload_n hx hb dX4_between_0 rfl (lv_at hl 1 rfl) ?_
  refine lv_iload_n hx hb dX4_between_1 rfl (lv_at hl 2 rfl) ?_
  refine lv_icmp_ge (tgt := 11) hx hb dX4_between_2 (by decide) (fun c3233 => ?_) (fun c3233 => ?_)
  · have w3234 := cv_le (rfl : p2.toInt = p2.toInt) (rfl : p1.toInt = p1.toInt) c3233
    refine lv_iload_n hx hb dX4_between_11 rfl (lv_at hl 1 rfl) ?_
    refine lv_iload_n hx hb dX4_between_12 rfl (lv_at hl 2 rfl) ?_
    refine lv_isub hx hb dX4_between_13 ?_
    refine lv_topi (fun z3235 ez3235 => ?_)
    have rz3235 := rg_all z3235
    exact K14 z3235 _ _ _  hT  (lv_sub hl [0, 1, 2] rfl)
  · have w3236 := cv_nle (rfl : p2.toInt = p2.toInt) (rfl : p1.toInt = p1.toInt) c3233
    refine lv_iload_n hx hb dX4_between_5 rfl (lv_at hl 2 rfl) ?_
    refine lv_iload_n hx hb dX4_between_6 rfl (lv_at hl 1 rfl) ?_
    refine lv_isub hx hb dX4_between_7 ?_
    refine lv_topi (fun z3237 ez3237 => ?_)
    have rz3237 := rg_all z3237
    refine lv_goto (tgt := 14) hx hb dX4_between_8 (by decide) ?_
    exact K14 z3237 _ _ _  hT  (lv_sub hl [0, 1, 2] rfl)
set_option maxHeartbeats 4000000 in
set_option maxRecDepth 100000 in
theorem kt32_X7_roundIn (l : Launch) (G : KG) (tag : Nat → Nat) (L : List Nat) (F : Nat → va_E) (ho : okT G ttC tag L F) (p0 : Nat) (p1 : Int32) (p2 : Int32) (m0 : p0 ∈ L) (g0 : tag p0 = 19) : TMi l yX7_roundIn cX7_roundIn 3 (some .int) { frames := 2, cells := 0, slots := 0, locals := 46 } G ttC tag L F [.ref p0, .int p1, .int p2] (fun r F1 => F1 = F ∧ ((-2147483648) ≤ r.toInt ∧ r.toInt ≤ 2147483647)) := by
  refine t_bodyi (y := yX7_roundIn) (cd := cX7_roundIn) (mL := 3) (rt := (some .int)) (rm := { frames := 2, cells := 0, slots := 0, locals := 46 }) (av := [.ref p0, .int p1, .int p2]) (by decide) (Nat.le_of_ble_eq_true rfl) ho ?_
  intro p e s m args below meth c ls A Q hQ X hT hl
  have hx := X.1.1
  have hb := X.1.2.1
  have hl : lv_has ls 3 [(0, .ref p0), (1, .int p1), (2, .int p2)] := hl
  refine lv_iload_n hx hb dX7_roundIn_0 rfl (lv_at hl 2 rfl) ?_
  refine lv_aload_n hx hb dX7_roundIn_1 rfl (lv_at hl 0 rfl) ?_
  refine lv_iload_n hx hb dX7_roundIn_2 rfl (lv_at hl 1 rfl) ?_
  refine lv_iload_n hx hb dX7_roundIn_3 rfl (lv_at hl 2 rfl) ?_
  refine t_cVi (n := 2) (C := RX7) (T := TX7) (N := 7) (As := [.int p1, .int p2]) (rest := [.int p2]) X hT (kt29_X7_doorOf l G tag L F hT.2.2.2 p0 p1 p2 m0 g0) m0 g0 rfl rfl qw_992 qw_918 qw_919 qw_22 qw_920 ⟨rfl, by decide +kernel, by decide +kernel, by decide +kernel⟩ ⟨Nat.le_of_ble_eq_true rfl, Nat.le_of_ble_eq_true rfl⟩ hl rfl rfl (Nat.le_of_ble_eq_true rfl) dX7_roundIn_4 ⟨Nat.le_of_ble_eq_true rfl, Nat.le_of_ble_eq_true rfl⟩ (fun z3257 F9 H locs hT hz3257 => ?_)
  obtain ⟨fz3257, hz3257⟩ := hz3257
  rw [fz3257] at hT
  refine lv_iload_n hx hb dX7_roundIn_7 rfl (lv_at hl 2 rfl) ?_
  refine lv_iconst (v := 1) hx hb dX7_roundIn_8 (by decide) ?_
  refine lv_isub hx hb dX7_roundIn_9 ?_
  refine lv_topi (fun z3258 ez3258 => ?_)
  have rz3258 := rg_all z3258
  refine lv_aload_n hx hb dX7_roundIn_10 rfl (lv_at hl 0 rfl) ?_
  refine lv_iload_n hx hb dX7_roundIn_11 rfl (lv_at hl 1 rfl) ?_
  refine lv_iload_n hx hb dX7_roundIn_12 rfl (lv_at hl 2 rfl) ?_
  refine lv_iconst (v := 1) hx hb dX7_roundIn_13 (by decide) ?_
  refine lv_isub hx hb dX7_roundIn_14 ?_
  refine lv_topi (fun z3259 ez3259 => ?_)
  have rz3259 := rg_all z3259
  refine t_cVi (n := 2) (C := RX7) (T := TX7) (N := 7) (As := [.int p1, .int z3259]) (rest := [.int z3258, .int z3257, .int p2]) X hT (kt29_X7_doorOf l G tag L F hT.2.2.2 p0 p1 z3259 m0 g0) m0 g0 rfl rfl qw_992 qw_918 qw_919 qw_22 qw_920 ⟨rfl, by decide +kernel, by decide +kernel, by decide +kernel⟩ ⟨Nat.le_of_ble_eq_true rfl, Nat.le_of_ble_eq_true rfl⟩ hl rfl rfl (Nat.le_of_ble_eq_true rfl) dX7_roundIn_15 ⟨Nat.le_of_ble_eq_true rfl, Nat.le_of_ble_eq_true rfl⟩ (fun z3260 F9 H locs hT hz3260 => ?_)
  obtain ⟨fz3260, hz3260⟩ := hz3260
  rw [fz3260] at hT
  refine t_cSi (n := 2) (As := [.int z3258, .int z3260]) (rest := [.int z3257, .int p2]) X hT (kt30_X4_inFront l G tag L F hT.2.2.2 z3258 z3260 ) qw_993 qw_923 qw_409 qw_924 ⟨by decide +kernel, by decide +kernel, by decide +kernel⟩ ⟨Nat.le_of_ble_eq_true rfl, Nat.le_of_ble_eq_true rfl⟩ hl rfl rfl (Nat.le_of_ble_eq_true rfl) dX7_roundIn_18 ⟨Nat.le_of_ble_eq_true rfl, Nat.le_of_ble_eq_true rfl⟩ (fun z3261 F9 H locs hT hz3261 => ?_)
  obtain ⟨fz3261, hz3261⟩ := hz3261
  rw [fz3261] at hT
  refine t_cSi (n := 3) (As := [.int p2, .int z3257, .int z3261]) (rest := []) X hT (kt31_X4_between l G tag L F hT.2.2.2 p2 z3257 z3261 ) qw_994 qw_926 qw_409 qw_927 ⟨by decide +kernel, by decide +kernel, by decide +kernel⟩ ⟨Nat.le_of_ble_eq_true rfl, Nat.le_of_ble_eq_true rfl⟩ hl rfl rfl (Nat.le_of_ble_eq_true rfl) dX7_roundIn_21 ⟨Nat.le_of_ble_eq_true rfl, Nat.le_of_ble_eq_true rfl⟩ (fun z3262 F9 H locs hT hz3262 => ?_)
  obtain ⟨fz3262, hz3262⟩ := hz3262
  rw [fz3262] at hT
  exact t_iret hQ X hT (⟨rfl, rg_all _⟩) (Nat.le_of_ble_eq_true rfl) (Nat.le_of_ble_eq_true rfl) dX7_roundIn_24
set_option maxHeartbeats 4000000 in
set_option maxRecDepth 100000 in
theorem kt33_X7_isOpen (l : Launch) (G : KG) (tag : Nat → Nat) (L : List Nat) (F : Nat → va_E) (ho : okT G ttC tag L F) (p0 : Nat) (p1 : Int32) (p2 : Int32) (m0 : p0 ∈ L) (g0 : tag p0 = 19) : TMi l yX7_isOpen cX7_isOpen 3 (some .boolean) { frames := 2, cells := 0, slots := 0, locals := 46 } G ttC tag L F [.ref p0, .int p1, .int p2] (fun r F1 => F1 = F ∧ (0 ≤ r.toInt ∧ r.toInt ≤ 1)) := by
  refine t_bodyi (y := yX7_isOpen) (cd := cX7_isOpen) (mL := 3) (rt := (some .boolean)) (rm := { frames := 2, cells := 0, slots := 0, locals := 46 }) (av := [.ref p0, .int p1, .int p2]) (by decide) (Nat.le_of_ble_eq_true rfl) ho ?_
  intro p e s m args below meth c ls A Q hQ X hT hl
  have hx := X.1.1
  have hb := X.1.2.1
  have hl : lv_has ls 3 [(0, .ref p0), (1, .int p1), (2, .int p2)] := hl
  refine lv_aload_n hx hb dX7_isOpen_0 rfl (lv_at hl 0 rfl) ?_
  refine lv_iload_n hx hb dX7_isOpen_1 rfl (lv_at hl 1 rfl) ?_
  refine lv_iload_n hx hb dX7_isOpen_2 rfl (lv_at hl 2 rfl) ?_
  refine t_cVi (n := 2) (C := RX7) (T := TX7) (N := 7) (As := [.int p1, .int p2]) (rest := []) X hT (kt21_X7_stands l G tag L F hT.2.2.2 p0 p1 p2 m0 g0) m0 g0 rfl rfl qw_987 qw_853 qw_854 qw_22 qw_855 ⟨rfl, by decide +kernel, by decide +kernel, by decide +kernel⟩ ⟨Nat.le_of_ble_eq_true rfl, Nat.le_of_ble_eq_true rfl⟩ hl rfl rfl (Nat.le_of_ble_eq_true rfl) dX7_isOpen_3 ⟨Nat.le_of_ble_eq_true rfl, Nat.le_of_ble_eq_true rfl⟩ (fun z3328 F9 H locs hT hz3328 => ?_)
  obtain ⟨fz3328, hz3328⟩ := hz3328
  rw [fz3328] at hT
  refine lv_if_eq (tgt := 24) hx hb dX7_isOpen_6 (by decide) (fun c3329 => ?_) (fun c3329 => ?_)
  · have w3330 := cv_eq (rfl : z3328.toInt = z3328.toInt) (by decide : (0 : Int32).toInt = 0) c3329
    refine lv_iconst (v := 0) hx hb dX7_isOpen_24 (by decide) ?_
    exact t_zret hQ X hT (by decide) (⟨rfl, (by decide)⟩) (Nat.le_of_ble_eq_true rfl) (Nat.le_of_ble_eq_true rfl) dX7_isOpen_25
  · have w3331 := cv_ne (rfl : z3328.toInt = z3328.toInt) (by decide : (0 : Int32).toInt = 0) c3329
    refine lv_aload_n hx hb dX7_isOpen_9 rfl (lv_at hl 0 rfl) ?_
    refine lv_iload_n hx hb dX7_isOpen_10 rfl (lv_at hl 1 rfl) ?_
    refine lv_iload_n hx hb dX7_isOpen_11 rfl (lv_at hl 2 rfl) ?_
    refine lv_bipush (v := 6) hx hb dX7_isOpen_12 (by decide) ?_
    refine t_cVi (n := 3) (C := RX7) (T := TX7) (N := 7) (As := [.int p1, .int p2, .int 6]) (rest := []) X hT (kt19_X7_partOf l G tag L F hT.2.2.2 p0 p1 p2 6 m0 g0) m0 g0 rfl rfl qw_856 qw_778 qw_779 qw_22 qw_780 ⟨rfl, by decide +kernel, by decide +kernel, by decide +kernel⟩ ⟨Nat.le_of_ble_eq_true rfl, Nat.le_of_ble_eq_true rfl⟩ hl rfl rfl (Nat.le_of_ble_eq_true rfl) dX7_isOpen_14 ⟨Nat.le_of_ble_eq_true rfl, Nat.le_of_ble_eq_true rfl⟩ (fun z3332 F9 H locs hT hz3332 => ?_)
    obtain ⟨fz3332, hz3332⟩ := hz3332
    rw [fz3332] at hT
    refine lv_if_ne (tgt := 24) hx hb dX7_isOpen_17 (by decide) (fun c3333 => ?_) (fun c3333 => ?_)
    · have w3334 := cv_ne (rfl : z3332.toInt = z3332.toInt) (by decide : (0 : Int32).toInt = 0) c3333
      refine lv_iconst (v := 0) hx hb dX7_isOpen_24 (by decide) ?_
      exact t_zret hQ X hT (by decide) (⟨rfl, (by decide)⟩) (Nat.le_of_ble_eq_true rfl) (Nat.le_of_ble_eq_true rfl) dX7_isOpen_25
    · have w3335 := cv_eq (rfl : z3332.toInt = z3332.toInt) (by decide : (0 : Int32).toInt = 0) c3333
      refine lv_iconst (v := 1) hx hb dX7_isOpen_20 (by decide) ?_
      refine lv_goto (tgt := 25) hx hb dX7_isOpen_21 (by decide) ?_
      exact t_zret hQ X hT (by decide) (⟨rfl, (by decide)⟩) (Nat.le_of_ble_eq_true rfl) (Nat.le_of_ble_eq_true rfl) dX7_isOpen_25
set_option maxHeartbeats 4000000 in
set_option maxRecDepth 100000 in
theorem kt34_X7_roundIn (l : Launch) (G : KG) (tag : Nat → Nat) (L : List Nat) (F : Nat → va_E) (ho : okT G ttC tag L F) (p0 : Nat) (p1 : Int32) (p2 : Int32) (m0 : p0 ∈ L) (g0 : tag p0 = 19) : TMi l yX7_roundIn cX7_roundIn 3 (some .int) { frames := 2, cells := 0, slots := 0, locals := 46 } G ttC tag L F [.ref p0, .int p1, .int p2] (fun r F1 => F1 = F ∧ ((-2147483648) ≤ r.toInt ∧ r.toInt ≤ 2147483647)) := by
  refine t_bodyi (y := yX7_roundIn) (cd := cX7_roundIn) (mL := 3) (rt := (some .int)) (rm := { frames := 2, cells := 0, slots := 0, locals := 46 }) (av := [.ref p0, .int p1, .int p2]) (by decide) (Nat.le_of_ble_eq_true rfl) ho ?_
  intro p e s m args below meth c ls A Q hQ X hT hl
  have hx := X.1.1
  have hb := X.1.2.1
  have hl : lv_has ls 3 [(0, .ref p0), (1, .int p1), (2, .int p2)] := hl
  refine lv_iload_n hx hb dX7_roundIn_0 rfl (lv_at hl 2 rfl) ?_
  refine lv_aload_n hx hb dX7_roundIn_1 rfl (lv_at hl 0 rfl) ?_
  refine lv_iload_n hx hb dX7_roundIn_2 rfl (lv_at hl 1 rfl) ?_
  refine lv_iload_n hx hb dX7_roundIn_3 rfl (lv_at hl 2 rfl) ?_
  refine t_cVi (n := 2) (C := RX7) (T := TX7) (N := 7) (As := [.int p1, .int p2]) (rest := [.int p2]) X hT (kt29_X7_doorOf l G tag L F hT.2.2.2 p0 p1 p2 m0 g0) m0 g0 rfl rfl qw_992 qw_918 qw_919 qw_22 qw_920 ⟨rfl, by decide +kernel, by decide +kernel, by decide +kernel⟩ ⟨Nat.le_of_ble_eq_true rfl, Nat.le_of_ble_eq_true rfl⟩ hl rfl rfl (Nat.le_of_ble_eq_true rfl) dX7_roundIn_4 ⟨Nat.le_of_ble_eq_true rfl, Nat.le_of_ble_eq_true rfl⟩ (fun z3367 F9 H locs hT hz3367 => ?_)
  obtain ⟨fz3367, hz3367⟩ := hz3367
  rw [fz3367] at hT
  refine lv_iload_n hx hb dX7_roundIn_7 rfl (lv_at hl 2 rfl) ?_
  refine lv_iconst (v := 1) hx hb dX7_roundIn_8 (by decide) ?_
  refine lv_isub hx hb dX7_roundIn_9 ?_
  refine lv_topi (fun z3368 ez3368 => ?_)
  have rz3368 := rg_all z3368
  refine lv_aload_n hx hb dX7_roundIn_10 rfl (lv_at hl 0 rfl) ?_
  refine lv_iload_n hx hb dX7_roundIn_11 rfl (lv_at hl 1 rfl) ?_
  refine lv_iload_n hx hb dX7_roundIn_12 rfl (lv_at hl 2 rfl) ?_
  refine lv_iconst (v := 1) hx hb dX7_roundIn_13 (by decide) ?_
  refine lv_isub hx hb dX7_roundIn_14 ?_
  refine lv_topi (fun z3369 ez3369 => ?_)
  have rz3369 := rg_all z3369
  refine t_cVi (n := 2) (C := RX7) (T := TX7) (N := 7) (As := [.int p1, .int z3369]) (rest := [.int z3368, .int z3367, .int p2]) X hT (kt29_X7_doorOf l G tag L F hT.2.2.2 p0 p1 z3369 m0 g0) m0 g0 rfl rfl qw_992 qw_918 qw_919 qw_22 qw_920 ⟨rfl, by decide +kernel, by decide +kernel, by decide +kernel⟩ ⟨Nat.le_of_ble_eq_true rfl, Nat.le_of_ble_eq_true rfl⟩ hl rfl rfl (Nat.le_of_ble_eq_true rfl) dX7_roundIn_15 ⟨Nat.le_of_ble_eq_true rfl, Nat.le_of_ble_eq_true rfl⟩ (fun z3370 F9 H locs hT hz3370 => ?_)
  obtain ⟨fz3370, hz3370⟩ := hz3370
  rw [fz3370] at hT
  refine t_cSi (n := 2) (As := [.int z3368, .int z3370]) (rest := [.int z3367, .int p2]) X hT (kt30_X4_inFront l G tag L F hT.2.2.2 z3368 z3370 ) qw_993 qw_923 qw_409 qw_924 ⟨by decide +kernel, by decide +kernel, by decide +kernel⟩ ⟨Nat.le_of_ble_eq_true rfl, Nat.le_of_ble_eq_true rfl⟩ hl rfl rfl (Nat.le_of_ble_eq_true rfl) dX7_roundIn_18 ⟨Nat.le_of_ble_eq_true rfl, Nat.le_of_ble_eq_true rfl⟩ (fun z3371 F9 H locs hT hz3371 => ?_)
  obtain ⟨fz3371, hz3371⟩ := hz3371
  rw [fz3371] at hT
  refine t_cSi (n := 3) (As := [.int p2, .int z3367, .int z3371]) (rest := []) X hT (kt31_X4_between l G tag L F hT.2.2.2 p2 z3367 z3371 ) qw_994 qw_926 qw_409 qw_927 ⟨by decide +kernel, by decide +kernel, by decide +kernel⟩ ⟨Nat.le_of_ble_eq_true rfl, Nat.le_of_ble_eq_true rfl⟩ hl rfl rfl (Nat.le_of_ble_eq_true rfl) dX7_roundIn_21 ⟨Nat.le_of_ble_eq_true rfl, Nat.le_of_ble_eq_true rfl⟩ (fun z3372 F9 H locs hT hz3372 => ?_)
  obtain ⟨fz3372, hz3372⟩ := hz3372
  rw [fz3372] at hT
  exact t_iret hQ X hT (⟨rfl, rg_all _⟩) (Nat.le_of_ble_eq_true rfl) (Nat.le_of_ble_eq_true rfl) dX7_roundIn_24
set_option maxHeartbeats 4000000 in
set_option maxRecDepth 100000 in
theorem kt35_X7_wayTo (l : Launch) (G : KG) (tag : Nat → Nat) (L : List Nat) (F : Nat → va_E) (ho : okT G ttC tag L F) (p0 : Nat) (p1 : Int32) (p2 : Int32) (m0 : p0 ∈ L) (g0 : tag p0 = 19) (h1 : 0 ≤ p1.toInt ∧ p1.toInt ≤ 3) : TMi l yX7_wayTo cX7_wayTo 6 (some .int) { frames := 3, cells := 0, slots := 0, locals := 68 } G ttC tag L F [.ref p0, .int p1, .int p2] (fun r F1 => F1 = F ∧ ((-2147483648) ≤ r.toInt ∧ r.toInt ≤ 2147483647)) := by
  refine t_bodyi (y := yX7_wayTo) (cd := cX7_wayTo) (mL := 6) (rt := (some .int)) (rm := { frames := 3, cells := 0, slots := 0, locals := 68 }) (av := [.ref p0, .int p1, .int p2]) (by decide) (Nat.le_of_ble_eq_true rfl) ho ?_
  intro p e s m args below meth c ls A Q hQ X hT hl
  have hx := X.1.1
  have hb := X.1.2.1
  have hl : lv_has ls 6 [(0, .ref p0), (1, .int p1), (2, .int p2)] := hl
  have K42 : ∀ (n : Nat) (z3523 : Int32) (z3524 : Int32) (z3525 : Int32) (H : Heap) (locs : List Loc) (ls : Array Slot), (z3525.toInt - 0 < (n : Int)) → (1 ≤ z3523.toInt ∧ z3523.toInt ≤ 2147483647) → (0 ≤ z3525.toInt ∧ z3525.toInt ≤ 6) → TH G ttC A s tag L F H locs → lv_has ls 6 [(0, .ref p0), (1, .int p1), (2, .int p2), (3, .int z3523), (4, .int z3524), (5, .int z3525)] → W p l e { frames := 3, cells := 0, slots := 0, locals := 68 } s m args below meth c H locs 0 0 Q (F0 m 42 ls []) := by
    intro n
    induction n with
    | zero =>
      intro z3523 z3524 z3525 H locs ls hn rz3523 rz3525 hT hl
      exfalso
      omega
    | succ n ih42 =>
      intro z3523 z3524 z3525 H locs ls hn rz3523 rz3525 hT hl
      have K82 : ∀ (z3526 : Int32) (H : Heap) (locs : List Loc) (ls : Array Slot), TH G ttC A s tag L F H locs → lv_has ls 6 [(0, .ref p0), (1, .int p1), (2, .int p2), (3, .int z3523), (4, .int z3526), (5, .int z3525)] → W p l e { frames := 3, cells := 0, slots := 0, locals := 68 } s m args below meth c H locs 0 0 Q (F0 m 82 ls []) := by
        intro z3526 H locs ls hT hl
        obtain ⟨z3527, ez3527⟩ : ∃ y : Int32, y = z3525 + (-1) := ⟨_, rfl⟩
        have hz3527 : z3527.toInt = z3525.toInt + (-1) := ar_add ez3527 rfl (by decide : ((-1) : Int32).toInt = (-1)) (by omega) (by omega)
        refine lv_iinc (v := z3527) (lv' := [(5, .int z3527), (0, .ref p0), (1, .int p1), (2, .int p2), (3, .int z3523), (4, .int z3526)]) hx hb dX7_wayTo_82 hl (k := 5) rfl (by rw [ez3527]; rfl) (by decide) rfl (fun ls hl => ?_)
        refine lv_goto (tgt := 42) hx hb dX7_wayTo_85 (by decide) ?_
        exact ih42 z3523 z3526 z3527 _ _ _ (by omega) (by omega) (by omega) hT  (lv_sub hl [1, 2, 3, 4, 5, 0] rfl)
      refine lv_iload hx hb dX7_wayTo_42 (lv_at hl 5 rfl) ?_
      refine lv_iload_n hx hb dX7_wayTo_44 rfl (lv_at hl 3 rfl) ?_
      refine lv_icmp_lt (tgt := 88) hx hb dX7_wayTo_45 (by decide) (fun c3528 => ?_) (fun c3528 => ?_)
      · have w3529 := cv_lt (rfl : z3525.toInt = z3525.toInt) (rfl : z3523.toInt = z3523.toInt) c3528
        refine lv_iload hx hb dX7_wayTo_88 (lv_at hl 4 rfl) ?_
        exact t_iret hQ X hT (⟨rfl, rg_all _⟩) (Nat.le_of_ble_eq_true rfl) (Nat.le_of_ble_eq_true rfl) dX7_wayTo_90
      · have w3530 := cv_nlt (rfl : z3525.toInt = z3525.toInt) (rfl : z3523.toInt = z3523.toInt) c3528
        refine lv_aload_n hx hb dX7_wayTo_48 rfl (lv_at hl 0 rfl) ?_
        refine lv_iload_n hx hb dX7_wayTo_49 rfl (lv_at hl 1 rfl) ?_
        refine lv_iload hx hb dX7_wayTo_50 (lv_at hl 5 rfl) ?_
        refine t_cVi (n := 2) (C := RX7) (T := TX7) (N := 7) (As := [.int p1, .int z3525]) (rest := []) X hT (kt33_X7_isOpen l G tag L F hT.2.2.2 p0 p1 z3525 m0 g0) m0 g0 rfl rfl qw_983 qw_984 qw_985 qw_22 qw_986 ⟨rfl, by decide +kernel, by decide +kernel, by decide +kernel⟩ ⟨Nat.le_of_ble_eq_true rfl, Nat.le_of_ble_eq_true rfl⟩ hl rfl rfl (Nat.le_of_ble_eq_true rfl) dX7_wayTo_52 ⟨Nat.le_of_ble_eq_true rfl, Nat.le_of_ble_eq_true rfl⟩ (fun z3531 F9 H locs hT hz3531 => ?_)
        obtain ⟨fz3531, hz3531⟩ := hz3531
        rw [fz3531] at hT
        refine lv_if_ne (tgt := 61) hx hb dX7_wayTo_55 (by decide) (fun c3532 => ?_) (fun c3532 => ?_)
        · have w3533 := cv_ne (rfl : z3531.toInt = z3531.toInt) (by decide : (0 : Int32).toInt = 0) c3532
          obtain ⟨z3534, ez3534⟩ : ∃ y : Int32, y = z3524 + 1 := ⟨_, rfl⟩
          have rz3534 := rg_all z3534
          refine lv_iinc (v := z3534) (lv' := [(4, .int z3534), (0, .ref p0), (1, .int p1), (2, .int p2), (3, .int z3523), (5, .int z3525)]) hx hb dX7_wayTo_61 hl (k := 4) rfl (by rw [ez3534]; rfl) (by decide) rfl (fun ls hl => ?_)
          refine lv_iload hx hb dX7_wayTo_64 (lv_at hl 5 rfl) ?_
          refine lv_iload_n hx hb dX7_wayTo_66 rfl (lv_at hl 4 rfl) ?_
          refine lv_icmp_le (tgt := 82) hx hb dX7_wayTo_67 (by decide) (fun c3535 => ?_) (fun c3535 => ?_)
          · have w3536 := cv_le (rfl : z3525.toInt = z3525.toInt) (rfl : z3523.toInt = z3523.toInt) c3535
            exact K82 z3534 _ _ _  hT  (lv_sub hl [1, 2, 3, 4, 0, 5] rfl)
          · have w3537 := cv_nle (rfl : z3525.toInt = z3525.toInt) (rfl : z3523.toInt = z3523.toInt) c3535
            refine lv_iload hx hb dX7_wayTo_70 (lv_at hl 0 rfl) ?_
            refine lv_aload_n hx hb dX7_wayTo_72 rfl (lv_at hl 1 rfl) ?_
            refine lv_iload_n hx hb dX7_wayTo_73 rfl (lv_at hl 2 rfl) ?_
            refine lv_iload hx hb dX7_wayTo_74 (lv_at hl 5 rfl) ?_
            refine t_cVi (n := 2) (C := RX7) (T := TX7) (N := 7) (As := [.int p1, .int z3525]) (rest := [.int z3534]) X hT (kt34_X7_roundIn l G tag L F hT.2.2.2 p0 p1 z3525 m0 g0) m0 g0 rfl rfl qw_988 qw_989 qw_990 qw_22 qw_991 ⟨rfl, by decide +kernel, by decide +kernel, by decide +kernel⟩ ⟨Nat.le_of_ble_eq_true rfl, Nat.le_of_ble_eq_true rfl⟩ hl rfl rfl (Nat.le_of_ble_eq_true rfl) dX7_wayTo_76 ⟨Nat.le_of_ble_eq_true rfl, Nat.le_of_ble_eq_true rfl⟩ (fun z3538 F9 H locs hT hz3538 => ?_)
            obtain ⟨fz3538, hz3538⟩ := hz3538
            rw [fz3538] at hT
            refine lv_iadd hx hb dX7_wayTo_79 ?_
            refine lv_topi (fun z3539 ez3539 => ?_)
            have rz3539 := rg_all z3539
            refine lv_istore (lv' := [(4, .int z3539), (0, .ref p0), (1, .int p1), (2, .int p2), (3, .int z3523), (5, .int z3525)]) hx hb dX7_wayTo_80 hl (by decide) rfl (fun ls hl => ?_)
            exact K82 z3539 _ _ _  hT  (lv_sub hl [1, 2, 3, 4, 0, 5] rfl)
        · have w3540 := cv_eq (rfl : z3531.toInt = z3531.toInt) (by decide : (0 : Int32).toInt = 0) c3532
          refine lv_bipush (v := (-2)) hx hb dX7_wayTo_58 (by decide) ?_
          exact t_iret hQ X hT (⟨rfl, rg_all _⟩) (Nat.le_of_ble_eq_true rfl) (Nat.le_of_ble_eq_true rfl) dX7_wayTo_60
  have K32 : ∀ (z3541 : Int32) (z3542 : Int32) (H : Heap) (locs : List Loc) (ls : Array Slot), (1 ≤ z3541.toInt ∧ z3541.toInt ≤ 2147483647) → (0 ≤ z3542.toInt ∧ z3542.toInt ≤ 1) → TH G ttC A s tag L F H locs → lv_has ls 6 [(0, .ref p0), (1, .int p1), (2, .int p2), (3, .int z3541)] → W p l e { frames := 3, cells := 0, slots := 0, locals := 68 } s m args below meth c H locs 0 0 Q (F0 m 32 ls [.int z3542]) := by
    intro z3541 z3542 H locs ls rz3541 rz3542 hT hl
    refine lv_istore (lv' := [(4, .int z3542), (0, .ref p0), (1, .int p1), (2, .int p2), (3, .int z3541)]) hx hb dX7_wayTo_32 hl (by decide) rfl (fun ls hl => ?_)
    refine lv_aload_n hx hb dX7_wayTo_34 rfl (lv_at hl 1 rfl) ?_
    refine t_get (C := RX7) (T := TX7) (N := 7) X hT m0 g0 rfl rfl 2 (by decide) qw_62 inlX7 rfl dX7_wayTo_35 (fun v3543 hv3543 ov3543 => ?_)
    obtain ⟨b3544, rfl, mb3544, gb3544⟩ := okV_r ov3543
    have gb3544 : tag b3544 = 8 := by simpa using gb3544
    refine lv_iload_n hx hb dX7_wayTo_38 rfl (lv_at hl 2 rfl) ?_
    refine t_ild X hT mb3544 gb3544 rfl (by omega) dX7_wayTo_39 (fun z3545 vz3545 rz3545 => ?_)
    have rz3545 : 0 ≤ z3545.toInt ∧ z3545.toInt ≤ 6 := rz3545
    refine lv_istore (lv' := [(5, .int z3545), (4, .int z3542), (0, .ref p0), (1, .int p1), (2, .int p2), (3, .int z3541)]) hx hb dX7_wayTo_40 hl (by decide) rfl (fun ls hl => ?_)
    exact K42 7 z3541 z3542 z3545 _ _ _ (by omega) (by omega) (by omega) hT  (lv_sub hl [2, 3, 4, 5, 1, 0] rfl)
  have K21 : ∀ (z3546 : Int32) (H : Heap) (locs : List Loc) (ls : Array Slot), (1 ≤ z3546.toInt ∧ z3546.toInt ≤ 2147483647) → TH G ttC A s tag L F H locs → lv_has ls 6 [(0, .ref p0), (1, .int p1), (2, .int p2)] → W p l e { frames := 3, cells := 0, slots := 0, locals := 68 } s m args below meth c H locs 0 0 Q (F0 m 21 ls [.int z3546]) := by
    intro z3546 H locs ls rz3546 hT hl
    refine lv_istore_n (lv' := [(3, .int z3546), (0, .ref p0), (1, .int p1), (2, .int p2)]) hx hb dX7_wayTo_21 rfl hl (by decide) rfl (fun ls hl => ?_)
    refine lv_iload_n hx hb dX7_wayTo_22 rfl (lv_at hl 3 rfl) ?_
    refine lv_iconst (v := 1) hx hb dX7_wayTo_23 (by decide) ?_
    refine lv_icmp_ge (tgt := 31) hx hb dX7_wayTo_24 (by decide) (fun c3547 => ?_) (fun c3547 => ?_)
    · have w3548 := cv_le (by decide : (1 : Int32).toInt = 1) (rfl : p2.toInt = p2.toInt) c3547
      refine lv_iconst (v := 0) hx hb dX7_wayTo_31 (by decide) ?_
      exact K32 z3546 0 _ _ _ (by omega) (by decide) hT  (lv_sub hl [1, 2, 3, 0] rfl)
    · have w3549 := cv_nle (by decide : (1 : Int32).toInt = 1) (rfl : p2.toInt = p2.toInt) c3547
      refine lv_iconst (v := 1) hx hb dX7_wayTo_27 (by decide) ?_
      refine lv_goto (tgt := 32) hx hb dX7_wayTo_28 (by decide) ?_
      exact K32 z3546 1 _ _ _ (by omega) (by decide) hT  (lv_sub hl [1, 2, 3, 0] rfl)
  refine lv_aload_n hx hb dX7_wayTo_0 rfl (lv_at hl 0 rfl) ?_
  refine t_get (C := RX7) (T := TX7) (N := 7) X hT m0 g0 rfl rfl 2 (by decide) qw_62 inlX7 rfl dX7_wayTo_1 (fun v3550 hv3550 ov3550 => ?_)
  obtain ⟨b3551, rfl, mb3551, gb3551⟩ := okV_r ov3550
  have gb3551 : tag b3551 = 8 := by simpa using gb3551
  refine lv_iload_n hx hb dX7_wayTo_4 rfl (lv_at hl 1 rfl) ?_
  refine t_ild X hT mb3551 gb3551 rfl (by omega) dX7_wayTo_5 (fun z3552 vz3552 rz3552 => ?_)
  have rz3552 : 0 ≤ z3552.toInt ∧ z3552.toInt ≤ 6 := rz3552
  refine lv_if_ne (tgt := 11) hx hb dX7_wayTo_6 (by decide) (fun c3553 => ?_) (fun c3553 => ?_)
  · have w3554 := cv_ne (rfl : z3552.toInt = z3552.toInt) (by decide : (0 : Int32).toInt = 0) c3553
    refine lv_iload_n hx hb dX7_wayTo_11 rfl (lv_at hl 2 rfl) ?_
    refine lv_iconst (v := 1) hx hb dX7_wayTo_12 (by decide) ?_
    refine lv_icmp_ge (tgt := 20) hx hb dX7_wayTo_13 (by decide) (fun c3555 => ?_) (fun c3555 => ?_)
    · have w3556 := cv_le (by decide : (1 : Int32).toInt = 1) (rfl : p2.toInt = p2.toInt) c3555
      refine lv_iload_n hx hb dX7_wayTo_20 rfl (lv_at hl 2 rfl) ?_
      exact K21 p2 _ _ _ (by omega) hT  (lv_sub hl [0, 1, 2] rfl)
    · have w3557 := cv_nle (by decide : (1 : Int32).toInt = 1) (rfl : p2.toInt = p2.toInt) c3555
      refine lv_iconst (v := 1) hx hb dX7_wayTo_16 (by decide) ?_
      refine lv_goto (tgt := 21) hx hb dX7_wayTo_17 (by decide) ?_
      exact K21 1 _ _ _ (by decide) hT  (lv_sub hl [0, 1, 2] rfl)
  · have w3558 := cv_eq (rfl : z3552.toInt = z3552.toInt) (by decide : (0 : Int32).toInt = 0) c3553
    refine lv_iconst (v := 0) hx hb dX7_wayTo_9 (by decide) ?_
    exact t_iret hQ X hT (⟨rfl, rg_all _⟩) (Nat.le_of_ble_eq_true rfl) (Nat.le_of_ble_eq_true rfl) dX7_wayTo_10
set_option maxHeartbeats 4000000 in
set_option maxRecDepth 100000 in
theorem kt36_X7_draw (l : Launch) (G : KG) (tag : Nat → Nat) (L : List Nat) (F : Nat → va_E) (ho : okT G ttC tag L F) (p0 : Nat) (m0 : p0 ∈ L) (g0 : tag p0 = 19) : TMi l yX7_draw cX7_draw 1 (some .int) { frames := 0, cells := 0, slots := 0, locals := 0 } G ttC tag L F [.ref p0] (fun r _ => (-2147483648) ≤ r.toInt ∧ r.toInt ≤ 2147483647) := by
  refine t_bodyi (y := yX7_draw) (cd := cX7_draw) (mL := 1) (rt := (some .int)) (rm := { frames := 0, cells := 0, slots := 0, locals := 0 }) (av := [.ref p0]) (by decide) (Nat.le_of_ble_eq_true rfl) ho ?_
  intro p e s m args below meth c ls A Q hQ X hT hl
  have hx := X.1.1
  have hb := X.1.2.1
  have hl : lv_has ls 1 [(0, .ref p0)] := hl
  refine lv_aload_n hx hb dX7_draw_0 rfl (lv_at hl 0 rfl) ?_
  refine lv_bipush (v := 75) hx hb dX7_draw_1 (by decide) ?_
  refine lv_aload_n hx hb dX7_draw_3 rfl (lv_at hl 0 rfl) ?_
  refine t_get (C := RX7) (T := TX7) (N := 7) X hT m0 g0 rfl rfl 1 (by decide) qw_188 inlX7 rfl dX7_draw_4 (fun v3587 hv3587 ov3587 => ?_)
  obtain ⟨z3588, rfl, rz3588⟩ := okV_i ov3587
  refine lv_imul hx hb dX7_draw_7 ?_
  refine lv_topi (fun z3589 ez3589 => ?_)
  have rz3589 := rg_all z3589
  refine lv_bipush (v := 74) hx hb dX7_draw_8 (by decide) ?_
  refine lv_iadd hx hb dX7_draw_10 ?_
  refine lv_topi (fun z3590 ez3590 => ?_)
  have rz3590 := rg_all z3590
  refine m_ldc X qw_1115 dX7_draw_11 ?_
  refine lv_irem hx hb dX7_draw_13 (by decide) ?_
  refine lv_topi (fun z3591 ez3591 => ?_)
  have rz3591 := rg_all z3591
  refine t_put (C := RX7) (T := TX7) (N := 7) (v := .int z3591) X hT m0 g0 rfl tyX7 tyX7_ok nmX7 rfl 1 (by decide) qw_188 inlX7 rfl (by first | rfl | decide) (by first | rfl | decide) rfl (⟨_, rfl, (by omega), (by omega)⟩) dX7_draw_14 (fun F H locs hT v3592 h1v3592 h2v3592 => ?_)
  refine lv_aload_n hx hb dX7_draw_17 rfl (lv_at hl 0 rfl) ?_
  refine t_get (C := RX7) (T := TX7) (N := 7) X hT m0 g0 rfl rfl 1 (by decide) qw_188 inlX7 rfl dX7_draw_18 (fun v3593 hv3593 ov3593 => ?_)
  obtain rfl : v3593 = .int z3591 := hv3593.symm.trans v3592
  exact t_iret hQ X hT (rg_all _) (Nat.le_of_ble_eq_true rfl) (Nat.le_of_ble_eq_true rfl) dX7_draw_21
set_option maxHeartbeats 4000000 in
set_option maxRecDepth 100000 in
theorem kt37_X1_apart (l : Launch) (G : KG) (tag : Nat → Nat) (L : List Nat) (F : Nat → va_E) (ho : okT G ttC tag L F) (p0 : Nat) (p1 : Int32) (p2 : Int32) (p3 : Int32) (m0 : p0 ∈ L) (g0 : tag p0 = 18) (h1 : 0 ≤ p1.toInt ∧ p1.toInt ≤ 3) : TMi l yX1_apart cX1_apart 6 (some .int) { frames := 0, cells := 0, slots := 0, locals := 0 } G ttC tag L F [.ref p0, .int p1, .int p2, .int p3] (fun r F1 => F1 = F ∧ ((-2147483648) ≤ r.toInt ∧ r.toInt ≤ 2147483647)) := by
  refine t_bodyi (y := yX1_apart) (cd := cX1_apart) (mL := 6) (rt := (some .int)) (rm := { frames := 0, cells := 0, slots := 0, locals := 0 }) (av := [.ref p0, .int p1, .int p2, .int p3]) (by decide) (Nat.le_of_ble_eq_true rfl) ho ?_
  intro p e s m args below meth c ls A Q hQ X hT hl
  have hx := X.1.1
  have hb := X.1.2.1
  have hl : lv_has ls 6 [(0, .ref p0), (1, .int p1), (2, .int p2), (3, .int p3)] := hl
  have K60 : ∀ (z3730 : Int32) (z3731 : Int32) (H : Heap) (locs : List Loc) (ls : Array Slot), TH G ttC A s tag L F H locs → lv_has ls 6 [(0, .ref p0), (1, .int p1), (2, .int p2), (3, .int p3), (4, .int z3730)] → W p l e { frames := 0, cells := 0, slots := 0, locals := 0 } s m args below meth c H locs 0 0 Q (F0 m 60 ls [.int z3731]) := by
    intro z3730 z3731 H locs ls hT hl
    refine lv_istore (lv' := [(5, .int z3731), (0, .ref p0), (1, .int p1), (2, .int p2), (3, .int p3), (4, .int z3730)]) hx hb dX1_apart_60 hl (by decide) rfl (fun ls hl => ?_)
    refine lv_iload hx hb dX1_apart_62 (lv_at hl 5 rfl) ?_
    refine lv_iload hx hb dX1_apart_64 (lv_at hl 0 rfl) ?_
    refine lv_icmp_ge (tgt := 74) hx hb dX1_apart_66 (by decide) (fun c3732 => ?_) (fun c3732 => ?_)
    · have w3733 := cv_le (rfl : z3731.toInt = z3731.toInt) (rfl : z3730.toInt = z3730.toInt) c3732
      refine lv_iload hx hb dX1_apart_74 (lv_at hl 5 rfl) ?_
      exact t_iret hQ X hT (⟨rfl, rg_all _⟩) (Nat.le_of_ble_eq_true rfl) (Nat.le_of_ble_eq_true rfl) dX1_apart_76
    · have w3734 := cv_nle (rfl : z3731.toInt = z3731.toInt) (rfl : z3730.toInt = z3730.toInt) c3732
      refine lv_iload hx hb dX1_apart_69 (lv_at hl 0 rfl) ?_
      refine lv_goto (tgt := 76) hx hb dX1_apart_71 (by decide) ?_
      exact t_iret hQ X hT (⟨rfl, rg_all _⟩) (Nat.le_of_ble_eq_true rfl) (Nat.le_of_ble_eq_true rfl) dX1_apart_76
  have K29 : ∀ (z3735 : Int32) (H : Heap) (locs : List Loc) (ls : Array Slot), TH G ttC A s tag L F H locs → lv_has ls 6 [(0, .ref p0), (1, .int p1), (2, .int p2), (3, .int p3)] → W p l e { frames := 0, cells := 0, slots := 0, locals := 0 } s m args below meth c H locs 0 0 Q (F0 m 29 ls [.int z3735]) := by
    intro z3735 H locs ls hT hl
    refine lv_istore (lv' := [(4, .int z3735), (0, .ref p0), (1, .int p1), (2, .int p2), (3, .int p3)]) hx hb dX1_apart_29 hl (by decide) rfl (fun ls hl => ?_)
    refine lv_iload_n hx hb dX1_apart_31 rfl (lv_at hl 4 rfl) ?_
    refine lv_aload_n hx hb dX1_apart_32 rfl (lv_at hl 1 rfl) ?_
    refine t_get (C := RX1) (T := TX1) (N := 20) X hT m0 g0 rfl rfl 12 (by decide) qw_53 inlX1 rfl dX1_apart_33 (fun v3736 hv3736 ov3736 => ?_)
    obtain ⟨b3737, rfl, mb3737, gb3737⟩ := okV_r ov3736
    have gb3737 : tag b3737 = 4 := by simpa using gb3737
    refine lv_iload_n hx hb dX1_apart_36 rfl (lv_at hl 2 rfl) ?_
    refine t_ild X hT mb3737 gb3737 rfl (by omega) dX1_apart_37 (fun z3738 vz3738 rz3738 => ?_)
    have rz3738 : 0 ≤ z3738.toInt ∧ z3738.toInt ≤ 11 := rz3738
    refine lv_icmp_ge (tgt := 52) hx hb dX1_apart_38 (by decide) (fun c3739 => ?_) (fun c3739 => ?_)
    · have w3740 := cv_le (rfl : z3738.toInt = z3738.toInt) (rfl : p3.toInt = p3.toInt) c3739
      refine lv_iload_n hx hb dX1_apart_52 rfl (lv_at hl 4 rfl) ?_
      refine lv_aload_n hx hb dX1_apart_53 rfl (lv_at hl 1 rfl) ?_
      refine t_get (C := RX1) (T := TX1) (N := 20) X hT m0 g0 rfl rfl 12 (by decide) qw_53 inlX1 rfl dX1_apart_54 (fun v3741 hv3741 ov3741 => ?_)
      obtain rfl : v3741 = .ref b3737 := hv3741.symm.trans hv3736
      refine lv_iload_n hx hb dX1_apart_57 rfl (lv_at hl 2 rfl) ?_
      refine t_ild X hT mb3737 gb3737 rfl (by omega) dX1_apart_58 (fun z3742 vz3742 rz3742 => ?_)
      obtain rfl : z3742 = z3738 := vz3742.symm.trans vz3738
      refine lv_isub hx hb dX1_apart_59 ?_
      refine lv_topi (fun z3743 ez3743 => ?_)
      have hz3743 : z3743.toInt = p3.toInt - z3738.toInt := ar_sub ez3743 (rfl : p3.toInt = p3.toInt) (rfl : z3738.toInt = z3738.toInt) (by omega) (by omega)
      have rz3743 : (-11) ≤ z3743.toInt ∧ z3743.toInt ≤ 2147483647 := by omega
      exact K60 z3735 z3743 _ _ _  hT  (lv_sub hl [1, 2, 3, 4, 0] rfl)
    · have w3744 := cv_nle (rfl : z3738.toInt = z3738.toInt) (rfl : p3.toInt = p3.toInt) c3739
      refine lv_aload_n hx hb dX1_apart_41 rfl (lv_at hl 1 rfl) ?_
      refine t_get (C := RX1) (T := TX1) (N := 20) X hT m0 g0 rfl rfl 12 (by decide) qw_53 inlX1 rfl dX1_apart_42 (fun v3745 hv3745 ov3745 => ?_)
      obtain rfl : v3745 = .ref b3737 := hv3745.symm.trans hv3736
      refine lv_iload_n hx hb dX1_apart_45 rfl (lv_at hl 2 rfl) ?_
      refine t_ild X hT mb3737 gb3737 rfl (by omega) dX1_apart_46 (fun z3746 vz3746 rz3746 => ?_)
      obtain rfl : z3746 = z3738 := vz3746.symm.trans vz3738
      refine lv_iload_n hx hb dX1_apart_47 rfl (lv_at hl 4 rfl) ?_
      refine lv_isub hx hb dX1_apart_48 ?_
      refine lv_topi (fun z3747 ez3747 => ?_)
      have rz3747 := rg_all z3747
      refine lv_goto (tgt := 60) hx hb dX1_apart_49 (by decide) ?_
      exact K60 z3735 z3747 _ _ _  hT  (lv_sub hl [1, 2, 3, 4, 0] rfl)
  refine lv_iload_n hx hb dX1_apart_0 rfl (lv_at hl 2 rfl) ?_
  refine lv_aload_n hx hb dX1_apart_1 rfl (lv_at hl 0 rfl) ?_
  refine t_get (C := RX1) (T := TX1) (N := 20) X hT m0 g0 rfl rfl 11 (by decide) qw_52 inlX1 rfl dX1_apart_2 (fun v3748 hv3748 ov3748 => ?_)
  obtain ⟨b3749, rfl, mb3749, gb3749⟩ := okV_r ov3748
  have gb3749 : tag b3749 = 4 := by simpa using gb3749
  refine lv_iload_n hx hb dX1_apart_5 rfl (lv_at hl 1 rfl) ?_
  refine t_ild X hT mb3749 gb3749 rfl (by omega) dX1_apart_6 (fun z3750 vz3750 rz3750 => ?_)
  have rz3750 : 0 ≤ z3750.toInt ∧ z3750.toInt ≤ 11 := rz3750
  refine lv_icmp_ge (tgt := 21) hx hb dX1_apart_7 (by decide) (fun c3751 => ?_) (fun c3751 => ?_)
  · have w3752 := cv_le (rfl : z3750.toInt = z3750.toInt) (rfl : p2.toInt = p2.toInt) c3751
    refine lv_iload_n hx hb dX1_apart_21 rfl (lv_at hl 2 rfl) ?_
    refine lv_aload_n hx hb dX1_apart_22 rfl (lv_at hl 0 rfl) ?_
    refine t_get (C := RX1) (T := TX1) (N := 20) X hT m0 g0 rfl rfl 11 (by decide) qw_52 inlX1 rfl dX1_apart_23 (fun v3753 hv3753 ov3753 => ?_)
    obtain rfl : v3753 = .ref b3749 := hv3753.symm.trans hv3748
    refine lv_iload_n hx hb dX1_apart_26 rfl (lv_at hl 1 rfl) ?_
    refine t_ild X hT mb3749 gb3749 rfl (by omega) dX1_apart_27 (fun z3754 vz3754 rz3754 => ?_)
    obtain rfl : z3754 = z3750 := vz3754.symm.trans vz3750
    refine lv_isub hx hb dX1_apart_28 ?_
    refine lv_topi (fun z3755 ez3755 => ?_)
    have hz3755 : z3755.toInt = p2.toInt - z3750.toInt := ar_sub ez3755 (rfl : p2.toInt = p2.toInt) (rfl : z3750.toInt = z3750.toInt) (by omega) (by omega)
    have rz3755 : (-11) ≤ z3755.toInt ∧ z3755.toInt ≤ 2147483647 := by omega
    exact K29 z3755 _ _ _  hT  (lv_sub hl [0, 1, 2, 3] rfl)
  · have w3756 := cv_nle (rfl : z3750.toInt = z3750.toInt) (rfl : p2.toInt = p2.toInt) c3751
    refine lv_aload_n hx hb dX1_apart_10 rfl (lv_at hl 0 rfl) ?_
    refine t_get (C := RX1) (T := TX1) (N := 20) X hT m0 g0 rfl rfl 11 (by decide) qw_52 inlX1 rfl dX1_apart_11 (fun v3757 hv3757 ov3757 => ?_)
    obtain rfl : v3757 = .ref b3749 := hv3757.symm.trans hv3748
    refine lv_iload_n hx hb dX1_apart_14 rfl (lv_at hl 1 rfl) ?_
    refine t_ild X hT mb3749 gb3749 rfl (by omega) dX1_apart_15 (fun z3758 vz3758 rz3758 => ?_)
    obtain rfl : z3758 = z3750 := vz3758.symm.trans vz3750
    refine lv_iload_n hx hb dX1_apart_16 rfl (lv_at hl 2 rfl) ?_
    refine lv_isub hx hb dX1_apart_17 ?_
    refine lv_topi (fun z3759 ez3759 => ?_)
    have rz3759 := rg_all z3759
    refine lv_goto (tgt := 29) hx hb dX1_apart_18 (by decide) ?_
    exact K29 z3759 _ _ _  hT  (lv_sub hl [0, 1, 2, 3] rfl)
set_option maxHeartbeats 4000000 in
set_option maxRecDepth 100000 in
theorem kt38_X6_ownersOf (l : Launch) (G : KG) (tag : Nat → Nat) (L : List Nat) (F : Nat → va_E) (ho : okT G ttC tag L F) (p0 : Nat) (p1 : Nat) (p2 : Int32) (p3 : Int32) (m0 : p0 ∈ L) (g0 : tag p0 = 18) (m1 : p1 ∈ L) (g1 : tag p1 = 19) : TMi l yX6_ownersOf cX6_ownersOf 6 (some .int) { frames := 1, cells := 0, slots := 0, locals := 25 } G ttC tag L F [.ref p0, .ref p1, .int p2, .int p3] (fun r F1 => F1 = F ∧ ((-2147483648) ≤ r.toInt ∧ r.toInt ≤ 2147483647)) := by
  refine t_bodyi (y := yX6_ownersOf) (cd := cX6_ownersOf) (mL := 6) (rt := (some .int)) (rm := { frames := 1, cells := 0, slots := 0, locals := 25 }) (av := [.ref p0, .ref p1, .int p2, .int p3]) (by decide) (Nat.le_of_ble_eq_true rfl) ho ?_
  intro p e s m args below meth c ls A Q hQ X hT hl
  have hx := X.1.1
  have hb := X.1.2.1
  have hl : lv_has ls 6 [(0, .ref p0), (1, .ref p1), (2, .int p2), (3, .int p3)] := hl
  have K6 : ∀ (n : Nat) (z3921 : Int32) (z3922 : Int32) (H : Heap) (locs : List Loc) (ls : Array Slot), (4 - z3922.toInt < (n : Int)) → (0 ≤ z3922.toInt ∧ z3922.toInt ≤ 4) → TH G ttC A s tag L F H locs → lv_has ls 6 [(0, .ref p0), (1, .ref p1), (2, .int p2), (3, .int p3), (4, .int z3921), (5, .int z3922)] → W p l e { frames := 1, cells := 0, slots := 0, locals := 25 } s m args below meth c H locs 0 0 Q (F0 m 6 ls []) := by
    intro n
    induction n with
    | zero =>
      intro z3921 z3922 H locs ls hn rz3922 hT hl
      exfalso
      omega
    | succ n ih6 =>
      intro z3921 z3922 H locs ls hn rz3922 hT hl
      have K42 : ∀ (z3923 : Int32) (z3924 : Int32) (H : Heap) (locs : List Loc) (ls : Array Slot), (1 ≤ z3924.toInt ∧ z3924.toInt ≤ 4) → TH G ttC A s tag L F H locs → fld F p0 10 = .int z3924 → lv_has ls 6 [(0, .ref p0), (1, .ref p1), (2, .int p2), (3, .int p3), (4, .int z3923), (5, .int z3922)] → W p l e { frames := 1, cells := 0, slots := 0, locals := 25 } s m args below meth c H locs 0 0 Q (F0 m 42 ls []) := by
        intro z3923 z3924 H locs ls rz3924 hT qz3924 hl
        obtain ⟨z3925, ez3925⟩ : ∃ y : Int32, y = z3922 + 1 := ⟨_, rfl⟩
        have hz3925 : z3925.toInt = z3922.toInt + 1 := ar_add ez3925 rfl (by decide : (1 : Int32).toInt = 1) (by omega) (by omega)
        refine lv_iinc (v := z3925) (lv' := [(5, .int z3925), (0, .ref p0), (1, .ref p1), (2, .int p2), (3, .int p3), (4, .int z3923)]) hx hb dX6_ownersOf_42 hl (k := 5) rfl (by rw [ez3925]; rfl) (by decide) rfl (fun ls hl => ?_)
        refine lv_goto (tgt := 6) hx hb dX6_ownersOf_45 (by decide) ?_
        exact ih6 z3923 z3925 _ _ _ (by omega) (by omega) hT  (lv_sub hl [1, 2, 3, 4, 5, 0] rfl)
      refine lv_iload hx hb dX6_ownersOf_6 (lv_at hl 5 rfl) ?_
      refine lv_aload_n hx hb dX6_ownersOf_8 rfl (lv_at hl 0 rfl) ?_
      refine t_get (C := RX1) (T := TX1) (N := 20) X hT m0 g0 rfl rfl 10 (by decide) qw_382 inlX1 rfl dX6_ownersOf_9 (fun v3926 hv3926 ov3926 => ?_)
      obtain ⟨z3927, rfl, rz3927⟩ := okV_i ov3926
      refine lv_icmp_ge (tgt := 48) hx hb dX6_ownersOf_12 (by decide) (fun c3928 => ?_) (fun c3928 => ?_)
      · have w3929 := cv_le (rfl : z3927.toInt = z3927.toInt) (rfl : z3922.toInt = z3922.toInt) c3928
        refine lv_iload hx hb dX6_ownersOf_48 (lv_at hl 4 rfl) ?_
        exact t_iret hQ X hT (⟨rfl, rg_all _⟩) (Nat.le_of_ble_eq_true rfl) (Nat.le_of_ble_eq_true rfl) dX6_ownersOf_50
      · have w3930 := cv_nle (rfl : z3927.toInt = z3927.toInt) (rfl : z3922.toInt = z3922.toInt) c3928
        refine lv_aload_n hx hb dX6_ownersOf_15 rfl (lv_at hl 0 rfl) ?_
        refine lv_iload hx hb dX6_ownersOf_16 (lv_at hl 5 rfl) ?_
        refine lv_iload_n hx hb dX6_ownersOf_18 rfl (lv_at hl 2 rfl) ?_
        refine lv_iload_n hx hb dX6_ownersOf_19 rfl (lv_at hl 3 rfl) ?_
        refine t_cVi (n := 3) (C := RX1) (T := TX1) (N := 20) (As := [.int z3922, .int p2, .int p3]) (rest := []) X hT (kt37_X1_apart l G tag L F hT.2.2.2 p0 z3922 p2 p3 m0 g0 (by omega)) m0 g0 rfl rfl qw_389 qw_390 qw_391 qw_17 qw_392 ⟨rfl, by decide +kernel, by decide +kernel, by decide +kernel⟩ ⟨Nat.le_of_ble_eq_true rfl, Nat.le_of_ble_eq_true rfl⟩ hl rfl rfl (Nat.le_of_ble_eq_true rfl) dX6_ownersOf_20 ⟨Nat.le_of_ble_eq_true rfl, Nat.le_of_ble_eq_true rfl⟩ (fun z3931 F9 H locs hT hz3931 => ?_)
        obtain ⟨fz3931, hz3931⟩ := hz3931
        rw [fz3931] at hT
        refine lv_aload_n hx hb dX6_ownersOf_23 rfl (lv_at hl 1 rfl) ?_
        refine t_get (C := RX7) (T := TX7) (N := 7) X hT m1 g1 rfl rfl 2 (by decide) qw_383 inlX7 rfl dX6_ownersOf_24 (fun v3932 hv3932 ov3932 => ?_)
        obtain ⟨b3933, rfl, mb3933, gb3933⟩ := okV_r ov3932
        have gb3933 : tag b3933 = 8 := by simpa using gb3933
        refine lv_iload hx hb dX6_ownersOf_27 (lv_at hl 5 rfl) ?_
        refine t_ild X hT mb3933 gb3933 rfl (by omega) dX6_ownersOf_29 (fun z3934 vz3934 rz3934 => ?_)
        have rz3934 : 0 ≤ z3934.toInt ∧ z3934.toInt ≤ 6 := rz3934
        refine lv_icmp_gt (tgt := 42) hx hb dX6_ownersOf_30 (by decide) (fun c3935 => ?_) (fun c3935 => ?_)
        · have w3936 := cv_lt (rfl : z3934.toInt = z3934.toInt) (rfl : z3931.toInt = z3931.toInt) c3935
          exact K42 z3921 z3927 _ _ _ (by omega) hT hv3926 (lv_sub hl [0, 1, 2, 3, 4, 5] rfl)
        · have w3937 := cv_nlt (rfl : z3934.toInt = z3934.toInt) (rfl : z3931.toInt = z3931.toInt) c3935
          refine lv_iload hx hb dX6_ownersOf_33 (lv_at hl 4 rfl) ?_
          refine lv_iconst (v := 1) hx hb dX6_ownersOf_35 (by decide) ?_
          refine lv_iload hx hb dX6_ownersOf_36 (lv_at hl 5 rfl) ?_
          refine lv_ishl hx hb dX6_ownersOf_38 ?_
          refine lv_topi (fun z3938 ez3938 => ?_)
          have rz3938 := rg_all z3938
          refine lv_ior hx hb dX6_ownersOf_39 ?_
          refine lv_topi (fun z3939 ez3939 => ?_)
          have rz3939 := rg_all z3939
          refine lv_istore (lv' := [(4, .int z3939), (0, .ref p0), (1, .ref p1), (2, .int p2), (3, .int p3), (5, .int z3922)]) hx hb dX6_ownersOf_40 hl (by decide) rfl (fun ls hl => ?_)
          exact K42 z3939 z3927 _ _ _ (by omega) hT hv3926 (lv_sub hl [1, 2, 3, 4, 0, 5] rfl)
  refine lv_iconst (v := 0) hx hb dX6_ownersOf_0 (by decide) ?_
  refine lv_istore (lv' := [(4, .int 0), (0, .ref p0), (1, .ref p1), (2, .int p2), (3, .int p3)]) hx hb dX6_ownersOf_1 hl (by decide) rfl (fun ls hl => ?_)
  refine lv_iconst (v := 0) hx hb dX6_ownersOf_3 (by decide) ?_
  refine lv_istore (lv' := [(5, .int 0), (4, .int 0), (0, .ref p0), (1, .ref p1), (2, .int p2), (3, .int p3)]) hx hb dX6_ownersOf_4 hl (by decide) rfl (fun ls hl => ?_)
  have kk3940 : (0 : Int32).toInt = 0 := by decide
  have kk3941 : (0 : Int32).toInt = 0 := by decide
  exact K6 5 0 0 _ _ _ (by omega) (by decide) hT  (lv_sub hl [2, 3, 4, 5, 1, 0] rfl)
set_option maxHeartbeats 4000000 in
set_option maxRecDepth 100000 in
theorem kt39_X1_isOn (l : Launch) (G : KG) (tag : Nat → Nat) (L : List Nat) (F : Nat → va_E) (ho : okT G ttC tag L F) (p0 : Nat) (p1 : Int32) (p2 : Int32) (m0 : p0 ∈ L) (g0 : tag p0 = 18) : TMi l yX1_isOn cX1_isOn 3 (some .boolean) { frames := 0, cells := 0, slots := 0, locals := 0 } G ttC tag L F [.ref p0, .int p1, .int p2] (fun r F1 => F1 = F ∧ (0 ≤ r.toInt ∧ r.toInt ≤ 1)) := by
  refine t_bodyi (y := yX1_isOn) (cd := cX1_isOn) (mL := 3) (rt := (some .boolean)) (rm := { frames := 0, cells := 0, slots := 0, locals := 0 }) (av := [.ref p0, .int p1, .int p2]) (by decide) (Nat.le_of_ble_eq_true rfl) ho ?_
  intro p e s m args below meth c ls A Q hQ X hT hl
  have hx := X.1.1
  have hb := X.1.2.1
  have hl : lv_has ls 3 [(0, .ref p0), (1, .int p1), (2, .int p2)] := hl
  refine lv_iload_n hx hb dX1_isOn_0 rfl (lv_at hl 1 rfl) ?_
  refine lv_if_lt (tgt := 28) hx hb dX1_isOn_1 (by decide) (fun c4006 => ?_) (fun c4006 => ?_)
  · have w4007 := cv_lt (rfl : p1.toInt = p1.toInt) (by decide : (0 : Int32).toInt = 0) c4006
    refine lv_iconst (v := 0) hx hb dX1_isOn_28 (by decide) ?_
    exact t_zret hQ X hT (by decide) (⟨rfl, (by decide)⟩) (Nat.le_of_ble_eq_true rfl) (Nat.le_of_ble_eq_true rfl) dX1_isOn_29
  · have w4008 := cv_nlt (rfl : p1.toInt = p1.toInt) (by decide : (0 : Int32).toInt = 0) c4006
    refine lv_iload_n hx hb dX1_isOn_4 rfl (lv_at hl 1 rfl) ?_
    refine lv_aload_n hx hb dX1_isOn_5 rfl (lv_at hl 0 rfl) ?_
    refine t_get (C := RX1) (T := TX1) (N := 20) X hT m0 g0 rfl rfl 0 (by decide) qw_177 inlX1 rfl dX1_isOn_6 (fun v4009 hv4009 ov4009 => ?_)
    obtain ⟨z4010, rfl, rz4010⟩ := okV_i ov4009
    refine lv_icmp_ge (tgt := 28) hx hb dX1_isOn_9 (by decide) (fun c4011 => ?_) (fun c4011 => ?_)
    · have w4012 := cv_le (rfl : z4010.toInt = z4010.toInt) (rfl : p1.toInt = p1.toInt) c4011
      refine lv_iconst (v := 0) hx hb dX1_isOn_28 (by decide) ?_
      exact t_zret hQ X hT (by decide) (⟨rfl, (by decide)⟩) (Nat.le_of_ble_eq_true rfl) (Nat.le_of_ble_eq_true rfl) dX1_isOn_29
    · have w4013 := cv_nle (rfl : z4010.toInt = z4010.toInt) (rfl : p1.toInt = p1.toInt) c4011
      refine lv_iload_n hx hb dX1_isOn_12 rfl (lv_at hl 2 rfl) ?_
      refine lv_if_lt (tgt := 28) hx hb dX1_isOn_13 (by decide) (fun c4014 => ?_) (fun c4014 => ?_)
      · have w4015 := cv_lt (rfl : p2.toInt = p2.toInt) (by decide : (0 : Int32).toInt = 0) c4014
        refine lv_iconst (v := 0) hx hb dX1_isOn_28 (by decide) ?_
        exact t_zret hQ X hT (by decide) (⟨rfl, (by decide)⟩) (Nat.le_of_ble_eq_true rfl) (Nat.le_of_ble_eq_true rfl) dX1_isOn_29
      · have w4016 := cv_nlt (rfl : p2.toInt = p2.toInt) (by decide : (0 : Int32).toInt = 0) c4014
        refine lv_iload_n hx hb dX1_isOn_16 rfl (lv_at hl 2 rfl) ?_
        refine lv_aload_n hx hb dX1_isOn_17 rfl (lv_at hl 0 rfl) ?_
        refine t_get (C := RX1) (T := TX1) (N := 20) X hT m0 g0 rfl rfl 1 (by decide) qw_178 inlX1 rfl dX1_isOn_18 (fun v4017 hv4017 ov4017 => ?_)
        obtain ⟨z4018, rfl, rz4018⟩ := okV_i ov4017
        refine lv_icmp_ge (tgt := 28) hx hb dX1_isOn_21 (by decide) (fun c4019 => ?_) (fun c4019 => ?_)
        · have w4020 := cv_le (rfl : z4018.toInt = z4018.toInt) (rfl : p2.toInt = p2.toInt) c4019
          refine lv_iconst (v := 0) hx hb dX1_isOn_28 (by decide) ?_
          exact t_zret hQ X hT (by decide) (⟨rfl, (by decide)⟩) (Nat.le_of_ble_eq_true rfl) (Nat.le_of_ble_eq_true rfl) dX1_isOn_29
        · have w4021 := cv_nle (rfl : z4018.toInt = z4018.toInt) (rfl : p2.toInt = p2.toInt) c4019
          refine lv_iconst (v := 1) hx hb dX1_isOn_24 (by decide) ?_
          refine lv_goto (tgt := 29) hx hb dX1_isOn_25 (by decide) ?_
          exact t_zret hQ X hT (by decide) (⟨rfl, (by decide)⟩) (Nat.le_of_ble_eq_true rfl) (Nat.le_of_ble_eq_true rfl) dX1_isOn_29
