set_option maxHeartbeats 4000000 in
set_option maxRecDepth 100000 in
theorem kt0_J0_coder_7d493 (l : Launch) (G : KG) (tag : Nat → Nat) (L : List Nat) (F : Nat → va_E) (ho : okT G ttC tag L F) (p0 : Nat) (h0 : p0 < 77) : TMi l yJ0_coder_7d493 cJ0_coder_7d493 1 (some .byte) { frames := 0, cells := 0, slots := 0, locals := 0 } G ttC tag L F [.ref (G.2 (100 + p0))] (fun r F1 => F1 = F ∧ (0 ≤ r.toInt ∧ r.toInt ≤ 0)) := by
  refine t_bodyi (y := yJ0_coder_7d493) (cd := cJ0_coder_7d493) (mL := 1) (rt := (some .byte)) (rm := { frames := 0, cells := 0, slots := 0, locals := 0 }) (av := [.ref (G.2 (100 + p0))]) (by decide) (Nat.le_of_ble_eq_true rfl) ho ?_
  intro p e s m args below meth c ls A Q hQ X hT hl
  have hx := X.1.1
  have hb := X.1.2.1
  have hl : lv_has ls 1 [(0, .ref (G.2 (100 + p0)))] := hl
  refine m_scs X hT qw_248 dJ0_coder_7d493_0 ?_
  refine lv_if_eq (tgt := 13) hx hb dJ0_coder_7d493_3 (by decide) (fun c9 => absurd c9 (by decide)) (fun _ => ?_)
  refine lv_aload_n hx hb dJ0_coder_7d493_6 rfl (lv_at hl 0 rfl) ?_
  refine m_scod X hT h0 qw_249 dJ0_coder_7d493_7 ?_
  refine lv_goto (tgt := 14) hx hb dJ0_coder_7d493_10 (by decide) ?_
  exact t_bret hQ X hT (by decide) (⟨rfl, (by decide)⟩) (Nat.le_of_ble_eq_true rfl) (Nat.le_of_ble_eq_true rfl) dJ0_coder_7d493_14
set_option maxHeartbeats 4000000 in
set_option maxRecDepth 100000 in
theorem kt1_J0_length_8abf5 (l : Launch) (G : KG) (tag : Nat → Nat) (L : List Nat) (F : Nat → va_E) (ho : okT G ttC tag L F) (p0 : Nat) (h0 : p0 < 77) : TMi l yJ0_length_8abf5 cJ0_length_8abf5 1 (some .int) { frames := 1, cells := 0, slots := 0, locals := 20 } G ttC tag L F [.ref (G.2 (100 + p0))] (fun r F1 => F1 = F ∧ (0 ≤ r.toInt ∧ r.toInt ≤ 8) ∧ (r.toInt = (lenS p0 : Int))) := by
  refine t_bodyi (y := yJ0_length_8abf5) (cd := cJ0_length_8abf5) (mL := 1) (rt := (some .int)) (rm := { frames := 1, cells := 0, slots := 0, locals := 20 }) (av := [.ref (G.2 (100 + p0))]) (by decide) (Nat.le_of_ble_eq_true rfl) ho ?_
  intro p e s m args below meth c ls A Q hQ X hT hl
  have hx := X.1.1
  have hb := X.1.2.1
  have hl : lv_has ls 1 [(0, .ref (G.2 (100 + p0)))] := hl
  refine lv_aload_n hx hb dJ0_length_8abf5_0 rfl (lv_at hl 0 rfl) ?_
  refine m_sval X hT h0 qw_243 dJ0_length_8abf5_1 ?_
  refine m_vlen X hT h0 dJ0_length_8abf5_4 (fun z34 hz34 => ?_)
  have rz34 := lenS_le p0
  refine lv_aload_n hx hb dJ0_length_8abf5_5 rfl (lv_at hl 0 rfl) ?_
  refine t_cKi (n := 0) (As := []) (rest := [.int z34]) X hT (kt0_J0_coder_7d493 l G tag L F hT.2.2.2 p0 h0) h0 qw_244 qw_245 qw_246 qw_241 qw_247 ⟨rfl, by decide +kernel, by decide +kernel, by decide +kernel⟩ ⟨Nat.le_of_ble_eq_true rfl, Nat.le_of_ble_eq_true rfl⟩ hl rfl rfl (Nat.le_of_ble_eq_true rfl) dJ0_length_8abf5_6 ⟨Nat.le_of_ble_eq_true rfl, Nat.le_of_ble_eq_true rfl⟩ (fun z35 F9 H locs hT hz35 => ?_)
  obtain ⟨fz35, hz35⟩ := hz35
  rw [fz35] at hT
  obtain rfl : z35 = 0 := i32_of (by rw [show ((0 : Int32).toInt = 0) from by decide]; omega)
  refine lv_ishr hx hb dJ0_length_8abf5_9 ?_
  refine lv_topi (fun z36 ez36 => ?_)
  obtain rfl : z34 = z36 := (ar_shr0 ez36).symm
  exact t_iret hQ X hT (⟨rfl, (by omega), (by omega)⟩) (Nat.le_of_ble_eq_true rfl) (Nat.le_of_ble_eq_true rfl) dJ0_length_8abf5_10
set_option maxHeartbeats 4000000 in
set_option maxRecDepth 100000 in
theorem kt2_J0_isLatin1_aae02 (l : Launch) (G : KG) (tag : Nat → Nat) (L : List Nat) (F : Nat → va_E) (ho : okT G ttC tag L F) (p0 : Nat) (h0 : p0 < 77) : TMi l yJ0_isLatin1_aae02 cJ0_isLatin1_aae02 1 (some .boolean) { frames := 0, cells := 0, slots := 0, locals := 0 } G ttC tag L F [.ref (G.2 (100 + p0))] (fun r F1 => F1 = F ∧ (1 ≤ r.toInt ∧ r.toInt ≤ 1)) := by
  refine t_bodyi (y := yJ0_isLatin1_aae02) (cd := cJ0_isLatin1_aae02) (mL := 1) (rt := (some .boolean)) (rm := { frames := 0, cells := 0, slots := 0, locals := 0 }) (av := [.ref (G.2 (100 + p0))]) (by decide) (Nat.le_of_ble_eq_true rfl) ho ?_
  intro p e s m args below meth c ls A Q hQ X hT hl
  have hx := X.1.1
  have hb := X.1.2.1
  have hl : lv_has ls 1 [(0, .ref (G.2 (100 + p0)))] := hl
  refine m_scs X hT qw_248 dJ0_isLatin1_aae02_0 ?_
  refine lv_if_eq (tgt := 17) hx hb dJ0_isLatin1_aae02_3 (by decide) (fun c9 => absurd c9 (by decide)) (fun _ => ?_)
  refine lv_aload_n hx hb dJ0_isLatin1_aae02_6 rfl (lv_at hl 0 rfl) ?_
  refine m_scod X hT h0 qw_249 dJ0_isLatin1_aae02_7 ?_
  refine lv_if_ne (tgt := 17) hx hb dJ0_isLatin1_aae02_10 (by decide) (fun c9 => absurd c9 (by decide)) (fun _ => ?_)
  refine lv_iconst (v := 1) hx hb dJ0_isLatin1_aae02_13 (by decide) ?_
  refine lv_goto (tgt := 18) hx hb dJ0_isLatin1_aae02_14 (by decide) ?_
  exact t_zret hQ X hT (by decide) (⟨rfl, (by decide)⟩) (Nat.le_of_ble_eq_true rfl) (Nat.le_of_ble_eq_true rfl) dJ0_isLatin1_aae02_18
set_option maxHeartbeats 4000000 in
set_option maxRecDepth 100000 in
theorem kt3_J3_checkIndex_8e157 (l : Launch) (G : KG) (tag : Nat → Nat) (L : List Nat) (F : Nat → va_E) (ho : okT G ttC tag L F) (p0 : Int32) (p1 : Int32) (h0 : 0 ≤ p0.toInt ∧ p0.toInt ≤ 2147483647) (xh0 : p0.toInt < p1.toInt) : TMi l yJ3_checkIndex_8e157 cJ3_checkIndex_8e157 3 (some .int) { frames := 0, cells := 0, slots := 0, locals := 0 } G ttC tag L F [.int p0, .int p1, .null] (fun r F1 => F1 = F ∧ (0 ≤ r.toInt ∧ r.toInt ≤ 2147483646)) := by
  refine t_bodyi (y := yJ3_checkIndex_8e157) (cd := cJ3_checkIndex_8e157) (mL := 3) (rt := (some .int)) (rm := { frames := 0, cells := 0, slots := 0, locals := 0 }) (av := [.int p0, .int p1, .null]) (by decide) (Nat.le_of_ble_eq_true rfl) ho ?_
  intro p e s m args below meth c ls A Q hQ X hT hl
  have hx := X.1.1
  have hb := X.1.2.1
  have hl : lv_has ls 3 [(0, .int p0), (1, .int p1), (2, .null)] := hl
  have rp1 := rg_all p1
  refine lv_iload_n hx hb dJ3_checkIndex_8e157_0 rfl (lv_at hl 0 rfl) ?_
  refine lv_if_lt (tgt := 9) hx hb dJ3_checkIndex_8e157_1 (by decide) (fun c108 => ?_) (fun c108 => ?_)
  · have w109 := cv_lt (rfl : p0.toInt = p0.toInt) (by decide : (0 : Int32).toInt = 0) c108
    exfalso
    omega
  · have w110 := cv_nlt (rfl : p0.toInt = p0.toInt) (by decide : (0 : Int32).toInt = 0) c108
    refine lv_iload_n hx hb dJ3_checkIndex_8e157_4 rfl (lv_at hl 0 rfl) ?_
    refine lv_iload_n hx hb dJ3_checkIndex_8e157_5 rfl (lv_at hl 1 rfl) ?_
    refine lv_icmp_lt (tgt := 16) hx hb dJ3_checkIndex_8e157_6 (by decide) (fun c111 => ?_) (fun c111 => ?_)
    · have w112 := cv_lt (rfl : p0.toInt = p0.toInt) (rfl : p1.toInt = p1.toInt) c111
      refine lv_iload_n hx hb dJ3_checkIndex_8e157_16 rfl (lv_at hl 0 rfl) ?_
      exact t_iret hQ X hT (⟨rfl, (by omega)⟩) (Nat.le_of_ble_eq_true rfl) (Nat.le_of_ble_eq_true rfl) dJ3_checkIndex_8e157_17
    · have w113 := cv_nlt (rfl : p0.toInt = p0.toInt) (rfl : p1.toInt = p1.toInt) c111
      exfalso
      omega
set_option maxHeartbeats 4000000 in
set_option maxRecDepth 100000 in
theorem kt4_J3_checkIndex_8e157 (l : Launch) (G : KG) (tag : Nat → Nat) (L : List Nat) (F : Nat → va_E) (ho : okT G ttC tag L F) (p0 : Int32) (p1 : Int32) (h0 : 0 ≤ p0.toInt ∧ p0.toInt ≤ 2147483647) (xh0 : p0.toInt < p1.toInt) : TMi l yJ3_checkIndex_8e157 cJ3_checkIndex_8e157 3 (some .int) { frames := 0, cells := 0, slots := 0, locals := 0 } G ttC tag L F [.int p0, .int p1, .ref (G.2 20)] (fun r F1 => F1 = F ∧ (0 ≤ r.toInt ∧ r.toInt ≤ 2147483646)) := by
  refine t_bodyi (y := yJ3_checkIndex_8e157) (cd := cJ3_checkIndex_8e157) (mL := 3) (rt := (some .int)) (rm := { frames := 0, cells := 0, slots := 0, locals := 0 }) (av := [.int p0, .int p1, .ref (G.2 20)]) (by decide) (Nat.le_of_ble_eq_true rfl) ho ?_
  intro p e s m args below meth c ls A Q hQ X hT hl
  have hx := X.1.1
  have hb := X.1.2.1
  have hl : lv_has ls 3 [(0, .int p0), (1, .int p1), (2, .ref (G.2 20))] := hl
  have rp1 := rg_all p1
  refine lv_iload_n hx hb dJ3_checkIndex_8e157_0 rfl (lv_at hl 0 rfl) ?_
  refine lv_if_lt (tgt := 9) hx hb dJ3_checkIndex_8e157_1 (by decide) (fun c181 => ?_) (fun c181 => ?_)
  · have w182 := cv_lt (rfl : p0.toInt = p0.toInt) (by decide : (0 : Int32).toInt = 0) c181
    exfalso
    omega
  · have w183 := cv_nlt (rfl : p0.toInt = p0.toInt) (by decide : (0 : Int32).toInt = 0) c181
    refine lv_iload_n hx hb dJ3_checkIndex_8e157_4 rfl (lv_at hl 0 rfl) ?_
    refine lv_iload_n hx hb dJ3_checkIndex_8e157_5 rfl (lv_at hl 1 rfl) ?_
    refine lv_icmp_lt (tgt := 16) hx hb dJ3_checkIndex_8e157_6 (by decide) (fun c184 => ?_) (fun c184 => ?_)
    · have w185 := cv_lt (rfl : p0.toInt = p0.toInt) (rfl : p1.toInt = p1.toInt) c184
      refine lv_iload_n hx hb dJ3_checkIndex_8e157_16 rfl (lv_at hl 0 rfl) ?_
      exact t_iret hQ X hT (⟨rfl, (by omega)⟩) (Nat.le_of_ble_eq_true rfl) (Nat.le_of_ble_eq_true rfl) dJ3_checkIndex_8e157_17
    · have w186 := cv_nlt (rfl : p0.toInt = p0.toInt) (rfl : p1.toInt = p1.toInt) c184
      exfalso
      omega
set_option maxHeartbeats 4000000 in
set_option maxRecDepth 100000 in
theorem kt5_J0_checkIndex_df160 (l : Launch) (G : KG) (tag : Nat → Nat) (L : List Nat) (F : Nat → va_E) (ho : okT G ttC tag L F) (p0 : Int32) (p1 : Int32) (h0 : 0 ≤ p0.toInt ∧ p0.toInt ≤ 2147483647) (xh0 : p0.toInt < p1.toInt) : TMv l yJ0_checkIndex_df160 cJ0_checkIndex_df160 2 { frames := 1, cells := 0, slots := 0, locals := 22 } G ttC tag L F [.int p0, .int p1] (fun F1 => F1 = F) := by
  refine t_bodyv (y := yJ0_checkIndex_df160) (cd := cJ0_checkIndex_df160) (mL := 2) (rm := { frames := 1, cells := 0, slots := 0, locals := 22 }) (av := [.int p0, .int p1]) (by decide) (Nat.le_of_ble_eq_true rfl) ho ?_
  intro p e s m args below meth c ls A Q hQ X hT hl
  have hx := X.1.1
  have hb := X.1.2.1
  have hl : lv_has ls 2 [(0, .int p0), (1, .int p1)] := hl
  have rp1 := rg_all p1
  refine lv_iload_n hx hb dJ0_checkIndex_df160_0 rfl (lv_at hl 0 rfl) ?_
  refine lv_iload_n hx hb dJ0_checkIndex_df160_1 rfl (lv_at hl 1 rfl) ?_
  refine m_sfm X hT qw_265 dJ0_checkIndex_df160_2 ?_ ?_
  · refine t_cSi (n := 3) (As := [.int p0, .int p1, .null]) (rest := []) X hT (kt3_J3_checkIndex_8e157 l G tag L F hT.2.2.2 p0 p1 (by omega) (by omega)) qw_266 qw_267 qw_268 qw_269 ⟨by decide +kernel, by decide +kernel, by decide +kernel⟩ ⟨Nat.le_of_ble_eq_true rfl, Nat.le_of_ble_eq_true rfl⟩ hl rfl rfl (Nat.le_of_ble_eq_true rfl) dJ0_checkIndex_df160_5 ⟨Nat.le_of_ble_eq_true rfl, Nat.le_of_ble_eq_true rfl⟩ (fun z208 F9 H locs hT hz208 => ?_)
    obtain ⟨fz208, hz208⟩ := hz208
    rw [fz208] at hT
    refine lv_pop hx hb dJ0_checkIndex_df160_8 rfl ?_
    exact t_vret hQ X hT rfl (Nat.le_of_ble_eq_true rfl) (Nat.le_of_ble_eq_true rfl) dJ0_checkIndex_df160_9
  · refine t_cSi (n := 3) (As := [.int p0, .int p1, .ref (G.2 20)]) (rest := []) X hT (kt4_J3_checkIndex_8e157 l G tag L F hT.2.2.2 p0 p1 (by omega) (by omega)) qw_266 qw_267 qw_268 qw_269 ⟨by decide +kernel, by decide +kernel, by decide +kernel⟩ ⟨Nat.le_of_ble_eq_true rfl, Nat.le_of_ble_eq_true rfl⟩ hl rfl rfl (Nat.le_of_ble_eq_true rfl) dJ0_checkIndex_df160_5 ⟨Nat.le_of_ble_eq_true rfl, Nat.le_of_ble_eq_true rfl⟩ (fun z209 F9 H locs hT hz209 => ?_)
    obtain ⟨fz209, hz209⟩ := hz209
    rw [fz209] at hT
    refine lv_pop hx hb dJ0_checkIndex_df160_8 rfl ?_
    exact t_vret hQ X hT rfl (Nat.le_of_ble_eq_true rfl) (Nat.le_of_ble_eq_true rfl) dJ0_checkIndex_df160_9
set_option maxHeartbeats 4000000 in
set_option maxRecDepth 100000 in
theorem kt6_J1_charAt_3b067 (l : Launch) (G : KG) (tag : Nat → Nat) (L : List Nat) (F : Nat → va_E) (ho : okT G ttC tag L F) (p0 : Nat) (p1 : Int32) (h0 : p0 < 77) (h1 : 0 ≤ p1.toInt ∧ p1.toInt ≤ 2147483647) (xh0 : p1.toInt < (lenS p0 : Int)) : TMi l yJ1_charAt_3b067 cJ1_charAt_3b067 2 (some .char) { frames := 2, cells := 0, slots := 0, locals := 43 } G ttC tag L F [.ref (G.2 (300 + p0)), .int p1] (fun r F1 => F1 = F ∧ ((-2147483648) ≤ r.toInt ∧ r.toInt ≤ 2147483647) ∧ (narrow .char (.int r) = .int r)) := by
  refine t_bodyi (y := yJ1_charAt_3b067) (cd := cJ1_charAt_3b067) (mL := 2) (rt := (some .char)) (rm := { frames := 2, cells := 0, slots := 0, locals := 43 }) (av := [.ref (G.2 (300 + p0)), .int p1]) (by decide) (Nat.le_of_ble_eq_true rfl) ho ?_
  intro p e s m args below meth c ls A Q hQ X hT hl
  have hx := X.1.1
  have hb := X.1.2.1
  have hl : lv_has ls 2 [(0, .ref (G.2 (300 + p0))), (1, .int p1)] := hl
  refine lv_iload_n hx hb dJ1_charAt_3b067_0 rfl (lv_at hl 1 rfl) ?_
  refine lv_aload_n hx hb dJ1_charAt_3b067_1 rfl (lv_at hl 0 rfl) ?_
  refine m_vlen X hT h0 dJ1_charAt_3b067_2 (fun z264 hz264 => ?_)
  have rz264 := lenS_le p0
  refine t_cSv (n := 2) (As := [.int p1, .int z264]) (rest := []) X hT (kt5_J0_checkIndex_df160 l G tag L F hT.2.2.2 p1 z264 (by omega) (by omega)) qw_262 qw_263 qw_241 qw_264 ⟨by decide +kernel, by decide +kernel, by decide +kernel⟩ ⟨Nat.le_of_ble_eq_true rfl, Nat.le_of_ble_eq_true rfl⟩ hl rfl rfl (Nat.le_of_ble_eq_true rfl) dJ1_charAt_3b067_3 ⟨Nat.le_of_ble_eq_true rfl, Nat.le_of_ble_eq_true rfl⟩ (fun F9 H locs hT hz265 => ?_)
  rw [hz265] at hT
  refine lv_aload_n hx hb dJ1_charAt_3b067_6 rfl (lv_at hl 0 rfl) ?_
  refine lv_iload_n hx hb dJ1_charAt_3b067_7 rfl (lv_at hl 1 rfl) ?_
  refine m_vld X hT h0 (by omega) dJ1_charAt_3b067_8 (fun z266 => ?_)
  have rz266 := rg_all z266
  refine lv_sipush (v := 255) hx hb dJ1_charAt_3b067_9 (by decide) ?_
  refine lv_iand hx hb dJ1_charAt_3b067_12 ?_
  refine lv_topi (fun z267 ez267 => ?_)
  have rz267 : 0 ≤ z267.toInt ∧ z267.toInt ≤ 255 := ar_and ez267 8 (by decide) (by decide)
  refine lv_i2c hx hb dJ1_charAt_3b067_13 rfl ?_
  refine lv_topi (fun z268 ez268 => ?_)
  have nz268 : narrow .char (.int z268) = .int z268 := by rw [ez268]; exact pk_nc _
  have rz268 := rg_all z268
  exact t_cret hQ X hT nz268 (⟨rfl, rg_all _, nz268⟩) (Nat.le_of_ble_eq_true rfl) (Nat.le_of_ble_eq_true rfl) dJ1_charAt_3b067_14
set_option maxHeartbeats 4000000 in
set_option maxRecDepth 100000 in
theorem kt7_J0_charAt_5068e (l : Launch) (G : KG) (tag : Nat → Nat) (L : List Nat) (F : Nat → va_E) (ho : okT G ttC tag L F) (p0 : Nat) (p1 : Int32) (h0 : p0 < 77) (h1 : 0 ≤ p1.toInt ∧ p1.toInt ≤ 2147483647) (xh0 : p1.toInt < (lenS p0 : Int)) : TMi l yJ0_charAt_5068e cJ0_charAt_5068e 2 (some .char) { frames := 3, cells := 0, slots := 0, locals := 64 } G ttC tag L F [.ref (G.2 (100 + p0)), .int p1] (fun r F1 => F1 = F ∧ ((-2147483648) ≤ r.toInt ∧ r.toInt ≤ 2147483647) ∧ (narrow .char (.int r) = .int r)) := by
  refine t_bodyi (y := yJ0_charAt_5068e) (cd := cJ0_charAt_5068e) (mL := 2) (rt := (some .char)) (rm := { frames := 3, cells := 0, slots := 0, locals := 64 }) (av := [.ref (G.2 (100 + p0)), .int p1]) (by decide) (Nat.le_of_ble_eq_true rfl) ho ?_
  intro p e s m args below meth c ls A Q hQ X hT hl
  have hx := X.1.1
  have hb := X.1.2.1
  have hl : lv_has ls 2 [(0, .ref (G.2 (100 + p0))), (1, .int p1)] := hl
  refine lv_aload_n hx hb dJ0_charAt_5068e_0 rfl (lv_at hl 0 rfl) ?_
  refine t_cKi (n := 0) (As := []) (rest := []) X hT (kt2_J0_isLatin1_aae02 l G tag L F hT.2.2.2 p0 h0) h0 qw_254 qw_255 qw_256 qw_241 qw_257 ⟨rfl, by decide +kernel, by decide +kernel, by decide +kernel⟩ ⟨Nat.le_of_ble_eq_true rfl, Nat.le_of_ble_eq_true rfl⟩ hl rfl rfl (Nat.le_of_ble_eq_true rfl) dJ0_charAt_5068e_1 ⟨Nat.le_of_ble_eq_true rfl, Nat.le_of_ble_eq_true rfl⟩ (fun z320 F9 H locs hT hz320 => ?_)
  obtain ⟨fz320, hz320⟩ := hz320
  rw [fz320] at hT
  refine lv_if_eq (tgt := 16) hx hb dJ0_charAt_5068e_4 (by decide) (fun c321 => ?_) (fun c321 => ?_)
  · have w322 := cv_eq (rfl : z320.toInt = z320.toInt) (by decide : (0 : Int32).toInt = 0) c321
    exfalso
    omega
  · have w323 := cv_ne (rfl : z320.toInt = z320.toInt) (by decide : (0 : Int32).toInt = 0) c321
    refine lv_aload_n hx hb dJ0_charAt_5068e_7 rfl (lv_at hl 0 rfl) ?_
    refine m_sval X hT h0 qw_243 dJ0_charAt_5068e_8 ?_
    refine lv_iload_n hx hb dJ0_charAt_5068e_11 rfl (lv_at hl 1 rfl) ?_
    refine t_cSi (n := 2) (As := [.ref (G.2 (300 + p0)), .int p1]) (rest := []) X hT (kt6_J1_charAt_3b067 l G tag L F hT.2.2.2 p0 p1 h0 (by omega) (by omega)) qw_258 qw_259 qw_260 qw_261 ⟨by decide +kernel, by decide +kernel, by decide +kernel⟩ ⟨Nat.le_of_ble_eq_true rfl, Nat.le_of_ble_eq_true rfl⟩ hl rfl rfl (Nat.le_of_ble_eq_true rfl) dJ0_charAt_5068e_12 ⟨Nat.le_of_ble_eq_true rfl, Nat.le_of_ble_eq_true rfl⟩ (fun z324 F9 H locs hT hz324 => ?_)
    obtain ⟨fz324, hz324, xz324_0⟩ := hz324
    rw [fz324] at hT
    exact t_cret hQ X hT xz324_0 (⟨rfl, rg_all _, xz324_0⟩) (Nat.le_of_ble_eq_true rfl) (Nat.le_of_ble_eq_true rfl) dJ0_charAt_5068e_15
set_option maxHeartbeats 4000000 in
set_option maxRecDepth 100000 in
theorem km8_X13_wordOf (l : Launch) (G : KG) (tag : Nat → Nat) (L : List Nat) (F : Nat → va_E) (ho : okT G ttC tag L F) (p0 : Nat) (h0 : p0 < 77) : TMl l yX13_wordOf cX13_wordOf 4 { frames := 4, cells := 0, slots := 0, locals := 85 } G ttC tag L F [.ref (G.2 (100 + p0))] (fun r F1 => F1 = F) := by
  refine t_bodyl (y := yX13_wordOf) (cd := cX13_wordOf) (mL := 4) (rm := { frames := 4, cells := 0, slots := 0, locals := 85 }) (av := [.ref (G.2 (100 + p0))]) (by decide) (Nat.le_of_ble_eq_true rfl) ho ?_
  intro p e s m args below meth c ls A Q hQ X hT hl
  have hx := X.1.1
  have hb := X.1.2.1
  have hl : lv_has ls 4 [(0, .ref (G.2 (100 + p0)))] := hl
  have K4 : ∀ (n : Nat) (z540 : Int64) (z541 : Int32) (H : Heap) (locs : List Loc) (ls : Array Slot), (8 - z541.toInt < (n : Int)) → (0 ≤ z541.toInt ∧ z541.toInt ≤ 8) → TH G ttC A s tag L F H locs → lv_has ls 4 [(0, .ref (G.2 (100 + p0))), (1, .long z540), (3, .int z541)] → W p l e { frames := 4, cells := 0, slots := 0, locals := 85 } s m args below meth c H locs 0 0 Q (F0 m 4 ls []) := by
    intro n
    induction n with
    | zero =>
      intro z540 z541 H locs ls hn rz541 hT hl
      exfalso
      omega
    | succ n ih4 =>
      intro z540 z541 H locs ls hn rz541 hT hl
      refine lv_iload_n hx hb dX13_wordOf_4 rfl (lv_at hl 2 rfl) ?_
      refine lv_aload_n hx hb dX13_wordOf_5 rfl (lv_at hl 0 rfl) ?_
      refine t_cKi (n := 0) (As := []) (rest := [.int z541]) X hT (kt1_J0_length_8abf5 l G tag L F hT.2.2.2 p0 h0) h0 qw_542 qw_239 qw_240 qw_241 qw_242 ⟨rfl, by decide +kernel, by decide +kernel, by decide +kernel⟩ ⟨Nat.le_of_ble_eq_true rfl, Nat.le_of_ble_eq_true rfl⟩ hl rfl rfl (Nat.le_of_ble_eq_true rfl) dX13_wordOf_6 ⟨Nat.le_of_ble_eq_true rfl, Nat.le_of_ble_eq_true rfl⟩ (fun z542 F9 H locs hT hz542 => ?_)
      obtain ⟨fz542, hz542, xz542_0⟩ := hz542
      rw [fz542] at hT
      refine lv_icmp_ge (tgt := 36) hx hb dX13_wordOf_9 (by decide) (fun c543 => ?_) (fun c543 => ?_)
      · have w544 := cv_le (rfl : z542.toInt = z542.toInt) (rfl : z541.toInt = z541.toInt) c543
        refine lv_lload_n hx hb dX13_wordOf_36 rfl (lv_at hl 1 rfl) ?_
        exact t_lret hQ X hT rfl (Nat.le_of_ble_eq_true rfl) (Nat.le_of_ble_eq_true rfl) dX13_wordOf_37
      · have w545 := cv_nle (rfl : z542.toInt = z542.toInt) (rfl : z541.toInt = z541.toInt) c543
        refine m_ldc2 (v := 32) X qw_515 dX13_wordOf_12 ?_
        refine lv_lload_n hx hb dX13_wordOf_15 rfl (lv_at hl 1 rfl) ?_
        refine lv_lmul hx hb dX13_wordOf_16 ?_
        refine lv_topl (fun z546 ez546 => ?_)
        refine lv_aload_n hx hb dX13_wordOf_17 rfl (lv_at hl 0 rfl) ?_
        refine lv_iload_n hx hb dX13_wordOf_18 rfl (lv_at hl 2 rfl) ?_
        refine t_cKi (n := 1) (As := [.int z541]) (rest := [.long z546]) X hT (kt7_J0_charAt_5068e l G tag L F hT.2.2.2 p0 z541 h0 (by omega) (by omega)) h0 qw_543 qw_251 qw_252 qw_241 qw_253 ⟨rfl, by decide +kernel, by decide +kernel, by decide +kernel⟩ ⟨Nat.le_of_ble_eq_true rfl, Nat.le_of_ble_eq_true rfl⟩ hl rfl rfl (Nat.le_of_ble_eq_true rfl) dX13_wordOf_19 ⟨Nat.le_of_ble_eq_true rfl, Nat.le_of_ble_eq_true rfl⟩ (fun z547 F9 H locs hT hz547 => ?_)
        obtain ⟨fz547, hz547, xz547_0⟩ := hz547
        rw [fz547] at hT
        refine lv_bipush (v := 97) hx hb dX13_wordOf_22 (by decide) ?_
        refine lv_isub hx hb dX13_wordOf_24 ?_
        refine lv_topi (fun z548 ez548 => ?_)
        have rz548 := rg_all z548
        refine lv_iconst (v := 1) hx hb dX13_wordOf_25 (by decide) ?_
        refine lv_iadd hx hb dX13_wordOf_26 ?_
        refine lv_topi (fun z549 ez549 => ?_)
        have rz549 := rg_all z549
        refine lv_i2l hx hb dX13_wordOf_27 rfl ?_
        refine lv_topl (fun z550 ez550 => ?_)
        refine lv_ladd hx hb dX13_wordOf_28 ?_
        refine lv_topl (fun z551 ez551 => ?_)
        refine lv_lstore_n (lv' := [(1, .long z551), (0, .ref (G.2 (100 + p0))), (3, .int z541)]) hx hb dX13_wordOf_29 rfl hl (by decide) rfl (fun ls hl => ?_)
        obtain ⟨z552, ez552⟩ : ∃ y : Int32, y = z541 + 1 := ⟨_, rfl⟩
        have hz552 : z552.toInt = z541.toInt + 1 := ar_add ez552 rfl (by decide : (1 : Int32).toInt = 1) (by omega) (by omega)
        refine lv_iinc (v := z552) (lv' := [(3, .int z552), (1, .long z551), (0, .ref (G.2 (100 + p0)))]) hx hb dX13_wordOf_30 hl (k := 2) rfl (by rw [ez552]; rfl) (by decide) rfl (fun ls hl => ?_)
        refine lv_goto (tgt := 4) hx hb dX13_wordOf_33 (by decide) ?_
        exact ih4 z551 z552 _ _ _ (by omega) (by omega) hT  (lv_sub hl [2, 1, 0] rfl)
  refine lv_lconst (v := 0) hx hb dX13_wordOf_0 (by decide) ?_
  refine lv_lstore_n (lv' := [(1, .long (0 : Int64)), (0, .ref (G.2 (100 + p0)))]) hx hb dX13_wordOf_1 rfl hl (by decide) rfl (fun ls hl => ?_)
  refine lv_iconst (v := 0) hx hb dX13_wordOf_2 (by decide) ?_
  refine lv_istore_n (lv' := [(3, .int 0), (1, .long (0 : Int64)), (0, .ref (G.2 (100 + p0)))]) hx hb dX13_wordOf_3 rfl hl (by decide) rfl (fun ls hl => ?_)
  have k553 : (0 : Int32).toInt = 0 := by decide
  exact K4 9 (0 : Int64) 0 _ _ _ (by omega) (by decide) hT  (lv_sub hl [2, 1, 0] rfl)
set_option maxHeartbeats 4000000 in
set_option maxRecDepth 100000 in
theorem km9_X13_isWord (l : Launch) (G : KG) (tag : Nat → Nat) (L : List Nat) (F : Nat → va_E) (ho : okT G ttC tag L F) (p0 : Nat) (p1 : Nat) (x0 : Int32) (m0 : p0 ∈ L) (g0 : tag p0 = 46) (h1 : p1 < 77) (hx0 : 0 ≤ x0.toInt ∧ x0.toInt ≤ 5) (pf0 : fld F p0 9 = .int x0) : TMi l yX13_isWord cX13_isWord 2 (some .boolean) { frames := 5, cells := 0, slots := 0, locals := 108 } G ttC tag L F [.ref p0, .ref (G.2 (100 + p1))] (fun r F1 => F1 = F ∧ (0 ≤ r.toInt ∧ r.toInt ≤ 1) ∧ (r.toInt ≠ 0 → x0.toInt = 2)) := by
  refine t_bodyi (y := yX13_isWord) (cd := cX13_isWord) (mL := 2) (rt := (some .boolean)) (rm := { frames := 5, cells := 0, slots := 0, locals := 108 }) (av := [.ref p0, .ref (G.2 (100 + p1))]) (by decide) (Nat.le_of_ble_eq_true rfl) ho ?_
  intro p e s m args below meth c ls A Q hQ X hT hl
  have hx := X.1.1
  have hb := X.1.2.1
  have hl : lv_has ls 2 [(0, .ref p0), (1, .ref (G.2 (100 + p1)))] := hl
  refine lv_aload_n hx hb dX13_isWord_0 rfl (lv_at hl 0 rfl) ?_
  refine t_get (C := RX13) (T := TX13) (N := 37) X hT m0 g0 rfl rfl 9 (by decide) qw_478 inlX13 rfl dX13_isWord_1 (fun v669 hv669 ov669 => ?_)
  obtain rfl : v669 = .int x0 := hv669.symm.trans pf0
  refine lv_iconst (v := 2) hx hb dX13_isWord_4 (by decide) ?_
  refine lv_icmp_ne (tgt := 24) hx hb dX13_isWord_5 (by decide) (fun c670 => ?_) (fun c670 => ?_)
  · have w671 := cv_ne (rfl : x0.toInt = x0.toInt) (by decide : (2 : Int32).toInt = 2) c670
    refine lv_iconst (v := 0) hx hb dX13_isWord_24 (by decide) ?_
    have k672 : (0 : Int32).toInt = 0 := by decide
    exact t_zret hQ X hT (by decide) (⟨rfl, (by decide), (by omega)⟩) (Nat.le_of_ble_eq_true rfl) (Nat.le_of_ble_eq_true rfl) dX13_isWord_25
  · have w673 := cv_eq (rfl : x0.toInt = x0.toInt) (by decide : (2 : Int32).toInt = 2) c670
    refine lv_aload_n hx hb dX13_isWord_8 rfl (lv_at hl 0 rfl) ?_
    refine t_get (C := RX13) (T := TX13) (N := 37) X hT m0 g0 rfl rfl 15 (by decide) qw_514 inlX13 rfl dX13_isWord_9 (fun v674 hv674 ov674 => ?_)
    obtain ⟨z675, rfl⟩ := ov674
    refine lv_aload_n hx hb dX13_isWord_12 rfl (lv_at hl 1 rfl) ?_
    refine t_cSl (n := 1) (As := [.ref (G.2 (100 + p1))]) (rest := [.long z675]) X hT (km8_X13_wordOf l G tag L F hT.2.2.2 p1 h1) qw_539 qw_540 qw_5 qw_541 ⟨by decide +kernel, by decide +kernel, by decide +kernel⟩ ⟨Nat.le_of_ble_eq_true rfl, Nat.le_of_ble_eq_true rfl⟩ hl rfl rfl (Nat.le_of_ble_eq_true rfl) dX13_isWord_13 ⟨Nat.le_of_ble_eq_true rfl, Nat.le_of_ble_eq_true rfl⟩ (fun z676 F9 H locs hT hz676 => ?_)
    rw [hz676] at hT
    refine m_lcmp X dX13_isWord_16 (fun z677 rz677 => ?_)
    refine lv_if_ne (tgt := 24) hx hb dX13_isWord_17 (by decide) (fun c678 => ?_) (fun c678 => ?_)
    · have w679 := cv_ne (rfl : z677.toInt = z677.toInt) (by decide : (0 : Int32).toInt = 0) c678
      refine lv_iconst (v := 0) hx hb dX13_isWord_24 (by decide) ?_
      have k680 : (0 : Int32).toInt = 0 := by decide
      exact t_zret hQ X hT (by decide) (⟨rfl, (by decide), (by omega)⟩) (Nat.le_of_ble_eq_true rfl) (Nat.le_of_ble_eq_true rfl) dX13_isWord_25
    · have w681 := cv_eq (rfl : z677.toInt = z677.toInt) (by decide : (0 : Int32).toInt = 0) c678
      refine lv_iconst (v := 1) hx hb dX13_isWord_20 (by decide) ?_
      refine lv_goto (tgt := 25) hx hb dX13_isWord_21 (by decide) ?_
      have k682 : (1 : Int32).toInt = 1 := by decide
      exact t_zret hQ X hT (by decide) (⟨rfl, (by decide), (by omega)⟩) (Nat.le_of_ble_eq_true rfl) (Nat.le_of_ble_eq_true rfl) dX13_isWord_25
set_option maxHeartbeats 4000000 in
set_option maxRecDepth 100000 in
theorem km10_X13_flaw (l : Launch) (G : KG) (tag : Nat → Nat) (L : List Nat) (Fo : Nat → va_E) (ho : okT G ttC tag L Fo) (p0 : Nat) (p1 : Int32) (x0 : Nat) (x1 : Nat) (x2 : Nat) (x3 : Int32) (x4 : Int32) (x5 : Int32) (m0 : p0 ∈ L) (g0 : tag p0 = 46) (h1 : 1 ≤ p1.toInt ∧ p1.toInt ≤ 7) (mx0 : x0 ∈ L) (gx0 : tag x0 = 44) (pf0 : fld Fo p0 4 = .ref x0) (mx1 : x1 ∈ L) (gx1 : tag x1 = 35) (pf1 : fld Fo x0 28 = .ref x1) (mx2 : x2 ∈ L) (gx2 : tag x2 = 36) (pf2 : fld Fo x0 29 = .ref x2) (hx3 : 0 ≤ x3.toInt ∧ x3.toInt ≤ 5) (pf3 : fld Fo p0 9 = .int x3) (hx4 : 0 ≤ x4.toInt ∧ x4.toInt ≤ 1000) (pf4 : fld Fo p0 8 = .int x4) (hx5 : 0 ≤ x5.toInt ∧ x5.toInt ≤ 7) (pf5 : fld Fo p0 13 = .int x5) (hkf : KF x3 x5) : TMv l yX13_flaw cX13_flaw 2 { frames := 0, cells := 0, slots := 0, locals := 0 } G ttC tag L Fo [.ref p0, .int p1] (fun F1 => ((∀ b j : Nat, (tag b ≠ 46 ∨ j ≠ 9) → (tag b ≠ 46 ∨ j ≠ 13) → (tag b ≠ 46 ∨ j ≠ 14) → fld F1 b j = fld Fo b j) ∧ (∀ b j : Nat, elm F1 b j = elm Fo b j)) ∧ (∃ so sp fa : Int32, fld F1 p0 9 = .int so ∧ fld F1 p0 8 = .int sp ∧ fld F1 p0 13 = .int fa ∧ (0 ≤ so.toInt ∧ so.toInt ≤ 5) ∧ (0 ≤ sp.toInt ∧ sp.toInt ≤ 1000) ∧ (0 ≤ fa.toInt ∧ fa.toInt ≤ 7) ∧ STK x3 so ∧ SPT x3 x4 so sp ∧ KF so fa ∧ (so.toInt = 5))) := by
  refine t_bodyv (y := yX13_flaw) (cd := cX13_flaw) (mL := 2) (rm := { frames := 0, cells := 0, slots := 0, locals := 0 }) (av := [.ref p0, .int p1]) (by decide) (Nat.le_of_ble_eq_true rfl) ho ?_
  intro p e s m args below meth c ls A Q hQ X hT hl
  have hx := X.1.1
  have hb := X.1.2.1
  have hl : lv_has ls 2 [(0, .ref p0), (1, .int p1)] := hl
  obtain ⟨F, hFo⟩ : ∃ F : Nat → va_E, F = Fo := ⟨_, rfl⟩
  rw [← hFo] at hT pf0 pf1 pf2 pf3 pf4 pf5
  have hfr : (∀ b j : Nat, (tag b ≠ 46 ∨ j ≠ 9) → (tag b ≠ 46 ∨ j ≠ 13) → (tag b ≠ 46 ∨ j ≠ 14) → fld F b j = fld Fo b j) ∧ (∀ b j : Nat, elm F b j = elm Fo b j) := by
    rw [hFo]
    exact ⟨by intros; rfl, by intros; rfl⟩
  refine lv_aload_n hx hb dX13_flaw_0 rfl (lv_at hl 0 rfl) ?_
  refine t_get (C := RX13) (T := TX13) (N := 37) X hT m0 g0 rfl rfl 9 (by decide) qw_478 inlX13 rfl dX13_flaw_1 (fun v815 hv815 ov815 => ?_)
  obtain rfl : v815 = .int x3 := hv815.symm.trans pf3
  refine lv_iconst (v := 5) hx hb dX13_flaw_4 (by decide) ?_
  refine lv_icmp_ne (tgt := 9) hx hb dX13_flaw_5 (by decide) (fun c816 => ?_) (fun c816 => ?_)
  · have w817 := cv_ne (rfl : x3.toInt = x3.toInt) (by decide : (5 : Int32).toInt = 5) c816
    refine lv_aload_n hx hb dX13_flaw_9 rfl (lv_at hl 0 rfl) ?_
    refine lv_iload_n hx hb dX13_flaw_10 rfl (lv_at hl 1 rfl) ?_
    refine t_put (C := RX13) (T := TX13) (N := 37) (v := .int p1) X hT m0 g0 rfl tyX13 tyX13_ok nmX13 rfl 13 (by decide) qw_473 inlX13 rfl (by first | rfl | decide) (by first | rfl | decide) rfl (⟨_, rfl, (show 0 ≤ (p1 : Int32).toInt from (by omega)), (show (p1 : Int32).toInt ≤ 7 from (by omega))⟩) dX13_flaw_11 (fun F H locs hT v818 h1v818 h2v818 => ?_)
    have pf0 := (h1v818 _ _ (Or.inr (by decide))).trans pf0
    have pf1 := (h1v818 _ _ (Or.inr (by decide))).trans pf1
    have pf2 := (h1v818 _ _ (Or.inr (by decide))).trans pf2
    have pf3 := (h1v818 _ _ (Or.inr (by decide))).trans pf3
    have pf4 := (h1v818 _ _ (Or.inr (by decide))).trans pf4
    have hfr : (∀ b j : Nat, (tag b ≠ 46 ∨ j ≠ 9) → (tag b ≠ 46 ∨ j ≠ 13) → (tag b ≠ 46 ∨ j ≠ 14) → fld F b j = fld Fo b j) ∧ (∀ b j : Nat, elm F b j = elm Fo b j) := ⟨fun b j n46_9 n46_13 n46_14 => (h1v818 b j (fr_ne g0 n46_13)).trans (hfr.1 b j n46_9 n46_13 n46_14), fun b j  => (h2v818 b j).trans (hfr.2 b j )⟩
    refine lv_aload_n hx hb dX13_flaw_14 rfl (lv_at hl 0 rfl) ?_
    refine lv_aload_n hx hb dX13_flaw_15 rfl (lv_at hl 0 rfl) ?_
    refine t_get (C := RX13) (T := TX13) (N := 37) X hT m0 g0 rfl rfl 10 (by decide) qw_512 inlX13 rfl dX13_flaw_16 (fun v819 hv819 ov819 => ?_)
    obtain ⟨z820, rfl, rz820⟩ := okV_i ov819
    refine t_put (C := RX13) (T := TX13) (N := 37) (v := .int z820) X hT m0 g0 rfl tyX13 tyX13_ok nmX13 rfl 14 (by decide) qw_480 inlX13 rfl (by first | rfl | decide) (by first | rfl | decide) rfl (⟨_, rfl, (show (-2147483648) ≤ (z820 : Int32).toInt from (by omega)), (show (z820 : Int32).toInt ≤ 2147483647 from (by omega))⟩) dX13_flaw_19 (fun F H locs hT v821 h1v821 h2v821 => ?_)
    have pf0 := (h1v821 _ _ (Or.inr (by decide))).trans pf0
    have pf1 := (h1v821 _ _ (Or.inr (by decide))).trans pf1
    have pf2 := (h1v821 _ _ (Or.inr (by decide))).trans pf2
    have pf3 := (h1v821 _ _ (Or.inr (by decide))).trans pf3
    have pf4 := (h1v821 _ _ (Or.inr (by decide))).trans pf4
    have v818 := (h1v821 _ _ (Or.inr (by decide))).trans v818
    have hv819 := (h1v821 _ _ (Or.inr (by decide))).trans hv819
    have hfr : (∀ b j : Nat, (tag b ≠ 46 ∨ j ≠ 9) → (tag b ≠ 46 ∨ j ≠ 13) → (tag b ≠ 46 ∨ j ≠ 14) → fld F b j = fld Fo b j) ∧ (∀ b j : Nat, elm F b j = elm Fo b j) := ⟨fun b j n46_9 n46_13 n46_14 => (h1v821 b j (fr_ne g0 n46_14)).trans (hfr.1 b j n46_9 n46_13 n46_14), fun b j  => (h2v821 b j).trans (hfr.2 b j )⟩
    refine lv_aload_n hx hb dX13_flaw_22 rfl (lv_at hl 0 rfl) ?_
    refine lv_iconst (v := 5) hx hb dX13_flaw_23 (by decide) ?_
    refine t_put (C := RX13) (T := TX13) (N := 37) (v := .int 5) X hT m0 g0 rfl tyX13 tyX13_ok nmX13 rfl 9 (by decide) qw_478 inlX13 rfl (by first | rfl | decide) (by first | rfl | decide) rfl (⟨_, rfl, (show 0 ≤ (5 : Int32).toInt from (by decide)), (show (5 : Int32).toInt ≤ 5 from (by decide))⟩) dX13_flaw_24 (fun F H locs hT v822 h1v822 h2v822 => ?_)
    have pf0 := (h1v822 _ _ (Or.inr (by decide))).trans pf0
    have pf1 := (h1v822 _ _ (Or.inr (by decide))).trans pf1
    have pf2 := (h1v822 _ _ (Or.inr (by decide))).trans pf2
    have pf4 := (h1v822 _ _ (Or.inr (by decide))).trans pf4
    have v818 := (h1v822 _ _ (Or.inr (by decide))).trans v818
    have hv819 := (h1v822 _ _ (Or.inr (by decide))).trans hv819
    have v821 := (h1v822 _ _ (Or.inr (by decide))).trans v821
    have hfr : (∀ b j : Nat, (tag b ≠ 46 ∨ j ≠ 9) → (tag b ≠ 46 ∨ j ≠ 13) → (tag b ≠ 46 ∨ j ≠ 14) → fld F b j = fld Fo b j) ∧ (∀ b j : Nat, elm F b j = elm Fo b j) := ⟨fun b j n46_9 n46_13 n46_14 => (h1v822 b j (fr_ne g0 n46_9)).trans (hfr.1 b j n46_9 n46_13 n46_14), fun b j  => (h2v822 b j).trans (hfr.2 b j )⟩
    have k823 : (5 : Int32).toInt = 5 := by decide
    exact t_vret hQ X hT ⟨hfr, ⟨5, x4, p1, v822, pf4, v818, (by decide), (by omega), (by omega), (fun _ => by decide), ⟨Int.le_refl _, fun h9 => absurd h9 (by decide)⟩, (fun _ => by omega), (by omega)⟩⟩ (Nat.le_of_ble_eq_true rfl) (Nat.le_of_ble_eq_true rfl) dX13_flaw_27
  · have w824 := cv_eq (rfl : x3.toInt = x3.toInt) (by decide : (5 : Int32).toInt = 5) c816
    exact t_vret hQ X hT ⟨hfr, ⟨x3, x4, x5, pf3, pf4, pf5, (by omega), (by omega), (by omega), STK.rf, SPT.rf, hkf, (by omega)⟩⟩ (Nat.le_of_ble_eq_true rfl) (Nat.le_of_ble_eq_true rfl) dX13_flaw_8
set_option maxHeartbeats 4000000 in
set_option maxRecDepth 100000 in
theorem km11_X13_byteAt (l : Launch) (G : KG) (tag : Nat → Nat) (L : List Nat) (F : Nat → va_E) (ho : okT G ttC tag L F) (p0 : Nat) (p1 : Int32) (m0 : p0 ∈ L) (g0 : tag p0 = 46) (h1 : 0 ≤ p1.toInt ∧ p1.toInt ≤ 1000) : TMi l yX13_byteAt cX13_byteAt 2 (some .int) { frames := 0, cells := 0, slots := 0, locals := 0 } G ttC tag L F [.ref p0, .int p1] (fun r F1 => F1 = F ∧ ((-1) ≤ r.toInt ∧ r.toInt ≤ 255) ∧ (r.toInt ≠ -1 → p1.toInt ≤ 999)) := by
  refine t_bodyi (y := yX13_byteAt) (cd := cX13_byteAt) (mL := 2) (rt := (some .int)) (rm := { frames := 0, cells := 0, slots := 0, locals := 0 }) (av := [.ref p0, .int p1]) (by decide) (Nat.le_of_ble_eq_true rfl) ho ?_
  intro p e s m args below meth c ls A Q hQ X hT hl
  have hx := X.1.1
  have hb := X.1.2.1
  have hl : lv_has ls 2 [(0, .ref p0), (1, .int p1)] := hl
  refine lv_iload_n hx hb dX13_byteAt_0 rfl (lv_at hl 1 rfl) ?_
  refine lv_aload_n hx hb dX13_byteAt_1 rfl (lv_at hl 0 rfl) ?_
  refine t_get (C := RX13) (T := TX13) (N := 37) X hT m0 g0 rfl rfl 7 (by decide) qw_471 inlX13 rfl dX13_byteAt_2 (fun v937 hv937 ov937 => ?_)
  obtain ⟨z938, rfl, rz938⟩ := okV_i ov937
  refine lv_icmp_ge (tgt := 21) hx hb dX13_byteAt_5 (by decide) (fun c939 => ?_) (fun c939 => ?_)
  · have w940 := cv_le (rfl : z938.toInt = z938.toInt) (rfl : p1.toInt = p1.toInt) c939
    refine lv_iconst (v := (-1)) hx hb dX13_byteAt_21 (by decide) ?_
    have k941 : ((-1) : Int32).toInt = (-1) := by decide
    exact t_iret hQ X hT (⟨rfl, (by decide), (by omega)⟩) (Nat.le_of_ble_eq_true rfl) (Nat.le_of_ble_eq_true rfl) dX13_byteAt_22
  · have w942 := cv_nle (rfl : z938.toInt = z938.toInt) (rfl : p1.toInt = p1.toInt) c939
    refine lv_aload_n hx hb dX13_byteAt_8 rfl (lv_at hl 0 rfl) ?_
    refine t_get (C := RX13) (T := TX13) (N := 37) X hT m0 g0 rfl rfl 5 (by decide) qw_111 inlX13 rfl dX13_byteAt_9 (fun v943 hv943 ov943 => ?_)
    obtain ⟨b944, rfl, mb944, gb944⟩ := okV_r ov943
    have gb944 : tag b944 = 27 := tg_of gb944
    refine lv_iload_n hx hb dX13_byteAt_12 rfl (lv_at hl 1 rfl) ?_
    refine t_bld X hT mb944 gb944 rfl (by omega) dX13_byteAt_13 (fun z945 vz945 rz945 => ?_)
    have rz945 : (-2147483648) ≤ z945.toInt ∧ z945.toInt ≤ 2147483647 := rz945
    refine lv_sipush (v := 255) hx hb dX13_byteAt_14 (by decide) ?_
    refine lv_iand hx hb dX13_byteAt_17 ?_
    refine lv_topi (fun z946 ez946 => ?_)
    have rz946 : 0 ≤ z946.toInt ∧ z946.toInt ≤ 255 := ar_and ez946 8 (by decide) (by decide)
    refine lv_goto (tgt := 22) hx hb dX13_byteAt_18 (by decide) ?_
    exact t_iret hQ X hT (⟨rfl, (by omega), (by omega)⟩) (Nat.le_of_ble_eq_true rfl) (Nat.le_of_ble_eq_true rfl) dX13_byteAt_22
set_option maxHeartbeats 4000000 in
set_option maxRecDepth 100000 in
theorem km12_X13_isLetter (l : Launch) (G : KG) (tag : Nat → Nat) (L : List Nat) (F : Nat → va_E) (ho : okT G ttC tag L F) (p0 : Int32)  : TMi l yX13_isLetter cX13_isLetter 1 (some .boolean) { frames := 0, cells := 0, slots := 0, locals := 0 } G ttC tag L F [.int p0] (fun r F1 => F1 = F ∧ (0 ≤ r.toInt ∧ r.toInt ≤ 1) ∧ (r.toInt ≠ 0 → 97 ≤ p0.toInt ∧ p0.toInt ≤ 122)) := by
  refine t_bodyi (y := yX13_isLetter) (cd := cX13_isLetter) (mL := 1) (rt := (some .boolean)) (rm := { frames := 0, cells := 0, slots := 0, locals := 0 }) (av := [.int p0]) (by decide) (Nat.le_of_ble_eq_true rfl) ho ?_
  intro p e s m args below meth c ls A Q hQ X hT hl
  have hx := X.1.1
  have hb := X.1.2.1
  have hl : lv_has ls 1 [(0, .int p0)] := hl
  have rp0 := rg_all p0
  refine lv_iload_n hx hb dX13_isLetter_0 rfl (lv_at hl 0 rfl) ?_
  refine lv_bipush (v := 97) hx hb dX13_isLetter_1 (by decide) ?_
  refine lv_icmp_lt (tgt := 16) hx hb dX13_isLetter_3 (by decide) (fun c1025 => ?_) (fun c1025 => ?_)
  · have w1026 := cv_lt (rfl : p0.toInt = p0.toInt) (by decide : (97 : Int32).toInt = 97) c1025
    refine lv_iconst (v := 0) hx hb dX13_isLetter_16 (by decide) ?_
    have k1027 : (0 : Int32).toInt = 0 := by decide
    exact t_zret hQ X hT (by decide) (⟨rfl, (by decide), (by omega)⟩) (Nat.le_of_ble_eq_true rfl) (Nat.le_of_ble_eq_true rfl) dX13_isLetter_17
  · have w1028 := cv_nlt (rfl : p0.toInt = p0.toInt) (by decide : (97 : Int32).toInt = 97) c1025
    refine lv_iload_n hx hb dX13_isLetter_6 rfl (lv_at hl 0 rfl) ?_
    refine lv_bipush (v := 122) hx hb dX13_isLetter_7 (by decide) ?_
    refine lv_icmp_gt (tgt := 16) hx hb dX13_isLetter_9 (by decide) (fun c1029 => ?_) (fun c1029 => ?_)
    · have w1030 := cv_lt (by decide : (122 : Int32).toInt = 122) (rfl : p0.toInt = p0.toInt) c1029
      refine lv_iconst (v := 0) hx hb dX13_isLetter_16 (by decide) ?_
      have k1031 : (0 : Int32).toInt = 0 := by decide
      exact t_zret hQ X hT (by decide) (⟨rfl, (by decide), (by omega)⟩) (Nat.le_of_ble_eq_true rfl) (Nat.le_of_ble_eq_true rfl) dX13_isLetter_17
    · have w1032 := cv_nlt (by decide : (122 : Int32).toInt = 122) (rfl : p0.toInt = p0.toInt) c1029
      refine lv_iconst (v := 1) hx hb dX13_isLetter_12 (by decide) ?_
      refine lv_goto (tgt := 17) hx hb dX13_isLetter_13 (by decide) ?_
      have k1033 : (1 : Int32).toInt = 1 := by decide
      exact t_zret hQ X hT (by decide) (⟨rfl, (by decide), (by omega)⟩) (Nat.le_of_ble_eq_true rfl) (Nat.le_of_ble_eq_true rfl) dX13_isLetter_17
set_option maxHeartbeats 4000000 in
set_option maxRecDepth 100000 in
theorem km13_X13_isDigit (l : Launch) (G : KG) (tag : Nat → Nat) (L : List Nat) (F : Nat → va_E) (ho : okT G ttC tag L F) (p0 : Int32)  : TMi l yX13_isDigit cX13_isDigit 1 (some .boolean) { frames := 0, cells := 0, slots := 0, locals := 0 } G ttC tag L F [.int p0] (fun r F1 => F1 = F ∧ (0 ≤ r.toInt ∧ r.toInt ≤ 1) ∧ (r.toInt ≠ 0 → 48 ≤ p0.toInt ∧ p0.toInt ≤ 57)) := by
  refine t_bodyi (y := yX13_isDigit) (cd := cX13_isDigit) (mL := 1) (rt := (some .boolean)) (rm := { frames := 0, cells := 0, slots := 0, locals := 0 }) (av := [.int p0]) (by decide) (Nat.le_of_ble_eq_true rfl) ho ?_
  intro p e s m args below meth c ls A Q hQ X hT hl
  have hx := X.1.1
  have hb := X.1.2.1
  have hl : lv_has ls 1 [(0, .int p0)] := hl
  have rp0 := rg_all p0
  refine lv_iload_n hx hb dX13_isDigit_0 rfl (lv_at hl 0 rfl) ?_
  refine lv_bipush (v := 48) hx hb dX13_isDigit_1 (by decide) ?_
  refine lv_icmp_lt (tgt := 16) hx hb dX13_isDigit_3 (by decide) (fun c1103 => ?_) (fun c1103 => ?_)
  · have w1104 := cv_lt (rfl : p0.toInt = p0.toInt) (by decide : (48 : Int32).toInt = 48) c1103
    refine lv_iconst (v := 0) hx hb dX13_isDigit_16 (by decide) ?_
    have k1105 : (0 : Int32).toInt = 0 := by decide
    exact t_zret hQ X hT (by decide) (⟨rfl, (by decide), (by omega)⟩) (Nat.le_of_ble_eq_true rfl) (Nat.le_of_ble_eq_true rfl) dX13_isDigit_17
  · have w1106 := cv_nlt (rfl : p0.toInt = p0.toInt) (by decide : (48 : Int32).toInt = 48) c1103
    refine lv_iload_n hx hb dX13_isDigit_6 rfl (lv_at hl 0 rfl) ?_
    refine lv_bipush (v := 57) hx hb dX13_isDigit_7 (by decide) ?_
    refine lv_icmp_gt (tgt := 16) hx hb dX13_isDigit_9 (by decide) (fun c1107 => ?_) (fun c1107 => ?_)
    · have w1108 := cv_lt (by decide : (57 : Int32).toInt = 57) (rfl : p0.toInt = p0.toInt) c1107
      refine lv_iconst (v := 0) hx hb dX13_isDigit_16 (by decide) ?_
      have k1109 : (0 : Int32).toInt = 0 := by decide
      exact t_zret hQ X hT (by decide) (⟨rfl, (by decide), (by omega)⟩) (Nat.le_of_ble_eq_true rfl) (Nat.le_of_ble_eq_true rfl) dX13_isDigit_17
    · have w1110 := cv_nlt (by decide : (57 : Int32).toInt = 57) (rfl : p0.toInt = p0.toInt) c1107
      refine lv_iconst (v := 1) hx hb dX13_isDigit_12 (by decide) ?_
      refine lv_goto (tgt := 17) hx hb dX13_isDigit_13 (by decide) ?_
      have k1111 : (1 : Int32).toInt = 1 := by decide
      exact t_zret hQ X hT (by decide) (⟨rfl, (by decide), (by omega)⟩) (Nat.le_of_ble_eq_true rfl) (Nat.le_of_ble_eq_true rfl) dX13_isDigit_17
set_option maxHeartbeats 4000000 in
set_option maxRecDepth 100000 in
theorem km14_X13_goesOn (l : Launch) (G : KG) (tag : Nat → Nat) (L : List Nat) (Fo : Nat → va_E) (ho : okT G ttC tag L Fo) (p0 : Nat) (x0 : Nat) (x1 : Nat) (x2 : Nat) (x3 : Int32) (x4 : Int32) (x5 : Int32) (m0 : p0 ∈ L) (g0 : tag p0 = 46) (mx0 : x0 ∈ L) (gx0 : tag x0 = 44) (pf0 : fld Fo p0 4 = .ref x0) (mx1 : x1 ∈ L) (gx1 : tag x1 = 35) (pf1 : fld Fo x0 28 = .ref x1) (mx2 : x2 ∈ L) (gx2 : tag x2 = 36) (pf2 : fld Fo x0 29 = .ref x2) (hx3 : 0 ≤ x3.toInt ∧ x3.toInt ≤ 5) (pf3 : fld Fo p0 9 = .int x3) (hx4 : 0 ≤ x4.toInt ∧ x4.toInt ≤ 1000) (pf4 : fld Fo p0 8 = .int x4) (hx5 : 0 ≤ x5.toInt ∧ x5.toInt ≤ 7) (pf5 : fld Fo p0 13 = .int x5) (hkf : KF x3 x5) : TMv l yX13_goesOn cX13_goesOn 3 { frames := 1, cells := 0, slots := 0, locals := 21 } G ttC tag L Fo [.ref p0] (fun F1 => ((∀ b j : Nat, (tag b ≠ 46 ∨ j ≠ 8) → (tag b ≠ 46 ∨ j ≠ 9) → (tag b ≠ 46 ∨ j ≠ 10) → (tag b ≠ 46 ∨ j ≠ 11) → (tag b ≠ 46 ∨ j ≠ 12) → (tag b ≠ 46 ∨ j ≠ 15) → fld F1 b j = fld Fo b j) ∧ (∀ b j : Nat, elm F1 b j = elm Fo b j)) ∧ (∃ so sp fa : Int32, fld F1 p0 9 = .int so ∧ fld F1 p0 8 = .int sp ∧ fld F1 p0 13 = .int fa ∧ (0 ≤ so.toInt ∧ so.toInt ≤ 5) ∧ (0 ≤ sp.toInt ∧ sp.toInt ≤ 1000) ∧ (0 ≤ fa.toInt ∧ fa.toInt ≤ 7) ∧ STK x3 so ∧ SPT x3 x4 so sp ∧ KF so fa)) := by
  refine t_bodyv (y := yX13_goesOn) (cd := cX13_goesOn) (mL := 3) (rm := { frames := 1, cells := 0, slots := 0, locals := 21 }) (av := [.ref p0]) (by decide) (Nat.le_of_ble_eq_true rfl) ho ?_
  intro p e s m args below meth c ls A Q hQ X hT hl
  have hx := X.1.1
  have hb := X.1.2.1
  have hl : lv_has ls 3 [(0, .ref p0)] := hl
  obtain ⟨F, hFo⟩ : ∃ F : Nat → va_E, F = Fo := ⟨_, rfl⟩
  rw [← hFo] at hT pf0 pf1 pf2 pf3 pf4 pf5
  have hfr : (∀ b j : Nat, (tag b ≠ 46 ∨ j ≠ 8) → (tag b ≠ 46 ∨ j ≠ 9) → (tag b ≠ 46 ∨ j ≠ 10) → (tag b ≠ 46 ∨ j ≠ 11) → (tag b ≠ 46 ∨ j ≠ 12) → (tag b ≠ 46 ∨ j ≠ 15) → fld F b j = fld Fo b j) ∧ (∀ b j : Nat, elm F b j = elm Fo b j) := by
    rw [hFo]
    exact ⟨by intros; rfl, by intros; rfl⟩
  have K89 : ∀ (n : Nat) (z6892 : Int32) (z6893 : Int32) (z6894 : Int32) (z6895 : Int32) (z6896 : Int32) (z6897 : Int32) (z6898 : Int32) (F : Nat → va_E) (H : Heap) (locs : List Loc) (ls : Array Slot), (1000 - z6894.toInt < (n : Int)) → (97 ≤ z6892.toInt ∧ z6892.toInt ≤ 122) → (0 ≤ z6894.toInt ∧ z6894.toInt ≤ 1000) → (0 ≤ z6895.toInt ∧ z6895.toInt ≤ 7) → (0 ≤ z6896.toInt ∧ z6896.toInt ≤ 999) → (0 ≤ z6897.toInt ∧ z6897.toInt ≤ 0) → (0 ≤ z6898.toInt ∧ z6898.toInt ≤ 0) → TH G ttC A s tag L F H locs → ((∀ b j : Nat, (tag b ≠ 46 ∨ j ≠ 8) → (tag b ≠ 46 ∨ j ≠ 9) → (tag b ≠ 46 ∨ j ≠ 10) → (tag b ≠ 46 ∨ j ≠ 11) → (tag b ≠ 46 ∨ j ≠ 12) → (tag b ≠ 46 ∨ j ≠ 15) → fld F b j = fld Fo b j) ∧ (∀ b j : Nat, elm F b j = elm Fo b j)) → (fld F p0 4 = .ref x0) → (fld F x0 28 = .ref x1) → (fld F x0 29 = .ref x2) → (fld F p0 8 = .int z6894) → (fld F p0 13 = .int z6895) → (fld F p0 10 = .int z6896) → (fld F p0 9 = .int z6897) → (fld F p0 11 = .int z6898) → (x4.toInt ≤ z6894.toInt) → (x3.toInt ≠ 5) → lv_has ls 3 [(0, .ref p0), (1, .int z6892), (2, .int z6893)] → W p l e { frames := 1, cells := 0, slots := 0, locals := 21 } s m args below meth c H locs 0 0 Q (F0 m 89 ls []) := by
    intro n
    induction n with
    | zero =>
      intro z6892 z6893 z6894 z6895 z6896 z6897 z6898 F H locs ls hn rz6892 rz6894 rz6895 rz6896 rz6897 rz6898 hT hfr pf0 pf1 pf2 qz6894 qz6895 qz6896 qz6897 qz6898 ex89_0 ex89_1 hl
      have rz6893 := rg_all z6893
      exfalso
      omega
    | succ n ih89 =>
      intro z6892 z6893 z6894 z6895 z6896 z6897 z6898 F H locs ls hn rz6892 rz6894 rz6895 rz6896 rz6897 rz6898 hT hfr pf0 pf1 pf2 qz6894 qz6895 qz6896 qz6897 qz6898 ex89_0 ex89_1 hl
      have rz6893 := rg_all z6893
      have K136 : ∀ (z6899 : Int32) (z6900 : Int32) (z6901 : Int32) (z6902 : Int32) (z6903 : Int32) (F : Nat → va_E) (H : Heap) (locs : List Loc) (ls : Array Slot), (0 ≤ z6899.toInt ∧ z6899.toInt ≤ 999) → (0 ≤ z6900.toInt ∧ z6900.toInt ≤ 7) → (0 ≤ z6901.toInt ∧ z6901.toInt ≤ 999) → (0 ≤ z6902.toInt ∧ z6902.toInt ≤ 0) → (0 ≤ z6903.toInt ∧ z6903.toInt ≤ 0) → TH G ttC A s tag L F H locs → ((∀ b j : Nat, (tag b ≠ 46 ∨ j ≠ 8) → (tag b ≠ 46 ∨ j ≠ 9) → (tag b ≠ 46 ∨ j ≠ 10) → (tag b ≠ 46 ∨ j ≠ 11) → (tag b ≠ 46 ∨ j ≠ 12) → (tag b ≠ 46 ∨ j ≠ 15) → fld F b j = fld Fo b j) ∧ (∀ b j : Nat, elm F b j = elm Fo b j)) → (fld F p0 4 = .ref x0) → (fld F x0 28 = .ref x1) → (fld F x0 29 = .ref x2) → (fld F p0 8 = .int z6899) → (fld F p0 13 = .int z6900) → (fld F p0 10 = .int z6901) → (fld F p0 9 = .int z6902) → (fld F p0 11 = .int z6903) → (x4.toInt ≤ z6899.toInt) → (x3.toInt ≠ 5) → lv_has ls 3 [(0, .ref p0), (1, .int z6892), (2, .int z6893)] → W p l e { frames := 1, cells := 0, slots := 0, locals := 21 } s m args below meth c H locs 0 0 Q (F0 m 136 ls []) := by
        intro z6899 z6900 z6901 z6902 z6903 F H locs ls rz6899 rz6900 rz6901 rz6902 rz6903 hT hfr pf0 pf1 pf2 qz6899 qz6900 qz6901 qz6902 qz6903 ex136_0 ex136_1 hl
        obtain ⟨z6904, ez6904⟩ : ∃ y : Int32, y = z6893 + 1 := ⟨_, rfl⟩
        have rz6904 := rg_all z6904
        refine lv_iinc (v := z6904) (lv' := [(2, .int z6904), (0, .ref p0), (1, .int z6892)]) hx hb dX13_goesOn_136 hl (k := 2) rfl (by rw [ez6904]; rfl) (by decide) rfl (fun ls hl => ?_)
        refine lv_aload_n hx hb dX13_goesOn_139 rfl (lv_at hl 1 rfl) ?_
        refine lv_dup hx hb dX13_goesOn_140 rfl ?_
        refine t_get (C := RX13) (T := TX13) (N := 37) X hT m0 g0 rfl rfl 8 (by decide) qw_472 inlX13 rfl dX13_goesOn_141 (fun v6905 hv6905 ov6905 => ?_)
        obtain rfl : v6905 = .int z6899 := hv6905.symm.trans qz6899
        refine lv_iconst (v := 1) hx hb dX13_goesOn_144 (by decide) ?_
        refine lv_iadd hx hb dX13_goesOn_145 ?_
        refine lv_topi (fun z6906 ez6906 => ?_)
        have hz6906 : z6906.toInt = z6899.toInt + 1 := ar_add ez6906 (rfl : z6899.toInt = z6899.toInt) (by decide : (1 : Int32).toInt = 1) (by omega) (by omega)
        have rz6906 : 1 ≤ z6906.toInt ∧ z6906.toInt ≤ 1000 := by omega
        refine t_put (C := RX13) (T := TX13) (N := 37) (v := .int z6906) X hT m0 g0 rfl tyX13 tyX13_ok nmX13 rfl 8 (by decide) qw_472 inlX13 rfl (by first | rfl | decide) (by first | rfl | decide) rfl (⟨_, rfl, (show 0 ≤ (z6906 : Int32).toInt from (by omega)), (show (z6906 : Int32).toInt ≤ 1000 from (by omega))⟩) dX13_goesOn_146 (fun F H locs hT v6907 h1v6907 h2v6907 => ?_)
        have qz6900 := (h1v6907 _ _ (Or.inr (by decide))).trans qz6900
        have qz6901 := (h1v6907 _ _ (Or.inr (by decide))).trans qz6901
        have qz6902 := (h1v6907 _ _ (Or.inr (by decide))).trans qz6902
        have qz6903 := (h1v6907 _ _ (Or.inr (by decide))).trans qz6903
        have pf0 := (h1v6907 _ _ (Or.inr (by decide))).trans pf0
        have pf1 := (h1v6907 _ _ (Or.inr (by decide))).trans pf1
        have pf2 := (h1v6907 _ _ (Or.inr (by decide))).trans pf2
        have hfr : (∀ b j : Nat, (tag b ≠ 46 ∨ j ≠ 8) → (tag b ≠ 46 ∨ j ≠ 9) → (tag b ≠ 46 ∨ j ≠ 10) → (tag b ≠ 46 ∨ j ≠ 11) → (tag b ≠ 46 ∨ j ≠ 12) → (tag b ≠ 46 ∨ j ≠ 15) → fld F b j = fld Fo b j) ∧ (∀ b j : Nat, elm F b j = elm Fo b j) := ⟨fun b j n46_8 n46_9 n46_10 n46_11 n46_12 n46_15 => (h1v6907 b j (fr_ne g0 n46_8)).trans (hfr.1 b j n46_8 n46_9 n46_10 n46_11 n46_12 n46_15), fun b j  => (h2v6907 b j).trans (hfr.2 b j )⟩
        refine lv_goto (tgt := 89) hx hb dX13_goesOn_149 (by decide) ?_
        exact ih89 z6892 z6904 z6906 z6900 z6901 z6902 z6903 _ _ _ _ (by omega) (by omega) (by omega) (by omega) (by omega) (by omega) (by omega) hT hfr pf0 pf1 pf2 v6907 qz6900 qz6901 qz6902 qz6903 (by omega) (by omega) (lv_sub hl [1, 2, 0] rfl)
      refine lv_aload_n hx hb dX13_goesOn_89 rfl (lv_at hl 0 rfl) ?_
      refine lv_aload_n hx hb dX13_goesOn_90 rfl (lv_at hl 0 rfl) ?_
      refine t_get (C := RX13) (T := TX13) (N := 37) X hT m0 g0 rfl rfl 8 (by decide) qw_472 inlX13 rfl dX13_goesOn_91 (fun v6908 hv6908 ov6908 => ?_)
      obtain rfl : v6908 = .int z6894 := hv6908.symm.trans qz6894
      refine t_cVi (n := 1) (C := RX13) (T := TX13) (N := 37) (As := [.int z6894]) (rest := []) X hT (km11_X13_byteAt l G tag L F hT.2.2.2 p0 z6894 m0 g0 (by omega)) m0 g0 rfl rfl qw_517 qw_518 qw_519 qw_5 qw_520 ⟨rfl, by decide +kernel, by decide +kernel, by decide +kernel⟩ ⟨Nat.le_of_ble_eq_true rfl, Nat.le_of_ble_eq_true rfl⟩ hl rfl rfl (Nat.le_of_ble_eq_true rfl) dX13_goesOn_94 ⟨Nat.le_of_ble_eq_true rfl, Nat.le_of_ble_eq_true rfl⟩ (fun z6909 F9 H locs hT hz6909 => ?_)
      obtain ⟨fz6909, hz6909, xz6909_0⟩ := hz6909
      rw [fz6909] at hT
      refine t_cSi (n := 1) (As := [.int z6909]) (rest := []) X hT (km12_X13_isLetter l G tag L F hT.2.2.2 z6909 ) qw_521 qw_522 qw_5 qw_523 ⟨by decide +kernel, by decide +kernel, by decide +kernel⟩ ⟨Nat.le_of_ble_eq_true rfl, Nat.le_of_ble_eq_true rfl⟩ hl rfl rfl (Nat.le_of_ble_eq_true rfl) dX13_goesOn_97 ⟨Nat.le_of_ble_eq_true rfl, Nat.le_of_ble_eq_true rfl⟩ (fun z6910 F9 H locs hT hz6910 => ?_)
      obtain ⟨fz6910, hz6910, xz6910_0⟩ := hz6910
      rw [fz6910] at hT
      refine lv_if_eq (tgt := 152) hx hb dX13_goesOn_100 (by decide) (fun c6911 => ?_) (fun c6911 => ?_)
      · have w6912 := cv_eq (rfl : z6910.toInt = z6910.toInt) (by decide : (0 : Int32).toInt = 0) c6911
        refine lv_iload_n hx hb dX13_goesOn_152 rfl (lv_at hl 2 rfl) ?_
        refine lv_bipush (v := 8) hx hb dX13_goesOn_153 (by decide) ?_
        refine lv_icmp_gt (tgt := 281) hx hb dX13_goesOn_155 (by decide) (fun c6913 => ?_) (fun c6913 => ?_)
        · have w6914 := cv_lt (by decide : (8 : Int32).toInt = 8) (rfl : z6893.toInt = z6893.toInt) c6913
          exact t_vret hQ X hT ⟨hfr, ⟨z6897, z6894, z6895, qz6897, qz6894, qz6895, (by omega), (by omega), (by omega), (fun h9 => absurd h9 (by omega)), ⟨by omega, fun h9 => absurd h9 (by omega)⟩, (fun h9 => absurd h9 (by omega))⟩⟩ (Nat.le_of_ble_eq_true rfl) (Nat.le_of_ble_eq_true rfl) dX13_goesOn_281
        · have w6915 := cv_nlt (by decide : (8 : Int32).toInt = 8) (rfl : z6893.toInt = z6893.toInt) c6913
          refine lv_aload_n hx hb dX13_goesOn_158 rfl (lv_at hl 0 rfl) ?_
          refine lv_iconst (v := 2) hx hb dX13_goesOn_159 (by decide) ?_
          refine t_put (C := RX13) (T := TX13) (N := 37) (v := .int 2) X hT m0 g0 rfl tyX13 tyX13_ok nmX13 rfl 9 (by decide) qw_478 inlX13 rfl (by first | rfl | decide) (by first | rfl | decide) rfl (⟨_, rfl, (show 0 ≤ (2 : Int32).toInt from (by decide)), (show (2 : Int32).toInt ≤ 5 from (by decide))⟩) dX13_goesOn_160 (fun F H locs hT v6916 h1v6916 h2v6916 => ?_)
          have qz6894 := (h1v6916 _ _ (Or.inr (by decide))).trans qz6894
          have qz6895 := (h1v6916 _ _ (Or.inr (by decide))).trans qz6895
          have qz6896 := (h1v6916 _ _ (Or.inr (by decide))).trans qz6896
          have qz6898 := (h1v6916 _ _ (Or.inr (by decide))).trans qz6898
          have pf0 := (h1v6916 _ _ (Or.inr (by decide))).trans pf0
          have pf1 := (h1v6916 _ _ (Or.inr (by decide))).trans pf1
          have pf2 := (h1v6916 _ _ (Or.inr (by decide))).trans pf2
          have hfr : (∀ b j : Nat, (tag b ≠ 46 ∨ j ≠ 8) → (tag b ≠ 46 ∨ j ≠ 9) → (tag b ≠ 46 ∨ j ≠ 10) → (tag b ≠ 46 ∨ j ≠ 11) → (tag b ≠ 46 ∨ j ≠ 12) → (tag b ≠ 46 ∨ j ≠ 15) → fld F b j = fld Fo b j) ∧ (∀ b j : Nat, elm F b j = elm Fo b j) := ⟨fun b j n46_8 n46_9 n46_10 n46_11 n46_12 n46_15 => (h1v6916 b j (fr_ne g0 n46_9)).trans (hfr.1 b j n46_8 n46_9 n46_10 n46_11 n46_12 n46_15), fun b j  => (h2v6916 b j).trans (hfr.2 b j )⟩
          refine lv_goto (tgt := 281) hx hb dX13_goesOn_163 (by decide) ?_
          have k6917 : (2 : Int32).toInt = 2 := by decide
          exact t_vret hQ X hT ⟨hfr, ⟨2, z6894, z6895, v6916, qz6894, qz6895, (by decide), (by omega), (by omega), (fun h9 => absurd h9 (by omega)), ⟨by omega, fun h9 => absurd h9 (by decide)⟩, (fun h9 => absurd h9 (by decide))⟩⟩ (Nat.le_of_ble_eq_true rfl) (Nat.le_of_ble_eq_true rfl) dX13_goesOn_281
      · have w6918 := cv_ne (rfl : z6910.toInt = z6910.toInt) (by decide : (0 : Int32).toInt = 0) c6911
        have w6919 := xz6910_0 (by omega)
        have w6920 := xz6909_0 (by omega)
        refine lv_iload_n hx hb dX13_goesOn_103 rfl (lv_at hl 2 rfl) ?_
        refine lv_bipush (v := 8) hx hb dX13_goesOn_104 (by decide) ?_
        refine lv_icmp_ge (tgt := 136) hx hb dX13_goesOn_106 (by decide) (fun c6921 => ?_) (fun c6921 => ?_)
        · have w6922 := cv_le (by decide : (8 : Int32).toInt = 8) (rfl : z6893.toInt = z6893.toInt) c6921
          exact K136 z6894 z6895 z6896 z6897 z6898 _ _ _ _ (by omega) (by omega) (by omega) (by omega) (by omega) hT hfr pf0 pf1 pf2 qz6894 qz6895 qz6896 qz6897 qz6898 (by omega) (by omega) (lv_sub hl [0, 1, 2] rfl)
        · have w6923 := cv_nle (by decide : (8 : Int32).toInt = 8) (rfl : z6893.toInt = z6893.toInt) c6921
          refine lv_aload_n hx hb dX13_goesOn_109 rfl (lv_at hl 0 rfl) ?_
          refine m_ldc2 (v := 32) X qw_515 dX13_goesOn_110 ?_
          refine lv_aload_n hx hb dX13_goesOn_113 rfl (lv_at hl 0 rfl) ?_
          refine t_get (C := RX13) (T := TX13) (N := 37) X hT m0 g0 rfl rfl 15 (by decide) qw_514 inlX13 rfl dX13_goesOn_114 (fun v6924 hv6924 ov6924 => ?_)
          obtain ⟨z6925, rfl⟩ := ov6924
          refine lv_lmul hx hb dX13_goesOn_117 ?_
          refine lv_topl (fun z6926 ez6926 => ?_)
          refine lv_aload_n hx hb dX13_goesOn_118 rfl (lv_at hl 0 rfl) ?_
          refine lv_aload_n hx hb dX13_goesOn_119 rfl (lv_at hl 0 rfl) ?_
          refine t_get (C := RX13) (T := TX13) (N := 37) X hT m0 g0 rfl rfl 8 (by decide) qw_472 inlX13 rfl dX13_goesOn_120 (fun v6927 hv6927 ov6927 => ?_)
          obtain rfl : v6927 = .int z6894 := hv6927.symm.trans qz6894
          refine t_cVi (n := 1) (C := RX13) (T := TX13) (N := 37) (As := [.int z6894]) (rest := [.long z6926, .ref p0]) X hT (km11_X13_byteAt l G tag L F hT.2.2.2 p0 z6894 m0 g0 (by omega)) m0 g0 rfl rfl qw_517 qw_518 qw_519 qw_5 qw_520 ⟨rfl, by decide +kernel, by decide +kernel, by decide +kernel⟩ ⟨Nat.le_of_ble_eq_true rfl, Nat.le_of_ble_eq_true rfl⟩ hl rfl rfl (Nat.le_of_ble_eq_true rfl) dX13_goesOn_123 ⟨Nat.le_of_ble_eq_true rfl, Nat.le_of_ble_eq_true rfl⟩ (fun z6928 F9 H locs hT hz6928 => ?_)
          obtain ⟨fz6928, hz6928, xz6928_0⟩ := hz6928
          rw [fz6928] at hT
          refine lv_bipush (v := 97) hx hb dX13_goesOn_126 (by decide) ?_
          refine lv_isub hx hb dX13_goesOn_128 ?_
          refine lv_topi (fun z6929 ez6929 => ?_)
          have hz6929 : z6929.toInt = z6928.toInt - 97 := ar_sub ez6929 (rfl : z6928.toInt = z6928.toInt) (by decide : (97 : Int32).toInt = 97) (by omega) (by omega)
          have rz6929 : (-98) ≤ z6929.toInt ∧ z6929.toInt ≤ 158 := by omega
          refine lv_iconst (v := 1) hx hb dX13_goesOn_129 (by decide) ?_
          refine lv_iadd hx hb dX13_goesOn_130 ?_
          refine lv_topi (fun z6930 ez6930 => ?_)
          have hz6930 : z6930.toInt = z6929.toInt + 1 := ar_add ez6930 (rfl : z6929.toInt = z6929.toInt) (by decide : (1 : Int32).toInt = 1) (by omega) (by omega)
          have rz6930 : (-97) ≤ z6930.toInt ∧ z6930.toInt ≤ 159 := by omega
          refine lv_i2l hx hb dX13_goesOn_131 rfl ?_
          refine lv_topl (fun z6931 ez6931 => ?_)
          refine lv_ladd hx hb dX13_goesOn_132 ?_
          refine lv_topl (fun z6932 ez6932 => ?_)
          refine t_put (C := RX13) (T := TX13) (N := 37) (v := .long z6932) X hT m0 g0 rfl tyX13 tyX13_ok nmX13 rfl 15 (by decide) qw_514 inlX13 rfl (by first | rfl | decide) (by first | rfl | decide) rfl (⟨_, rfl⟩) dX13_goesOn_133 (fun F H locs hT v6933 h1v6933 h2v6933 => ?_)
          have qz6894 := (h1v6933 _ _ (Or.inr (by decide))).trans qz6894
          have qz6895 := (h1v6933 _ _ (Or.inr (by decide))).trans qz6895
          have qz6896 := (h1v6933 _ _ (Or.inr (by decide))).trans qz6896
          have qz6897 := (h1v6933 _ _ (Or.inr (by decide))).trans qz6897
          have qz6898 := (h1v6933 _ _ (Or.inr (by decide))).trans qz6898
          have pf0 := (h1v6933 _ _ (Or.inr (by decide))).trans pf0
          have pf1 := (h1v6933 _ _ (Or.inr (by decide))).trans pf1
          have pf2 := (h1v6933 _ _ (Or.inr (by decide))).trans pf2
          have hfr : (∀ b j : Nat, (tag b ≠ 46 ∨ j ≠ 8) → (tag b ≠ 46 ∨ j ≠ 9) → (tag b ≠ 46 ∨ j ≠ 10) → (tag b ≠ 46 ∨ j ≠ 11) → (tag b ≠ 46 ∨ j ≠ 12) → (tag b ≠ 46 ∨ j ≠ 15) → fld F b j = fld Fo b j) ∧ (∀ b j : Nat, elm F b j = elm Fo b j) := ⟨fun b j n46_8 n46_9 n46_10 n46_11 n46_12 n46_15 => (h1v6933 b j (fr_ne g0 n46_15)).trans (hfr.1 b j n46_8 n46_9 n46_10 n46_11 n46_12 n46_15), fun b j  => (h2v6933 b j).trans (hfr.2 b j )⟩
          exact K136 z6894 z6895 z6896 z6897 z6898 _ _ _ _ (by omega) (by omega) (by omega) (by omega) (by omega) hT hfr pf0 pf1 pf2 qz6894 qz6895 qz6896 qz6897 qz6898 (by omega) (by omega) (lv_sub hl [0, 1, 2] rfl)
  have K178 : ∀ (n : Nat) (z6934 : Int32) (z6935 : Int32) (z6936 : Int32) (z6937 : Int32) (z6938 : Int32) (z6939 : Int32) (z6940 : Int32) (z6941 : Int32) (F : Nat → va_E) (H : Heap) (locs : List Loc) (ls : Array Slot), (1000 - z6936.toInt < (n : Int)) → (48 ≤ z6934.toInt ∧ z6934.toInt ≤ 57) → (0 ≤ z6936.toInt ∧ z6936.toInt ≤ 1000) → (0 ≤ z6937.toInt ∧ z6937.toInt ≤ 7) → (0 ≤ z6938.toInt ∧ z6938.toInt ≤ 999) → (0 ≤ z6939.toInt ∧ z6939.toInt ≤ 0) → (0 ≤ z6940.toInt ∧ z6940.toInt ≤ 0) → TH G ttC A s tag L F H locs → ((∀ b j : Nat, (tag b ≠ 46 ∨ j ≠ 8) → (tag b ≠ 46 ∨ j ≠ 9) → (tag b ≠ 46 ∨ j ≠ 10) → (tag b ≠ 46 ∨ j ≠ 11) → (tag b ≠ 46 ∨ j ≠ 12) → (tag b ≠ 46 ∨ j ≠ 15) → fld F b j = fld Fo b j) ∧ (∀ b j : Nat, elm F b j = elm Fo b j)) → (fld F p0 4 = .ref x0) → (fld F x0 28 = .ref x1) → (fld F x0 29 = .ref x2) → (fld F p0 8 = .int z6936) → (fld F p0 13 = .int z6937) → (fld F p0 10 = .int z6938) → (fld F p0 9 = .int z6939) → (fld F p0 11 = .int z6940) → (fld F p0 12 = .int z6941) → (x4.toInt ≤ z6936.toInt) → (x3.toInt ≠ 5) → lv_has ls 3 [(0, .ref p0), (1, .int z6934), (2, .int z6935)] → W p l e { frames := 1, cells := 0, slots := 0, locals := 21 } s m args below meth c H locs 0 0 Q (F0 m 178 ls []) := by
    intro n
    induction n with
    | zero =>
      intro z6934 z6935 z6936 z6937 z6938 z6939 z6940 z6941 F H locs ls hn rz6934 rz6936 rz6937 rz6938 rz6939 rz6940 hT hfr pf0 pf1 pf2 qz6936 qz6937 qz6938 qz6939 qz6940 qz6941 ex178_0 ex178_1 hl
      have rz6935 := rg_all z6935
      have rz6941 := rg_all z6941
      exfalso
      omega
    | succ n ih178 =>
      intro z6934 z6935 z6936 z6937 z6938 z6939 z6940 z6941 F H locs ls hn rz6934 rz6936 rz6937 rz6938 rz6939 rz6940 hT hfr pf0 pf1 pf2 qz6936 qz6937 qz6938 qz6939 qz6940 qz6941 ex178_0 ex178_1 hl
      have rz6935 := rg_all z6935
      have rz6941 := rg_all z6941
      have K220 : ∀ (z6942 : Int32) (z6943 : Int32) (z6944 : Int32) (z6945 : Int32) (z6946 : Int32) (z6947 : Int32) (F : Nat → va_E) (H : Heap) (locs : List Loc) (ls : Array Slot), (0 ≤ z6942.toInt ∧ z6942.toInt ≤ 999) → (0 ≤ z6943.toInt ∧ z6943.toInt ≤ 7) → (0 ≤ z6944.toInt ∧ z6944.toInt ≤ 999) → (0 ≤ z6945.toInt ∧ z6945.toInt ≤ 0) → (0 ≤ z6946.toInt ∧ z6946.toInt ≤ 0) → TH G ttC A s tag L F H locs → ((∀ b j : Nat, (tag b ≠ 46 ∨ j ≠ 8) → (tag b ≠ 46 ∨ j ≠ 9) → (tag b ≠ 46 ∨ j ≠ 10) → (tag b ≠ 46 ∨ j ≠ 11) → (tag b ≠ 46 ∨ j ≠ 12) → (tag b ≠ 46 ∨ j ≠ 15) → fld F b j = fld Fo b j) ∧ (∀ b j : Nat, elm F b j = elm Fo b j)) → (fld F p0 4 = .ref x0) → (fld F x0 28 = .ref x1) → (fld F x0 29 = .ref x2) → (fld F p0 8 = .int z6942) → (fld F p0 13 = .int z6943) → (fld F p0 10 = .int z6944) → (fld F p0 9 = .int z6945) → (fld F p0 11 = .int z6946) → (fld F p0 12 = .int z6947) → (x4.toInt ≤ z6942.toInt) → (x3.toInt ≠ 5) → lv_has ls 3 [(0, .ref p0), (1, .int z6934), (2, .int z6935)] → W p l e { frames := 1, cells := 0, slots := 0, locals := 21 } s m args below meth c H locs 0 0 Q (F0 m 220 ls []) := by
        intro z6942 z6943 z6944 z6945 z6946 z6947 F H locs ls rz6942 rz6943 rz6944 rz6945 rz6946 hT hfr pf0 pf1 pf2 qz6942 qz6943 qz6944 qz6945 qz6946 qz6947 ex220_0 ex220_1 hl
        have rz6947 := rg_all z6947
        obtain ⟨z6948, ez6948⟩ : ∃ y : Int32, y = z6935 + 1 := ⟨_, rfl⟩
        have rz6948 := rg_all z6948
        refine lv_iinc (v := z6948) (lv' := [(2, .int z6948), (0, .ref p0), (1, .int z6934)]) hx hb dX13_goesOn_220 hl (k := 2) rfl (by rw [ez6948]; rfl) (by decide) rfl (fun ls hl => ?_)
        refine lv_aload_n hx hb dX13_goesOn_223 rfl (lv_at hl 1 rfl) ?_
        refine lv_dup hx hb dX13_goesOn_224 rfl ?_
        refine t_get (C := RX13) (T := TX13) (N := 37) X hT m0 g0 rfl rfl 8 (by decide) qw_472 inlX13 rfl dX13_goesOn_225 (fun v6949 hv6949 ov6949 => ?_)
        obtain rfl : v6949 = .int z6942 := hv6949.symm.trans qz6942
        refine lv_iconst (v := 1) hx hb dX13_goesOn_228 (by decide) ?_
        refine lv_iadd hx hb dX13_goesOn_229 ?_
        refine lv_topi (fun z6950 ez6950 => ?_)
        have hz6950 : z6950.toInt = z6942.toInt + 1 := ar_add ez6950 (rfl : z6942.toInt = z6942.toInt) (by decide : (1 : Int32).toInt = 1) (by omega) (by omega)
        have rz6950 : 1 ≤ z6950.toInt ∧ z6950.toInt ≤ 1000 := by omega
        refine t_put (C := RX13) (T := TX13) (N := 37) (v := .int z6950) X hT m0 g0 rfl tyX13 tyX13_ok nmX13 rfl 8 (by decide) qw_472 inlX13 rfl (by first | rfl | decide) (by first | rfl | decide) rfl (⟨_, rfl, (show 0 ≤ (z6950 : Int32).toInt from (by omega)), (show (z6950 : Int32).toInt ≤ 1000 from (by omega))⟩) dX13_goesOn_230 (fun F H locs hT v6951 h1v6951 h2v6951 => ?_)
        have qz6943 := (h1v6951 _ _ (Or.inr (by decide))).trans qz6943
        have qz6944 := (h1v6951 _ _ (Or.inr (by decide))).trans qz6944
        have qz6945 := (h1v6951 _ _ (Or.inr (by decide))).trans qz6945
        have qz6946 := (h1v6951 _ _ (Or.inr (by decide))).trans qz6946
        have qz6947 := (h1v6951 _ _ (Or.inr (by decide))).trans qz6947
        have pf0 := (h1v6951 _ _ (Or.inr (by decide))).trans pf0
        have pf1 := (h1v6951 _ _ (Or.inr (by decide))).trans pf1
        have pf2 := (h1v6951 _ _ (Or.inr (by decide))).trans pf2
        have hfr : (∀ b j : Nat, (tag b ≠ 46 ∨ j ≠ 8) → (tag b ≠ 46 ∨ j ≠ 9) → (tag b ≠ 46 ∨ j ≠ 10) → (tag b ≠ 46 ∨ j ≠ 11) → (tag b ≠ 46 ∨ j ≠ 12) → (tag b ≠ 46 ∨ j ≠ 15) → fld F b j = fld Fo b j) ∧ (∀ b j : Nat, elm F b j = elm Fo b j) := ⟨fun b j n46_8 n46_9 n46_10 n46_11 n46_12 n46_15 => (h1v6951 b j (fr_ne g0 n46_8)).trans (hfr.1 b j n46_8 n46_9 n46_10 n46_11 n46_12 n46_15), fun b j  => (h2v6951 b j).trans (hfr.2 b j )⟩
        refine lv_goto (tgt := 178) hx hb dX13_goesOn_233 (by decide) ?_
        exact ih178 z6934 z6948 z6950 z6943 z6944 z6945 z6946 z6947 _ _ _ _ (by omega) (by omega) (by omega) (by omega) (by omega) (by omega) (by omega) hT hfr pf0 pf1 pf2 v6951 qz6943 qz6944 qz6945 qz6946 qz6947 (by omega) (by omega) (lv_sub hl [1, 2, 0] rfl)
      refine lv_aload_n hx hb dX13_goesOn_178 rfl (lv_at hl 0 rfl) ?_
      refine lv_aload_n hx hb dX13_goesOn_179 rfl (lv_at hl 0 rfl) ?_
      refine t_get (C := RX13) (T := TX13) (N := 37) X hT m0 g0 rfl rfl 8 (by decide) qw_472 inlX13 rfl dX13_goesOn_180 (fun v6952 hv6952 ov6952 => ?_)
      obtain rfl : v6952 = .int z6936 := hv6952.symm.trans qz6936
      refine t_cVi (n := 1) (C := RX13) (T := TX13) (N := 37) (As := [.int z6936]) (rest := []) X hT (km11_X13_byteAt l G tag L F hT.2.2.2 p0 z6936 m0 g0 (by omega)) m0 g0 rfl rfl qw_517 qw_518 qw_519 qw_5 qw_520 ⟨rfl, by decide +kernel, by decide +kernel, by decide +kernel⟩ ⟨Nat.le_of_ble_eq_true rfl, Nat.le_of_ble_eq_true rfl⟩ hl rfl rfl (Nat.le_of_ble_eq_true rfl) dX13_goesOn_183 ⟨Nat.le_of_ble_eq_true rfl, Nat.le_of_ble_eq_true rfl⟩ (fun z6953 F9 H locs hT hz6953 => ?_)
      obtain ⟨fz6953, hz6953, xz6953_0⟩ := hz6953
      rw [fz6953] at hT
      refine t_cSi (n := 1) (As := [.int z6953]) (rest := []) X hT (km13_X13_isDigit l G tag L F hT.2.2.2 z6953 ) qw_524 qw_525 qw_5 qw_526 ⟨by decide +kernel, by decide +kernel, by decide +kernel⟩ ⟨Nat.le_of_ble_eq_true rfl, Nat.le_of_ble_eq_true rfl⟩ hl rfl rfl (Nat.le_of_ble_eq_true rfl) dX13_goesOn_186 ⟨Nat.le_of_ble_eq_true rfl, Nat.le_of_ble_eq_true rfl⟩ (fun z6954 F9 H locs hT hz6954 => ?_)
      obtain ⟨fz6954, hz6954, xz6954_0⟩ := hz6954
      rw [fz6954] at hT
      refine lv_if_eq (tgt := 236) hx hb dX13_goesOn_189 (by decide) (fun c6955 => ?_) (fun c6955 => ?_)
      · have w6956 := cv_eq (rfl : z6954.toInt = z6954.toInt) (by decide : (0 : Int32).toInt = 0) c6955
        refine lv_iload_n hx hb dX13_goesOn_236 rfl (lv_at hl 2 rfl) ?_
        refine lv_iconst (v := 3) hx hb dX13_goesOn_237 (by decide) ?_
        refine lv_icmp_gt (tgt := 281) hx hb dX13_goesOn_238 (by decide) (fun c6957 => ?_) (fun c6957 => ?_)
        · have w6958 := cv_lt (by decide : (3 : Int32).toInt = 3) (rfl : z6935.toInt = z6935.toInt) c6957
          exact t_vret hQ X hT ⟨hfr, ⟨z6939, z6936, z6937, qz6939, qz6936, qz6937, (by omega), (by omega), (by omega), (fun h9 => absurd h9 (by omega)), ⟨by omega, fun h9 => absurd h9 (by omega)⟩, (fun h9 => absurd h9 (by omega))⟩⟩ (Nat.le_of_ble_eq_true rfl) (Nat.le_of_ble_eq_true rfl) dX13_goesOn_281
        · have w6959 := cv_nlt (by decide : (3 : Int32).toInt = 3) (rfl : z6935.toInt = z6935.toInt) c6957
          refine lv_aload_n hx hb dX13_goesOn_241 rfl (lv_at hl 0 rfl) ?_
          refine lv_iconst (v := 3) hx hb dX13_goesOn_242 (by decide) ?_
          refine t_put (C := RX13) (T := TX13) (N := 37) (v := .int 3) X hT m0 g0 rfl tyX13 tyX13_ok nmX13 rfl 9 (by decide) qw_478 inlX13 rfl (by first | rfl | decide) (by first | rfl | decide) rfl (⟨_, rfl, (show 0 ≤ (3 : Int32).toInt from (by decide)), (show (3 : Int32).toInt ≤ 5 from (by decide))⟩) dX13_goesOn_243 (fun F H locs hT v6960 h1v6960 h2v6960 => ?_)
          have qz6936 := (h1v6960 _ _ (Or.inr (by decide))).trans qz6936
          have qz6937 := (h1v6960 _ _ (Or.inr (by decide))).trans qz6937
          have qz6938 := (h1v6960 _ _ (Or.inr (by decide))).trans qz6938
          have qz6940 := (h1v6960 _ _ (Or.inr (by decide))).trans qz6940
          have qz6941 := (h1v6960 _ _ (Or.inr (by decide))).trans qz6941
          have pf0 := (h1v6960 _ _ (Or.inr (by decide))).trans pf0
          have pf1 := (h1v6960 _ _ (Or.inr (by decide))).trans pf1
          have pf2 := (h1v6960 _ _ (Or.inr (by decide))).trans pf2
          have hfr : (∀ b j : Nat, (tag b ≠ 46 ∨ j ≠ 8) → (tag b ≠ 46 ∨ j ≠ 9) → (tag b ≠ 46 ∨ j ≠ 10) → (tag b ≠ 46 ∨ j ≠ 11) → (tag b ≠ 46 ∨ j ≠ 12) → (tag b ≠ 46 ∨ j ≠ 15) → fld F b j = fld Fo b j) ∧ (∀ b j : Nat, elm F b j = elm Fo b j) := ⟨fun b j n46_8 n46_9 n46_10 n46_11 n46_12 n46_15 => (h1v6960 b j (fr_ne g0 n46_9)).trans (hfr.1 b j n46_8 n46_9 n46_10 n46_11 n46_12 n46_15), fun b j  => (h2v6960 b j).trans (hfr.2 b j )⟩
          refine lv_goto (tgt := 281) hx hb dX13_goesOn_246 (by decide) ?_
          have k6961 : (3 : Int32).toInt = 3 := by decide
          exact t_vret hQ X hT ⟨hfr, ⟨3, z6936, z6937, v6960, qz6936, qz6937, (by decide), (by omega), (by omega), (fun h9 => absurd h9 (by omega)), ⟨by omega, fun h9 => absurd h9 (by decide)⟩, (fun h9 => absurd h9 (by decide))⟩⟩ (Nat.le_of_ble_eq_true rfl) (Nat.le_of_ble_eq_true rfl) dX13_goesOn_281
      · have w6962 := cv_ne (rfl : z6954.toInt = z6954.toInt) (by decide : (0 : Int32).toInt = 0) c6955
        have w6963 := xz6954_0 (by omega)
        have w6964 := xz6953_0 (by omega)
        refine lv_iload_n hx hb dX13_goesOn_192 rfl (lv_at hl 2 rfl) ?_
        refine lv_iconst (v := 3) hx hb dX13_goesOn_193 (by decide) ?_
        refine lv_icmp_ge (tgt := 220) hx hb dX13_goesOn_194 (by decide) (fun c6965 => ?_) (fun c6965 => ?_)
        · have w6966 := cv_le (by decide : (3 : Int32).toInt = 3) (rfl : z6935.toInt = z6935.toInt) c6965
          exact K220 z6936 z6937 z6938 z6939 z6940 z6941 _ _ _ _ (by omega) (by omega) (by omega) (by omega) (by omega) hT hfr pf0 pf1 pf2 qz6936 qz6937 qz6938 qz6939 qz6940 qz6941 (by omega) (by omega) (lv_sub hl [0, 1, 2] rfl)
        · have w6967 := cv_nle (by decide : (3 : Int32).toInt = 3) (rfl : z6935.toInt = z6935.toInt) c6965
          refine lv_aload_n hx hb dX13_goesOn_197 rfl (lv_at hl 0 rfl) ?_
          refine lv_bipush (v := 10) hx hb dX13_goesOn_198 (by decide) ?_
          refine lv_aload_n hx hb dX13_goesOn_200 rfl (lv_at hl 0 rfl) ?_
          refine t_get (C := RX13) (T := TX13) (N := 37) X hT m0 g0 rfl rfl 12 (by decide) qw_516 inlX13 rfl dX13_goesOn_201 (fun v6968 hv6968 ov6968 => ?_)
          obtain rfl : v6968 = .int z6941 := hv6968.symm.trans qz6941
          refine lv_imul hx hb dX13_goesOn_204 ?_
          refine lv_topi (fun z6969 ez6969 => ?_)
          have rz6969 := rg_all z6969
          refine lv_aload_n hx hb dX13_goesOn_205 rfl (lv_at hl 0 rfl) ?_
          refine lv_aload_n hx hb dX13_goesOn_206 rfl (lv_at hl 0 rfl) ?_
          refine t_get (C := RX13) (T := TX13) (N := 37) X hT m0 g0 rfl rfl 8 (by decide) qw_472 inlX13 rfl dX13_goesOn_207 (fun v6970 hv6970 ov6970 => ?_)
          obtain rfl : v6970 = .int z6936 := hv6970.symm.trans qz6936
          refine t_cVi (n := 1) (C := RX13) (T := TX13) (N := 37) (As := [.int z6936]) (rest := [.int z6969, .ref p0]) X hT (km11_X13_byteAt l G tag L F hT.2.2.2 p0 z6936 m0 g0 (by omega)) m0 g0 rfl rfl qw_517 qw_518 qw_519 qw_5 qw_520 ⟨rfl, by decide +kernel, by decide +kernel, by decide +kernel⟩ ⟨Nat.le_of_ble_eq_true rfl, Nat.le_of_ble_eq_true rfl⟩ hl rfl rfl (Nat.le_of_ble_eq_true rfl) dX13_goesOn_210 ⟨Nat.le_of_ble_eq_true rfl, Nat.le_of_ble_eq_true rfl⟩ (fun z6971 F9 H locs hT hz6971 => ?_)
          obtain ⟨fz6971, hz6971, xz6971_0⟩ := hz6971
          rw [fz6971] at hT
          refine lv_iadd hx hb dX13_goesOn_213 ?_
          refine lv_topi (fun z6972 ez6972 => ?_)
          have rz6972 := rg_all z6972
          refine lv_bipush (v := 48) hx hb dX13_goesOn_214 (by decide) ?_
          refine lv_isub hx hb dX13_goesOn_216 ?_
          refine lv_topi (fun z6973 ez6973 => ?_)
          have rz6973 := rg_all z6973
          refine t_put (C := RX13) (T := TX13) (N := 37) (v := .int z6973) X hT m0 g0 rfl tyX13 tyX13_ok nmX13 rfl 12 (by decide) qw_516 inlX13 rfl (by first | rfl | decide) (by first | rfl | decide) rfl (⟨_, rfl, (show (-2147483648) ≤ (z6973 : Int32).toInt from (by omega)), (show (z6973 : Int32).toInt ≤ 2147483647 from (by omega))⟩) dX13_goesOn_217 (fun F H locs hT v6974 h1v6974 h2v6974 => ?_)
          have qz6936 := (h1v6974 _ _ (Or.inr (by decide))).trans qz6936
          have qz6937 := (h1v6974 _ _ (Or.inr (by decide))).trans qz6937
          have qz6938 := (h1v6974 _ _ (Or.inr (by decide))).trans qz6938
          have qz6939 := (h1v6974 _ _ (Or.inr (by decide))).trans qz6939
          have qz6940 := (h1v6974 _ _ (Or.inr (by decide))).trans qz6940
          have pf0 := (h1v6974 _ _ (Or.inr (by decide))).trans pf0
          have pf1 := (h1v6974 _ _ (Or.inr (by decide))).trans pf1
          have pf2 := (h1v6974 _ _ (Or.inr (by decide))).trans pf2
          have hfr : (∀ b j : Nat, (tag b ≠ 46 ∨ j ≠ 8) → (tag b ≠ 46 ∨ j ≠ 9) → (tag b ≠ 46 ∨ j ≠ 10) → (tag b ≠ 46 ∨ j ≠ 11) → (tag b ≠ 46 ∨ j ≠ 12) → (tag b ≠ 46 ∨ j ≠ 15) → fld F b j = fld Fo b j) ∧ (∀ b j : Nat, elm F b j = elm Fo b j) := ⟨fun b j n46_8 n46_9 n46_10 n46_11 n46_12 n46_15 => (h1v6974 b j (fr_ne g0 n46_12)).trans (hfr.1 b j n46_8 n46_9 n46_10 n46_11 n46_12 n46_15), fun b j  => (h2v6974 b j).trans (hfr.2 b j )⟩
          exact K220 z6936 z6937 z6938 z6939 z6940 z6973 _ _ _ _ (by omega) (by omega) (by omega) (by omega) (by omega) hT hfr pf0 pf1 pf2 qz6936 qz6937 qz6938 qz6939 qz6940 v6974 (by omega) (by omega) (lv_sub hl [0, 1, 2] rfl)
  have K261 : ∀ (z6975 : Int32) (z6976 : Int32) (z6977 : Int32) (z6978 : Int32) (z6979 : Int32) (z6980 : Int32) (z6981 : Int32) (F : Nat → va_E) (H : Heap) (locs : List Loc) (ls : Array Slot), (44 ≤ z6975.toInt ∧ z6975.toInt ≤ 59) → (0 ≤ z6976.toInt ∧ z6976.toInt ≤ 0) → (0 ≤ z6977.toInt ∧ z6977.toInt ≤ 999) → (0 ≤ z6978.toInt ∧ z6978.toInt ≤ 7) → (0 ≤ z6979.toInt ∧ z6979.toInt ≤ 999) → (0 ≤ z6980.toInt ∧ z6980.toInt ≤ 0) → (0 ≤ z6981.toInt ∧ z6981.toInt ≤ 0) → TH G ttC A s tag L F H locs → ((∀ b j : Nat, (tag b ≠ 46 ∨ j ≠ 8) → (tag b ≠ 46 ∨ j ≠ 9) → (tag b ≠ 46 ∨ j ≠ 10) → (tag b ≠ 46 ∨ j ≠ 11) → (tag b ≠ 46 ∨ j ≠ 12) → (tag b ≠ 46 ∨ j ≠ 15) → fld F b j = fld Fo b j) ∧ (∀ b j : Nat, elm F b j = elm Fo b j)) → (fld F p0 4 = .ref x0) → (fld F x0 28 = .ref x1) → (fld F x0 29 = .ref x2) → (fld F p0 8 = .int z6977) → (fld F p0 13 = .int z6978) → (fld F p0 10 = .int z6979) → (fld F p0 9 = .int z6980) → (fld F p0 11 = .int z6981) → (x4.toInt ≤ z6977.toInt) → (x3.toInt ≠ 5) → lv_has ls 3 [(0, .ref p0), (1, .int z6975), (2, .int z6976)] → W p l e { frames := 1, cells := 0, slots := 0, locals := 21 } s m args below meth c H locs 0 0 Q (F0 m 261 ls []) := by
    intro z6975 z6976 z6977 z6978 z6979 z6980 z6981 F H locs ls rz6975 rz6976 rz6977 rz6978 rz6979 rz6980 rz6981 hT hfr pf0 pf1 pf2 qz6977 qz6978 qz6979 qz6980 qz6981 ex261_0 ex261_1 hl
    refine lv_aload_n hx hb dX13_goesOn_261 rfl (lv_at hl 0 rfl) ?_
    refine lv_iconst (v := 4) hx hb dX13_goesOn_262 (by decide) ?_
    refine t_put (C := RX13) (T := TX13) (N := 37) (v := .int 4) X hT m0 g0 rfl tyX13 tyX13_ok nmX13 rfl 9 (by decide) qw_478 inlX13 rfl (by first | rfl | decide) (by first | rfl | decide) rfl (⟨_, rfl, (show 0 ≤ (4 : Int32).toInt from (by decide)), (show (4 : Int32).toInt ≤ 5 from (by decide))⟩) dX13_goesOn_263 (fun F H locs hT v6982 h1v6982 h2v6982 => ?_)
    have qz6977 := (h1v6982 _ _ (Or.inr (by decide))).trans qz6977
    have qz6978 := (h1v6982 _ _ (Or.inr (by decide))).trans qz6978
    have qz6979 := (h1v6982 _ _ (Or.inr (by decide))).trans qz6979
    have qz6981 := (h1v6982 _ _ (Or.inr (by decide))).trans qz6981
    have pf0 := (h1v6982 _ _ (Or.inr (by decide))).trans pf0
    have pf1 := (h1v6982 _ _ (Or.inr (by decide))).trans pf1
    have pf2 := (h1v6982 _ _ (Or.inr (by decide))).trans pf2
    have hfr : (∀ b j : Nat, (tag b ≠ 46 ∨ j ≠ 8) → (tag b ≠ 46 ∨ j ≠ 9) → (tag b ≠ 46 ∨ j ≠ 10) → (tag b ≠ 46 ∨ j ≠ 11) → (tag b ≠ 46 ∨ j ≠ 12) → (tag b ≠ 46 ∨ j ≠ 15) → fld F b j = fld Fo b j) ∧ (∀ b j : Nat, elm F b j = elm Fo b j) := ⟨fun b j n46_8 n46_9 n46_10 n46_11 n46_12 n46_15 => (h1v6982 b j (fr_ne g0 n46_9)).trans (hfr.1 b j n46_8 n46_9 n46_10 n46_11 n46_12 n46_15), fun b j  => (h2v6982 b j).trans (hfr.2 b j )⟩
    refine lv_aload_n hx hb dX13_goesOn_266 rfl (lv_at hl 0 rfl) ?_
    refine lv_iload_n hx hb dX13_goesOn_267 rfl (lv_at hl 1 rfl) ?_
    refine t_put (C := RX13) (T := TX13) (N := 37) (v := .int z6975) X hT m0 g0 rfl tyX13 tyX13_ok nmX13 rfl 11 (by decide) qw_513 inlX13 rfl (by first | rfl | decide) (by first | rfl | decide) rfl (⟨_, rfl, (show (-2147483648) ≤ (z6975 : Int32).toInt from (by omega)), (show (z6975 : Int32).toInt ≤ 2147483647 from (by omega))⟩) dX13_goesOn_268 (fun F H locs hT v6983 h1v6983 h2v6983 => ?_)
    have qz6977 := (h1v6983 _ _ (Or.inr (by decide))).trans qz6977
    have qz6978 := (h1v6983 _ _ (Or.inr (by decide))).trans qz6978
    have qz6979 := (h1v6983 _ _ (Or.inr (by decide))).trans qz6979
    have pf0 := (h1v6983 _ _ (Or.inr (by decide))).trans pf0
    have pf1 := (h1v6983 _ _ (Or.inr (by decide))).trans pf1
    have pf2 := (h1v6983 _ _ (Or.inr (by decide))).trans pf2
    have v6982 := (h1v6983 _ _ (Or.inr (by decide))).trans v6982
    have hfr : (∀ b j : Nat, (tag b ≠ 46 ∨ j ≠ 8) → (tag b ≠ 46 ∨ j ≠ 9) → (tag b ≠ 46 ∨ j ≠ 10) → (tag b ≠ 46 ∨ j ≠ 11) → (tag b ≠ 46 ∨ j ≠ 12) → (tag b ≠ 46 ∨ j ≠ 15) → fld F b j = fld Fo b j) ∧ (∀ b j : Nat, elm F b j = elm Fo b j) := ⟨fun b j n46_8 n46_9 n46_10 n46_11 n46_12 n46_15 => (h1v6983 b j (fr_ne g0 n46_11)).trans (hfr.1 b j n46_8 n46_9 n46_10 n46_11 n46_12 n46_15), fun b j  => (h2v6983 b j).trans (hfr.2 b j )⟩
    refine lv_aload_n hx hb dX13_goesOn_271 rfl (lv_at hl 0 rfl) ?_
    refine lv_dup hx hb dX13_goesOn_272 rfl ?_
    refine t_get (C := RX13) (T := TX13) (N := 37) X hT m0 g0 rfl rfl 8 (by decide) qw_472 inlX13 rfl dX13_goesOn_273 (fun v6984 hv6984 ov6984 => ?_)
    obtain rfl : v6984 = .int z6977 := hv6984.symm.trans qz6977
    refine lv_iconst (v := 1) hx hb dX13_goesOn_276 (by decide) ?_
    refine lv_iadd hx hb dX13_goesOn_277 ?_
    refine lv_topi (fun z6985 ez6985 => ?_)
    have hz6985 : z6985.toInt = z6977.toInt + 1 := ar_add ez6985 (rfl : z6977.toInt = z6977.toInt) (by decide : (1 : Int32).toInt = 1) (by omega) (by omega)
    have rz6985 : 1 ≤ z6985.toInt ∧ z6985.toInt ≤ 1000 := by omega
    refine t_put (C := RX13) (T := TX13) (N := 37) (v := .int z6985) X hT m0 g0 rfl tyX13 tyX13_ok nmX13 rfl 8 (by decide) qw_472 inlX13 rfl (by first | rfl | decide) (by first | rfl | decide) rfl (⟨_, rfl, (show 0 ≤ (z6985 : Int32).toInt from (by omega)), (show (z6985 : Int32).toInt ≤ 1000 from (by omega))⟩) dX13_goesOn_278 (fun F H locs hT v6986 h1v6986 h2v6986 => ?_)
    have qz6978 := (h1v6986 _ _ (Or.inr (by decide))).trans qz6978
    have qz6979 := (h1v6986 _ _ (Or.inr (by decide))).trans qz6979
    have pf0 := (h1v6986 _ _ (Or.inr (by decide))).trans pf0
    have pf1 := (h1v6986 _ _ (Or.inr (by decide))).trans pf1
    have pf2 := (h1v6986 _ _ (Or.inr (by decide))).trans pf2
    have v6982 := (h1v6986 _ _ (Or.inr (by decide))).trans v6982
    have v6983 := (h1v6986 _ _ (Or.inr (by decide))).trans v6983
    have hfr : (∀ b j : Nat, (tag b ≠ 46 ∨ j ≠ 8) → (tag b ≠ 46 ∨ j ≠ 9) → (tag b ≠ 46 ∨ j ≠ 10) → (tag b ≠ 46 ∨ j ≠ 11) → (tag b ≠ 46 ∨ j ≠ 12) → (tag b ≠ 46 ∨ j ≠ 15) → fld F b j = fld Fo b j) ∧ (∀ b j : Nat, elm F b j = elm Fo b j) := ⟨fun b j n46_8 n46_9 n46_10 n46_11 n46_12 n46_15 => (h1v6986 b j (fr_ne g0 n46_8)).trans (hfr.1 b j n46_8 n46_9 n46_10 n46_11 n46_12 n46_15), fun b j  => (h2v6986 b j).trans (hfr.2 b j )⟩
    have k6987 : (4 : Int32).toInt = 4 := by decide
    exact t_vret hQ X hT ⟨hfr, ⟨4, z6985, z6978, v6982, v6986, qz6978, (by decide), (by omega), (by omega), (fun h9 => absurd h9 (by omega)), ⟨by omega, fun h9 => Or.inr (by omega)⟩, (fun h9 => absurd h9 (by decide))⟩⟩ (Nat.le_of_ble_eq_true rfl) (Nat.le_of_ble_eq_true rfl) dX13_goesOn_281
  have K9 : ∀ (n : Nat) (z6988 : Int32) (z6989 : Int32) (z6990 : Int32) (F : Nat → va_E) (H : Heap) (locs : List Loc) (ls : Array Slot), (1000 - z6989.toInt < (n : Int)) → (0 ≤ z6988.toInt ∧ z6988.toInt ≤ 4) → (0 ≤ z6989.toInt ∧ z6989.toInt ≤ 1000) → (0 ≤ z6990.toInt ∧ z6990.toInt ≤ 7) → TH G ttC A s tag L F H locs → ((∀ b j : Nat, (tag b ≠ 46 ∨ j ≠ 8) → (tag b ≠ 46 ∨ j ≠ 9) → (tag b ≠ 46 ∨ j ≠ 10) → (tag b ≠ 46 ∨ j ≠ 11) → (tag b ≠ 46 ∨ j ≠ 12) → (tag b ≠ 46 ∨ j ≠ 15) → fld F b j = fld Fo b j) ∧ (∀ b j : Nat, elm F b j = elm Fo b j)) → (fld F p0 4 = .ref x0) → (fld F x0 28 = .ref x1) → (fld F x0 29 = .ref x2) → (fld F p0 9 = .int z6988) → (fld F p0 8 = .int z6989) → (fld F p0 13 = .int z6990) → (x4.toInt ≤ z6989.toInt) → (x3.toInt ≠ 5) → lv_has ls 3 [(0, .ref p0)] → W p l e { frames := 1, cells := 0, slots := 0, locals := 21 } s m args below meth c H locs 0 0 Q (F0 m 9 ls []) := by
    intro n
    induction n with
    | zero =>
      intro z6988 z6989 z6990 F H locs ls hn rz6988 rz6989 rz6990 hT hfr pf0 pf1 pf2 qz6988 qz6989 qz6990 ex9_0 ex9_1 hl
      exfalso
      omega
    | succ n ih9 =>
      intro z6988 z6989 z6990 F H locs ls hn rz6988 rz6989 rz6990 hT hfr pf0 pf1 pf2 qz6988 qz6989 qz6990 ex9_0 ex9_1 hl
      refine lv_aload_n hx hb dX13_goesOn_9 rfl (lv_at hl 0 rfl) ?_
      refine lv_aload_n hx hb dX13_goesOn_10 rfl (lv_at hl 0 rfl) ?_
      refine t_get (C := RX13) (T := TX13) (N := 37) X hT m0 g0 rfl rfl 8 (by decide) qw_472 inlX13 rfl dX13_goesOn_11 (fun v6991 hv6991 ov6991 => ?_)
      obtain rfl : v6991 = .int z6989 := hv6991.symm.trans qz6989
      refine t_cVi (n := 1) (C := RX13) (T := TX13) (N := 37) (As := [.int z6989]) (rest := []) X hT (km11_X13_byteAt l G tag L F hT.2.2.2 p0 z6989 m0 g0 (by omega)) m0 g0 rfl rfl qw_517 qw_518 qw_519 qw_5 qw_520 ⟨rfl, by decide +kernel, by decide +kernel, by decide +kernel⟩ ⟨Nat.le_of_ble_eq_true rfl, Nat.le_of_ble_eq_true rfl⟩ hl rfl rfl (Nat.le_of_ble_eq_true rfl) dX13_goesOn_14 ⟨Nat.le_of_ble_eq_true rfl, Nat.le_of_ble_eq_true rfl⟩ (fun z6992 F9 H locs hT hz6992 => ?_)
      obtain ⟨fz6992, hz6992, xz6992_0⟩ := hz6992
      rw [fz6992] at hT
      refine lv_bipush (v := 32) hx hb dX13_goesOn_17 (by decide) ?_
      refine lv_icmp_ne (tgt := 35) hx hb dX13_goesOn_19 (by decide) (fun c6993 => ?_) (fun c6993 => ?_)
      · have w6994 := cv_ne (rfl : z6992.toInt = z6992.toInt) (by decide : (32 : Int32).toInt = 32) c6993
        refine lv_aload_n hx hb dX13_goesOn_35 rfl (lv_at hl 0 rfl) ?_
        refine lv_aload_n hx hb dX13_goesOn_36 rfl (lv_at hl 0 rfl) ?_
        refine t_get (C := RX13) (T := TX13) (N := 37) X hT m0 g0 rfl rfl 8 (by decide) qw_472 inlX13 rfl dX13_goesOn_37 (fun v6995 hv6995 ov6995 => ?_)
        obtain rfl : v6995 = .int z6989 := hv6995.symm.trans qz6989
        refine t_put (C := RX13) (T := TX13) (N := 37) (v := .int z6989) X hT m0 g0 rfl tyX13 tyX13_ok nmX13 rfl 10 (by decide) qw_512 inlX13 rfl (by first | rfl | decide) (by first | rfl | decide) rfl (⟨_, rfl, (show (-2147483648) ≤ (z6989 : Int32).toInt from (by omega)), (show (z6989 : Int32).toInt ≤ 2147483647 from (by omega))⟩) dX13_goesOn_40 (fun F H locs hT v6996 h1v6996 h2v6996 => ?_)
        have qz6988 := (h1v6996 _ _ (Or.inr (by decide))).trans qz6988
        have qz6989 := (h1v6996 _ _ (Or.inr (by decide))).trans qz6989
        have qz6990 := (h1v6996 _ _ (Or.inr (by decide))).trans qz6990
        have pf0 := (h1v6996 _ _ (Or.inr (by decide))).trans pf0
        have pf1 := (h1v6996 _ _ (Or.inr (by decide))).trans pf1
        have pf2 := (h1v6996 _ _ (Or.inr (by decide))).trans pf2
        have hfr : (∀ b j : Nat, (tag b ≠ 46 ∨ j ≠ 8) → (tag b ≠ 46 ∨ j ≠ 9) → (tag b ≠ 46 ∨ j ≠ 10) → (tag b ≠ 46 ∨ j ≠ 11) → (tag b ≠ 46 ∨ j ≠ 12) → (tag b ≠ 46 ∨ j ≠ 15) → fld F b j = fld Fo b j) ∧ (∀ b j : Nat, elm F b j = elm Fo b j) := ⟨fun b j n46_8 n46_9 n46_10 n46_11 n46_12 n46_15 => (h1v6996 b j (fr_ne g0 n46_10)).trans (hfr.1 b j n46_8 n46_9 n46_10 n46_11 n46_12 n46_15), fun b j  => (h2v6996 b j).trans (hfr.2 b j )⟩
        refine lv_aload_n hx hb dX13_goesOn_43 rfl (lv_at hl 0 rfl) ?_
        refine lv_iconst (v := 0) hx hb dX13_goesOn_44 (by decide) ?_
        refine t_put (C := RX13) (T := TX13) (N := 37) (v := .int 0) X hT m0 g0 rfl tyX13 tyX13_ok nmX13 rfl 9 (by decide) qw_478 inlX13 rfl (by first | rfl | decide) (by first | rfl | decide) rfl (⟨_, rfl, (show 0 ≤ (0 : Int32).toInt from (by decide)), (show (0 : Int32).toInt ≤ 5 from (by decide))⟩) dX13_goesOn_45 (fun F H locs hT v6997 h1v6997 h2v6997 => ?_)
        have qz6989 := (h1v6997 _ _ (Or.inr (by decide))).trans qz6989
        have qz6990 := (h1v6997 _ _ (Or.inr (by decide))).trans qz6990
        have pf0 := (h1v6997 _ _ (Or.inr (by decide))).trans pf0
        have pf1 := (h1v6997 _ _ (Or.inr (by decide))).trans pf1
        have pf2 := (h1v6997 _ _ (Or.inr (by decide))).trans pf2
        have v6996 := (h1v6997 _ _ (Or.inr (by decide))).trans v6996
        have hfr : (∀ b j : Nat, (tag b ≠ 46 ∨ j ≠ 8) → (tag b ≠ 46 ∨ j ≠ 9) → (tag b ≠ 46 ∨ j ≠ 10) → (tag b ≠ 46 ∨ j ≠ 11) → (tag b ≠ 46 ∨ j ≠ 12) → (tag b ≠ 46 ∨ j ≠ 15) → fld F b j = fld Fo b j) ∧ (∀ b j : Nat, elm F b j = elm Fo b j) := ⟨fun b j n46_8 n46_9 n46_10 n46_11 n46_12 n46_15 => (h1v6997 b j (fr_ne g0 n46_9)).trans (hfr.1 b j n46_8 n46_9 n46_10 n46_11 n46_12 n46_15), fun b j  => (h2v6997 b j).trans (hfr.2 b j )⟩
        refine lv_aload_n hx hb dX13_goesOn_48 rfl (lv_at hl 0 rfl) ?_
        refine lv_iconst (v := 0) hx hb dX13_goesOn_49 (by decide) ?_
        refine t_put (C := RX13) (T := TX13) (N := 37) (v := .int 0) X hT m0 g0 rfl tyX13 tyX13_ok nmX13 rfl 11 (by decide) qw_513 inlX13 rfl (by first | rfl | decide) (by first | rfl | decide) rfl (⟨_, rfl, (show (-2147483648) ≤ (0 : Int32).toInt from (by decide)), (show (0 : Int32).toInt ≤ 2147483647 from (by decide))⟩) dX13_goesOn_50 (fun F H locs hT v6998 h1v6998 h2v6998 => ?_)
        have qz6989 := (h1v6998 _ _ (Or.inr (by decide))).trans qz6989
        have qz6990 := (h1v6998 _ _ (Or.inr (by decide))).trans qz6990
        have pf0 := (h1v6998 _ _ (Or.inr (by decide))).trans pf0
        have pf1 := (h1v6998 _ _ (Or.inr (by decide))).trans pf1
        have pf2 := (h1v6998 _ _ (Or.inr (by decide))).trans pf2
        have v6996 := (h1v6998 _ _ (Or.inr (by decide))).trans v6996
        have v6997 := (h1v6998 _ _ (Or.inr (by decide))).trans v6997
        have hfr : (∀ b j : Nat, (tag b ≠ 46 ∨ j ≠ 8) → (tag b ≠ 46 ∨ j ≠ 9) → (tag b ≠ 46 ∨ j ≠ 10) → (tag b ≠ 46 ∨ j ≠ 11) → (tag b ≠ 46 ∨ j ≠ 12) → (tag b ≠ 46 ∨ j ≠ 15) → fld F b j = fld Fo b j) ∧ (∀ b j : Nat, elm F b j = elm Fo b j) := ⟨fun b j n46_8 n46_9 n46_10 n46_11 n46_12 n46_15 => (h1v6998 b j (fr_ne g0 n46_11)).trans (hfr.1 b j n46_8 n46_9 n46_10 n46_11 n46_12 n46_15), fun b j  => (h2v6998 b j).trans (hfr.2 b j )⟩
        refine lv_aload_n hx hb dX13_goesOn_53 rfl (lv_at hl 0 rfl) ?_
        refine lv_aload_n hx hb dX13_goesOn_54 rfl (lv_at hl 0 rfl) ?_
        refine t_get (C := RX13) (T := TX13) (N := 37) X hT m0 g0 rfl rfl 8 (by decide) qw_472 inlX13 rfl dX13_goesOn_55 (fun v6999 hv6999 ov6999 => ?_)
        obtain rfl : v6999 = .int z6989 := hv6999.symm.trans qz6989
        refine t_cVi (n := 1) (C := RX13) (T := TX13) (N := 37) (As := [.int z6989]) (rest := []) X hT (km11_X13_byteAt l G tag L F hT.2.2.2 p0 z6989 m0 g0 (by omega)) m0 g0 rfl rfl qw_517 qw_518 qw_519 qw_5 qw_520 ⟨rfl, by decide +kernel, by decide +kernel, by decide +kernel⟩ ⟨Nat.le_of_ble_eq_true rfl, Nat.le_of_ble_eq_true rfl⟩ hl rfl rfl (Nat.le_of_ble_eq_true rfl) dX13_goesOn_58 ⟨Nat.le_of_ble_eq_true rfl, Nat.le_of_ble_eq_true rfl⟩ (fun z7000 F9 H locs hT hz7000 => ?_)
        obtain ⟨fz7000, hz7000, xz7000_0⟩ := hz7000
        rw [fz7000] at hT
        refine lv_istore_n (lv' := [(1, .int z7000), (0, .ref p0)]) hx hb dX13_goesOn_61 rfl hl (by decide) rfl (fun ls hl => ?_)
        refine lv_iconst (v := 0) hx hb dX13_goesOn_62 (by decide) ?_
        refine lv_istore_n (lv' := [(2, .int 0), (1, .int z7000), (0, .ref p0)]) hx hb dX13_goesOn_63 rfl hl (by decide) rfl (fun ls hl => ?_)
        refine lv_iload_n hx hb dX13_goesOn_64 rfl (lv_at hl 1 rfl) ?_
        refine lv_iconst (v := (-1)) hx hb dX13_goesOn_65 (by decide) ?_
        refine lv_icmp_ne (tgt := 77) hx hb dX13_goesOn_66 (by decide) (fun c7001 => ?_) (fun c7001 => ?_)
        · have w7002 := cv_ne (rfl : z7000.toInt = z7000.toInt) (by decide : ((-1) : Int32).toInt = (-1)) c7001
          have w7003 := xz7000_0 (by omega)
          refine lv_iload_n hx hb dX13_goesOn_77 rfl (lv_at hl 1 rfl) ?_
          refine t_cSi (n := 1) (As := [.int z7000]) (rest := []) X hT (km12_X13_isLetter l G tag L F hT.2.2.2 z7000 ) qw_521 qw_522 qw_5 qw_523 ⟨by decide +kernel, by decide +kernel, by decide +kernel⟩ ⟨Nat.le_of_ble_eq_true rfl, Nat.le_of_ble_eq_true rfl⟩ hl rfl rfl (Nat.le_of_ble_eq_true rfl) dX13_goesOn_78 ⟨Nat.le_of_ble_eq_true rfl, Nat.le_of_ble_eq_true rfl⟩ (fun z7004 F9 H locs hT hz7004 => ?_)
          obtain ⟨fz7004, hz7004, xz7004_0⟩ := hz7004
          rw [fz7004] at hT
          refine lv_if_eq (tgt := 166) hx hb dX13_goesOn_81 (by decide) (fun c7005 => ?_) (fun c7005 => ?_)
          · have w7006 := cv_eq (rfl : z7004.toInt = z7004.toInt) (by decide : (0 : Int32).toInt = 0) c7005
            refine lv_iload_n hx hb dX13_goesOn_166 rfl (lv_at hl 1 rfl) ?_
            refine t_cSi (n := 1) (As := [.int z7000]) (rest := []) X hT (km13_X13_isDigit l G tag L F hT.2.2.2 z7000 ) qw_524 qw_525 qw_5 qw_526 ⟨by decide +kernel, by decide +kernel, by decide +kernel⟩ ⟨Nat.le_of_ble_eq_true rfl, Nat.le_of_ble_eq_true rfl⟩ hl rfl rfl (Nat.le_of_ble_eq_true rfl) dX13_goesOn_167 ⟨Nat.le_of_ble_eq_true rfl, Nat.le_of_ble_eq_true rfl⟩ (fun z7007 F9 H locs hT hz7007 => ?_)
            obtain ⟨fz7007, hz7007, xz7007_0⟩ := hz7007
            rw [fz7007] at hT
            refine lv_if_eq (tgt := 249) hx hb dX13_goesOn_170 (by decide) (fun c7008 => ?_) (fun c7008 => ?_)
            · have w7009 := cv_eq (rfl : z7007.toInt = z7007.toInt) (by decide : (0 : Int32).toInt = 0) c7008
              refine lv_iload_n hx hb dX13_goesOn_249 rfl (lv_at hl 1 rfl) ?_
              refine lv_bipush (v := 59) hx hb dX13_goesOn_250 (by decide) ?_
              refine lv_icmp_eq (tgt := 261) hx hb dX13_goesOn_252 (by decide) (fun c7010 => ?_) (fun c7010 => ?_)
              · have w7011 := cv_eq (rfl : z7000.toInt = z7000.toInt) (by decide : (59 : Int32).toInt = 59) c7010
                have w7012 := xz7000_0 (by omega)
                have k7013 : (0 : Int32).toInt = 0 := by decide
                have k7014 : (0 : Int32).toInt = 0 := by decide
                have k7015 : (0 : Int32).toInt = 0 := by decide
                exact K261 z7000 0 z6989 z6990 z6989 0 0 _ _ _ _ (by omega) (by decide) (by omega) (by omega) (by omega) (by decide) (by decide) hT hfr pf0 pf1 pf2 qz6989 qz6990 v6996 v6997 v6998 (by omega) (by omega) (lv_sub hl [2, 1, 0] rfl)
              · have w7016 := cv_ne (rfl : z7000.toInt = z7000.toInt) (by decide : (59 : Int32).toInt = 59) c7010
                have w7017 := xz7000_0 (by omega)
                refine lv_iload_n hx hb dX13_goesOn_255 rfl (lv_at hl 1 rfl) ?_
                refine lv_bipush (v := 44) hx hb dX13_goesOn_256 (by decide) ?_
                refine lv_icmp_ne (tgt := 281) hx hb dX13_goesOn_258 (by decide) (fun c7018 => ?_) (fun c7018 => ?_)
                · have w7019 := cv_ne (rfl : z7000.toInt = z7000.toInt) (by decide : (44 : Int32).toInt = 44) c7018
                  have w7020 := xz7000_0 (by omega)
                  have k7021 : (0 : Int32).toInt = 0 := by decide
                  exact t_vret hQ X hT ⟨hfr, ⟨0, z6989, z6990, v6997, qz6989, qz6990, (by decide), (by omega), (by omega), (fun h9 => absurd h9 (by omega)), ⟨by omega, fun h9 => absurd h9 (by decide)⟩, (fun h9 => absurd h9 (by decide))⟩⟩ (Nat.le_of_ble_eq_true rfl) (Nat.le_of_ble_eq_true rfl) dX13_goesOn_281
                · have w7022 := cv_eq (rfl : z7000.toInt = z7000.toInt) (by decide : (44 : Int32).toInt = 44) c7018
                  have w7023 := xz7000_0 (by omega)
                  have k7024 : (0 : Int32).toInt = 0 := by decide
                  have k7025 : (0 : Int32).toInt = 0 := by decide
                  have k7026 : (0 : Int32).toInt = 0 := by decide
                  exact K261 z7000 0 z6989 z6990 z6989 0 0 _ _ _ _ (by omega) (by decide) (by omega) (by omega) (by omega) (by decide) (by decide) hT hfr pf0 pf1 pf2 qz6989 qz6990 v6996 v6997 v6998 (by omega) (by omega) (lv_sub hl [2, 1, 0] rfl)
            · have w7027 := cv_ne (rfl : z7007.toInt = z7007.toInt) (by decide : (0 : Int32).toInt = 0) c7008
              have w7028 := xz7007_0 (by omega)
              have w7029 := xz7000_0 (by omega)
              refine lv_aload_n hx hb dX13_goesOn_173 rfl (lv_at hl 2 rfl) ?_
              refine lv_iconst (v := 0) hx hb dX13_goesOn_174 (by decide) ?_
              refine t_put (C := RX13) (T := TX13) (N := 37) (v := .int 0) X hT m0 g0 rfl tyX13 tyX13_ok nmX13 rfl 12 (by decide) qw_516 inlX13 rfl (by first | rfl | decide) (by first | rfl | decide) rfl (⟨_, rfl, (show (-2147483648) ≤ (0 : Int32).toInt from (by decide)), (show (0 : Int32).toInt ≤ 2147483647 from (by decide))⟩) dX13_goesOn_175 (fun F H locs hT v7030 h1v7030 h2v7030 => ?_)
              have qz6989 := (h1v7030 _ _ (Or.inr (by decide))).trans qz6989
              have qz6990 := (h1v7030 _ _ (Or.inr (by decide))).trans qz6990
              have pf0 := (h1v7030 _ _ (Or.inr (by decide))).trans pf0
              have pf1 := (h1v7030 _ _ (Or.inr (by decide))).trans pf1
              have pf2 := (h1v7030 _ _ (Or.inr (by decide))).trans pf2
              have v6996 := (h1v7030 _ _ (Or.inr (by decide))).trans v6996
              have v6997 := (h1v7030 _ _ (Or.inr (by decide))).trans v6997
              have v6998 := (h1v7030 _ _ (Or.inr (by decide))).trans v6998
              have hfr : (∀ b j : Nat, (tag b ≠ 46 ∨ j ≠ 8) → (tag b ≠ 46 ∨ j ≠ 9) → (tag b ≠ 46 ∨ j ≠ 10) → (tag b ≠ 46 ∨ j ≠ 11) → (tag b ≠ 46 ∨ j ≠ 12) → (tag b ≠ 46 ∨ j ≠ 15) → fld F b j = fld Fo b j) ∧ (∀ b j : Nat, elm F b j = elm Fo b j) := ⟨fun b j n46_8 n46_9 n46_10 n46_11 n46_12 n46_15 => (h1v7030 b j (fr_ne g0 n46_12)).trans (hfr.1 b j n46_8 n46_9 n46_10 n46_11 n46_12 n46_15), fun b j  => (h2v7030 b j).trans (hfr.2 b j )⟩
              have k7031 : (0 : Int32).toInt = 0 := by decide
              have k7032 : (0 : Int32).toInt = 0 := by decide
              have k7033 : (0 : Int32).toInt = 0 := by decide
              have k7034 : (0 : Int32).toInt = 0 := by decide
              exact K178 1001 z7000 0 z6989 z6990 z6989 0 0 0 _ _ _ _ (by omega) (by omega) (by omega) (by omega) (by omega) (by decide) (by decide) hT hfr pf0 pf1 pf2 qz6989 qz6990 v6996 v6997 v6998 v7030 (by omega) (by omega) (lv_sub hl [2, 1, 0] rfl)
          · have w7035 := cv_ne (rfl : z7004.toInt = z7004.toInt) (by decide : (0 : Int32).toInt = 0) c7005
            have w7036 := xz7004_0 (by omega)
            have w7037 := xz7000_0 (by omega)
            refine lv_aload_n hx hb dX13_goesOn_84 rfl (lv_at hl 2 rfl) ?_
            refine lv_lconst (v := 0) hx hb dX13_goesOn_85 (by decide) ?_
            refine t_put (C := RX13) (T := TX13) (N := 37) (v := .long (0 : Int64)) X hT m0 g0 rfl tyX13 tyX13_ok nmX13 rfl 15 (by decide) qw_514 inlX13 rfl (by first | rfl | decide) (by first | rfl | decide) rfl (⟨_, rfl⟩) dX13_goesOn_86 (fun F H locs hT v7038 h1v7038 h2v7038 => ?_)
            have qz6989 := (h1v7038 _ _ (Or.inr (by decide))).trans qz6989
            have qz6990 := (h1v7038 _ _ (Or.inr (by decide))).trans qz6990
            have pf0 := (h1v7038 _ _ (Or.inr (by decide))).trans pf0
            have pf1 := (h1v7038 _ _ (Or.inr (by decide))).trans pf1
            have pf2 := (h1v7038 _ _ (Or.inr (by decide))).trans pf2
            have v6996 := (h1v7038 _ _ (Or.inr (by decide))).trans v6996
            have v6997 := (h1v7038 _ _ (Or.inr (by decide))).trans v6997
            have v6998 := (h1v7038 _ _ (Or.inr (by decide))).trans v6998
            have hfr : (∀ b j : Nat, (tag b ≠ 46 ∨ j ≠ 8) → (tag b ≠ 46 ∨ j ≠ 9) → (tag b ≠ 46 ∨ j ≠ 10) → (tag b ≠ 46 ∨ j ≠ 11) → (tag b ≠ 46 ∨ j ≠ 12) → (tag b ≠ 46 ∨ j ≠ 15) → fld F b j = fld Fo b j) ∧ (∀ b j : Nat, elm F b j = elm Fo b j) := ⟨fun b j n46_8 n46_9 n46_10 n46_11 n46_12 n46_15 => (h1v7038 b j (fr_ne g0 n46_15)).trans (hfr.1 b j n46_8 n46_9 n46_10 n46_11 n46_12 n46_15), fun b j  => (h2v7038 b j).trans (hfr.2 b j )⟩
            have k7039 : (0 : Int32).toInt = 0 := by decide
            have k7040 : (0 : Int32).toInt = 0 := by decide
            have k7041 : (0 : Int32).toInt = 0 := by decide
            exact K89 1001 z7000 0 z6989 z6990 z6989 0 0 _ _ _ _ (by omega) (by omega) (by omega) (by omega) (by omega) (by decide) (by decide) hT hfr pf0 pf1 pf2 qz6989 qz6990 v6996 v6997 v6998 (by omega) (by omega) (lv_sub hl [2, 1, 0] rfl)
        · have w7042 := cv_eq (rfl : z7000.toInt = z7000.toInt) (by decide : ((-1) : Int32).toInt = (-1)) c7001
          refine lv_aload_n hx hb dX13_goesOn_69 rfl (lv_at hl 2 rfl) ?_
          refine lv_iconst (v := 1) hx hb dX13_goesOn_70 (by decide) ?_
          refine t_put (C := RX13) (T := TX13) (N := 37) (v := .int 1) X hT m0 g0 rfl tyX13 tyX13_ok nmX13 rfl 9 (by decide) qw_478 inlX13 rfl (by first | rfl | decide) (by first | rfl | decide) rfl (⟨_, rfl, (show 0 ≤ (1 : Int32).toInt from (by decide)), (show (1 : Int32).toInt ≤ 5 from (by decide))⟩) dX13_goesOn_71 (fun F H locs hT v7043 h1v7043 h2v7043 => ?_)
          have qz6989 := (h1v7043 _ _ (Or.inr (by decide))).trans qz6989
          have qz6990 := (h1v7043 _ _ (Or.inr (by decide))).trans qz6990
          have pf0 := (h1v7043 _ _ (Or.inr (by decide))).trans pf0
          have pf1 := (h1v7043 _ _ (Or.inr (by decide))).trans pf1
          have pf2 := (h1v7043 _ _ (Or.inr (by decide))).trans pf2
          have v6996 := (h1v7043 _ _ (Or.inr (by decide))).trans v6996
          have v6998 := (h1v7043 _ _ (Or.inr (by decide))).trans v6998
          have hfr : (∀ b j : Nat, (tag b ≠ 46 ∨ j ≠ 8) → (tag b ≠ 46 ∨ j ≠ 9) → (tag b ≠ 46 ∨ j ≠ 10) → (tag b ≠ 46 ∨ j ≠ 11) → (tag b ≠ 46 ∨ j ≠ 12) → (tag b ≠ 46 ∨ j ≠ 15) → fld F b j = fld Fo b j) ∧ (∀ b j : Nat, elm F b j = elm Fo b j) := ⟨fun b j n46_8 n46_9 n46_10 n46_11 n46_12 n46_15 => (h1v7043 b j (fr_ne g0 n46_9)).trans (hfr.1 b j n46_8 n46_9 n46_10 n46_11 n46_12 n46_15), fun b j  => (h2v7043 b j).trans (hfr.2 b j )⟩
          refine lv_goto (tgt := 281) hx hb dX13_goesOn_74 (by decide) ?_
          have k7044 : (1 : Int32).toInt = 1 := by decide
          exact t_vret hQ X hT ⟨hfr, ⟨1, z6989, z6990, v7043, qz6989, qz6990, (by decide), (by omega), (by omega), (fun h9 => absurd h9 (by omega)), ⟨by omega, fun h9 => absurd h9 (by decide)⟩, (fun h9 => absurd h9 (by decide))⟩⟩ (Nat.le_of_ble_eq_true rfl) (Nat.le_of_ble_eq_true rfl) dX13_goesOn_281
      · have w7045 := cv_eq (rfl : z6992.toInt = z6992.toInt) (by decide : (32 : Int32).toInt = 32) c6993
        have w7046 := xz6992_0 (by omega)
        refine lv_aload_n hx hb dX13_goesOn_22 rfl (lv_at hl 0 rfl) ?_
        refine lv_dup hx hb dX13_goesOn_23 rfl ?_
        refine t_get (C := RX13) (T := TX13) (N := 37) X hT m0 g0 rfl rfl 8 (by decide) qw_472 inlX13 rfl dX13_goesOn_24 (fun v7047 hv7047 ov7047 => ?_)
        obtain rfl : v7047 = .int z6989 := hv7047.symm.trans qz6989
        refine lv_iconst (v := 1) hx hb dX13_goesOn_27 (by decide) ?_
        refine lv_iadd hx hb dX13_goesOn_28 ?_
        refine lv_topi (fun z7048 ez7048 => ?_)
        have hz7048 : z7048.toInt = z6989.toInt + 1 := ar_add ez7048 (rfl : z6989.toInt = z6989.toInt) (by decide : (1 : Int32).toInt = 1) (by omega) (by omega)
        have rz7048 : 1 ≤ z7048.toInt ∧ z7048.toInt ≤ 1000 := by omega
        refine t_put (C := RX13) (T := TX13) (N := 37) (v := .int z7048) X hT m0 g0 rfl tyX13 tyX13_ok nmX13 rfl 8 (by decide) qw_472 inlX13 rfl (by first | rfl | decide) (by first | rfl | decide) rfl (⟨_, rfl, (show 0 ≤ (z7048 : Int32).toInt from (by omega)), (show (z7048 : Int32).toInt ≤ 1000 from (by omega))⟩) dX13_goesOn_29 (fun F H locs hT v7049 h1v7049 h2v7049 => ?_)
        have qz6988 := (h1v7049 _ _ (Or.inr (by decide))).trans qz6988
        have qz6990 := (h1v7049 _ _ (Or.inr (by decide))).trans qz6990
        have pf0 := (h1v7049 _ _ (Or.inr (by decide))).trans pf0
        have pf1 := (h1v7049 _ _ (Or.inr (by decide))).trans pf1
        have pf2 := (h1v7049 _ _ (Or.inr (by decide))).trans pf2
        have hfr : (∀ b j : Nat, (tag b ≠ 46 ∨ j ≠ 8) → (tag b ≠ 46 ∨ j ≠ 9) → (tag b ≠ 46 ∨ j ≠ 10) → (tag b ≠ 46 ∨ j ≠ 11) → (tag b ≠ 46 ∨ j ≠ 12) → (tag b ≠ 46 ∨ j ≠ 15) → fld F b j = fld Fo b j) ∧ (∀ b j : Nat, elm F b j = elm Fo b j) := ⟨fun b j n46_8 n46_9 n46_10 n46_11 n46_12 n46_15 => (h1v7049 b j (fr_ne g0 n46_8)).trans (hfr.1 b j n46_8 n46_9 n46_10 n46_11 n46_12 n46_15), fun b j  => (h2v7049 b j).trans (hfr.2 b j )⟩
        refine lv_goto (tgt := 9) hx hb dX13_goesOn_32 (by decide) ?_
        exact ih9 z6988 z7048 z6990 _ _ _ _ (by omega) (by omega) (by omega) (by omega) hT hfr pf0 pf1 pf2 qz6988 v7049 qz6990 (by omega) (by omega) (lv_sub hl [0] rfl)
  refine lv_aload_n hx hb dX13_goesOn_0 rfl (lv_at hl 0 rfl) ?_
  refine t_get (C := RX13) (T := TX13) (N := 37) X hT m0 g0 rfl rfl 9 (by decide) qw_478 inlX13 rfl dX13_goesOn_1 (fun v7050 hv7050 ov7050 => ?_)
  obtain rfl : v7050 = .int x3 := hv7050.symm.trans pf3
  refine lv_iconst (v := 5) hx hb dX13_goesOn_4 (by decide) ?_
  refine lv_icmp_ne (tgt := 9) hx hb dX13_goesOn_5 (by decide) (fun c7051 => ?_) (fun c7051 => ?_)
  · have w7052 := cv_ne (rfl : x3.toInt = x3.toInt) (by decide : (5 : Int32).toInt = 5) c7051
    exact K9 1001 x3 x4 x5 _ _ _ _ (by omega) (by omega) (by omega) (by omega) hT hfr pf0 pf1 pf2 pf3 pf4 pf5 (by omega) (by omega) (lv_sub hl [0] rfl)
  · have w7053 := cv_eq (rfl : x3.toInt = x3.toInt) (by decide : (5 : Int32).toInt = 5) c7051
    exact t_vret hQ X hT ⟨hfr, ⟨x3, x4, x5, pf3, pf4, pf5, (by omega), (by omega), (by omega), STK.rf, SPT.rf, hkf⟩⟩ (Nat.le_of_ble_eq_true rfl) (Nat.le_of_ble_eq_true rfl) dX13_goesOn_8
