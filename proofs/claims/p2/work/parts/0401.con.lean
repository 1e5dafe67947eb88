set_option maxHeartbeats 4000000 in
set_option maxRecDepth 100000 in
theorem kt0_J0_coder_7d493 (l : Launch) (G : KG) (tag : Nat → Nat) (L : List Nat) (F : Nat → va_E) (ho : okT G ttC tag L F) (p0 : Nat) (h0 : p0 < 77) : TMi l yJ0_coder_7d493 cJ0_coder_7d493 1 (some .byte) { frames := 0, cells := 0, slots := 0, locals := 0 } G ttC tag L F [.ref (G.2 (100 + p0))] (fun r F1 => F1 = F ∧ (0 ≤ r.toInt ∧ r.toInt ≤ 0)) := by
  refine t_bodyi (y := yJ0_coder_7d493) (cd := cJ0_coder_7d493) (mL := 1) (rt := (some .byte)) (rm := { frames := 0, cells := 0, slots := 0, locals := 0 }) (av := [.ref (G.2 (100 + p0))]) (by decide) (Nat.le_of_ble_eq_true rfl) ho ?_
  intro p e s m args below meth c ls A Q hQ X hT hl
  have hx := X.1.1
  have hb := X.1.2.1
  have hl : lv_has ls 1 [(0, .ref (G.2 (100 + p0)))] := hl
  refine m_scs X hT qw_248 dJ0_coder_7d493_0 ?_
  refine lv_if_eq (tgt := 13) hx hb dJ0_coder_7d493_3 (by decide) (fun c9 => absurd c9 (by decide)) (fun _ => ?_)
  refine lv_aload_n hx hb dJ0_coder_7d493_6 rfl (lv_at hl 0 rfl) ?_
  refine m_scod X hT h0 qw_249 dJ0_coder_7d493_7 ?_
  refine lv_goto (tgt := 14) hx hb dJ0_coder_7d493_10 (by decide) ?_
  exact t_bret hQ X hT (by decide) (⟨rfl, (by decide)⟩) (Nat.le_of_ble_eq_true rfl) (Nat.le_of_ble_eq_true rfl) dJ0_coder_7d493_14
set_option maxHeartbeats 4000000 in
set_option maxRecDepth 100000 in
theorem kt1_J0_length_8abf5 (l : Launch) (G : KG) (tag : Nat → Nat) (L : List Nat) (F : Nat → va_E) (ho : okT G ttC tag L F) (p0 : Nat) (h0 : p0 < 77) : TMi l yJ0_length_8abf5 cJ0_length_8abf5 1 (some .int) { frames := 1, cells := 0, slots := 0, locals := 20 } G ttC tag L F [.ref (G.2 (100 + p0))] (fun r F1 => F1 = F ∧ (0 ≤ r.toInt ∧ r.toInt ≤ 8) ∧ (r.toInt = (lenS p0 : Int))) := by
  refine t_bodyi (y := yJ0_length_8abf5) (cd := cJ0_length_8abf5) (mL := 1) (rt := (some .int)) (rm := { frames := 1, cells := 0, slots := 0, locals := 20 }) (av := [.ref (G.2 (100 + p0))]) (by decide) (Nat.le_of_ble_eq_true rfl) ho ?_
  intro p e s m args below meth c ls A Q hQ X hT hl
  have hx := X.1.1
  have hb := X.1.2.1
  have hl : lv_has ls 1 [(0, .ref (G.2 (100 + p0)))] := hl
  refine lv_aload_n hx hb dJ0_length_8abf5_0 rfl (lv_at hl 0 rfl) ?_
  refine m_sval X hT h0 qw_243 dJ0_length_8abf5_1 ?_
  refine m_vlen X hT h0 dJ0_length_8abf5_4 (fun z34 hz34 => ?_)
  have rz34 := lenS_le p0
  refine lv_aload_n hx hb dJ0_length_8abf5_5 rfl (lv_at hl 0 rfl) ?_
  refine t_cKi (n := 0) (As := []) (rest := [.int z34]) X hT (kt0_J0_coder_7d493 l G tag L F hT.2.2.2 p0 h0) h0 qw_244 qw_245 qw_246 qw_241 qw_247 ⟨rfl, by decide +kernel, by decide +kernel, by decide +kernel⟩ ⟨Nat.le_of_ble_eq_true rfl, Nat.le_of_ble_eq_true rfl⟩ hl rfl rfl (Nat.le_of_ble_eq_true rfl) dJ0_length_8abf5_6 ⟨Nat.le_of_ble_eq_true rfl, Nat.le_of_ble_eq_true rfl⟩ (fun z35 F9 H locs hT hz35 => ?_)
  obtain ⟨fz35, hz35⟩ := hz35
  rw [fz35] at hT
  obtain rfl : z35 = 0 := i32_of (by rw [show ((0 : Int32).toInt = 0) from by decide]; omega)
  refine lv_ishr hx hb dJ0_length_8abf5_9 ?_
  refine lv_topi (fun z36 ez36 => ?_)
  obtain rfl : z34 = z36 := (ar_shr0 ez36).symm
  exact t_iret hQ X hT (⟨rfl, (by omega), (by omega)⟩) (Nat.le_of_ble_eq_true rfl) (Nat.le_of_ble_eq_true rfl) dJ0_length_8abf5_10
set_option maxHeartbeats 4000000 in
set_option maxRecDepth 100000 in
theorem kt2_J0_isLatin1_aae02 (l : Launch) (G : KG) (tag : Nat → Nat) (L : List Nat) (F : Nat → va_E) (ho : okT G ttC tag L F) (p0 : Nat) (h0 : p0 < 77) : TMi l yJ0_isLatin1_aae02 cJ0_isLatin1_aae02 1 (some .boolean) { frames := 0, cells := 0, slots := 0, locals := 0 } G ttC tag L F [.ref (G.2 (100 + p0))] (fun r F1 => F1 = F ∧ (1 ≤ r.toInt ∧ r.toInt ≤ 1)) := by
  refine t_bodyi (y := yJ0_isLatin1_aae02) (cd := cJ0_isLatin1_aae02) (mL := 1) (rt := (some .boolean)) (rm := { frames := 0, cells := 0, slots := 0, locals := 0 }) (av := [.ref (G.2 (100 + p0))]) (by decide) (Nat.le_of_ble_eq_true rfl) ho ?_
  intro p e s m args below meth c ls A Q hQ X hT hl
  have hx := X.1.1
  have hb := X.1.2.1
  have hl : lv_has ls 1 [(0, .ref (G.2 (100 + p0)))] := hl
  refine m_scs X hT qw_248 dJ0_isLatin1_aae02_0 ?_
  refine lv_if_eq (tgt := 17) hx hb dJ0_isLatin1_aae02_3 (by decide) (fun c9 => absurd c9 (by decide)) (fun _ => ?_)
  refine lv_aload_n hx hb dJ0_isLatin1_aae02_6 rfl (lv_at hl 0 rfl) ?_
  refine m_scod X hT h0 qw_249 dJ0_isLatin1_aae02_7 ?_
  refine lv_if_ne (tgt := 17) hx hb dJ0_isLatin1_aae02_10 (by decide) (fun c9 => absurd c9 (by decide)) (fun _ => ?_)
  refine lv_iconst (v := 1) hx hb dJ0_isLatin1_aae02_13 (by decide) ?_
  refine lv_goto (tgt := 18) hx hb dJ0_isLatin1_aae02_14 (by decide) ?_
  exact t_zret hQ X hT (by decide) (⟨rfl, (by decide)⟩) (Nat.le_of_ble_eq_true rfl) (Nat.le_of_ble_eq_true rfl) dJ0_isLatin1_aae02_18
set_option maxHeartbeats 4000000 in
set_option maxRecDepth 100000 in
theorem kt3_J3_checkIndex_8e157 (l : Launch) (G : KG) (tag : Nat → Nat) (L : List Nat) (F : Nat → va_E) (ho : okT G ttC tag L F) (p0 : Int32) (p1 : Int32) (h0 : 0 ≤ p0.toInt ∧ p0.toInt ≤ 2147483647) (xh0 : p0.toInt < p1.toInt) : TMi l yJ3_checkIndex_8e157 cJ3_checkIndex_8e157 3 (some .int) { frames := 0, cells := 0, slots := 0, locals := 0 } G ttC tag L F [.int p0, .int p1, .null] (fun r F1 => F1 = F ∧ (0 ≤ r.toInt ∧ r.toInt ≤ 2147483646)) := by
  refine t_bodyi (y := yJ3_checkIndex_8e157) (cd := cJ3_checkIndex_8e157) (mL := 3) (rt := (some .int)) (rm := { frames := 0, cells := 0, slots := 0, locals := 0 }) (av := [.int p0, .int p1, .null]) (by decide) (Nat.le_of_ble_eq_true rfl) ho ?_
  intro p e s m args below meth c ls A Q hQ X hT hl
  have hx := X.1.1
  have hb := X.1.2.1
  have hl : lv_has ls 3 [(0, .int p0), (1, .int p1), (2, .null)] := hl
  have rp1 := rg_all p1
  refine lv_iload_n hx hb dJ3_checkIndex_8e157_0 rfl (lv_at hl 0 rfl) ?_
  refine lv_if_lt (tgt := 9) hx hb dJ3_checkIndex_8e157_1 (by decide) (fun c108 => ?_) (fun c108 => ?_)
  · have w109 := cv_lt (rfl : p0.toInt = p0.toInt) (by decide : (0 : Int32).toInt = 0) c108
    exfalso
    omega
  · have w110 := cv_nlt (rfl : p0.toInt = p0.toInt) (by decide : (0 : Int32).toInt = 0) c108
    refine lv_iload_n hx hb dJ3_checkIndex_8e157_4 rfl (lv_at hl 0 rfl) ?_
    refine lv_iload_n hx hb dJ3_checkIndex_8e157_5 rfl (lv_at hl 1 rfl) ?_
    refine lv_icmp_lt (tgt := 16) hx hb dJ3_checkIndex_8e157_6 (by decide) (fun c111 => ?_) (fun c111 => ?_)
    · have w112 := cv_lt (rfl : p0.toInt = p0.toInt) (rfl : p1.toInt = p1.toInt) c111
      refine lv_iload_n hx hb dJ3_checkIndex_8e157_16 rfl (lv_at hl 0 rfl) ?_
      exact t_iret hQ X hT (⟨rfl, (by omega)⟩) (Nat.le_of_ble_eq_true rfl) (Nat.le_of_ble_eq_true rfl) dJ3_checkIndex_8e157_17
    · have w113 := cv_nlt (rfl : p0.toInt = p0.toInt) (rfl : p1.toInt = p1.toInt) c111
      exfalso
      omega
set_option maxHeartbeats 4000000 in
set_option maxRecDepth 100000 in
theorem kt4_J3_checkIndex_8e157 (l : Launch) (G : KG) (tag : Nat → Nat) (L : List Nat) (F : Nat → va_E) (ho : okT G ttC tag L F) (p0 : Int32) (p1 : Int32) (h0 : 0 ≤ p0.toInt ∧ p0.toInt ≤ 2147483647) (xh0 : p0.toInt < p1.toInt) : TMi l yJ3_checkIndex_8e157 cJ3_checkIndex_8e157 3 (some .int) { frames := 0, cells := 0, slots := 0, locals := 0 } G ttC tag L F [.int p0, .int p1, .ref (G.2 20)] (fun r F1 => F1 = F ∧ (0 ≤ r.toInt ∧ r.toInt ≤ 2147483646)) := by
  refine t_bodyi (y := yJ3_checkIndex_8e157) (cd := cJ3_checkIndex_8e157) (mL := 3) (rt := (some .int)) (rm := { frames := 0, cells := 0, slots := 0, locals := 0 }) (av := [.int p0, .int p1, .ref (G.2 20)]) (by decide) (Nat.le_of_ble_eq_true rfl) ho ?_
  intro p e s m args below meth c ls A Q hQ X hT hl
  have hx := X.1.1
  have hb := X.1.2.1
  have hl : lv_has ls 3 [(0, .int p0), (1, .int p1), (2, .ref (G.2 20))] := hl
  have rp1 := rg_all p1
  refine lv_iload_n hx hb dJ3_checkIndex_8e157_0 rfl (lv_at hl 0 rfl) ?_
  refine lv_if_lt (tgt := 9) hx hb dJ3_checkIndex_8e157_1 (by decide) (fun c181 => ?_) (fun c181 => ?_)
  · have w182 := cv_lt (rfl : p0.toInt = p0.toInt) (by decide : (0 : Int32).toInt = 0) c181
    exfalso
    omega
  · have w183 := cv_nlt (rfl : p0.toInt = p0.toInt) (by decide : (0 : Int32).toInt = 0) c181
    refine lv_iload_n hx hb dJ3_checkIndex_8e157_4 rfl (lv_at hl 0 rfl) ?_
    refine lv_iload_n hx hb dJ3_checkIndex_8e157_5 rfl (lv_at hl 1 rfl) ?_
    refine lv_icmp_lt (tgt := 16) hx hb dJ3_checkIndex_8e157_6 (by decide) (fun c184 => ?_) (fun c184 => ?_)
    · have w185 := cv_lt (rfl : p0.toInt = p0.toInt) (rfl : p1.toInt = p1.toInt) c184
      refine lv_iload_n hx hb dJ3_checkIndex_8e157_16 rfl (lv_at hl 0 rfl) ?_
      exact t_iret hQ X hT (⟨rfl, (by omega)⟩) (Nat.le_of_ble_eq_true rfl) (Nat.le_of_ble_eq_true rfl) dJ3_checkIndex_8e157_17
    · have w186 := cv_nlt (rfl : p0.toInt = p0.toInt) (rfl : p1.toInt = p1.toInt) c184
      exfalso
      omega
set_option maxHeartbeats 4000000 in
set_option maxRecDepth 100000 in
theorem kt5_J0_checkIndex_df160 (l : Launch) (G : KG) (tag : Nat → Nat) (L : List Nat) (F : Nat → va_E) (ho : okT G ttC tag L F) (p0 : Int32) (p1 : Int32) (h0 : 0 ≤ p0.toInt ∧ p0.toInt ≤ 2147483647) (xh0 : p0.toInt < p1.toInt) : TMv l yJ0_checkIndex_df160 cJ0_checkIndex_df160 2 { frames := 1, cells := 0, slots := 0, locals := 22 } G ttC tag L F [.int p0, .int p1] (fun F1 => F1 = F) := by
  refine t_bodyv (y := yJ0_checkIndex_df160) (cd := cJ0_checkIndex_df160) (mL := 2) (rm := { frames := 1, cells := 0, slots := 0, locals := 22 }) (av := [.int p0, .int p1]) (by decide) (Nat.le_of_ble_eq_true rfl) ho ?_
  intro p e s m args below meth c ls A Q hQ X hT hl
  have hx := X.1.1
  have hb := X.1.2.1
  have hl : lv_has ls 2 [(0, .int p0), (1, .int p1)] := hl
  have rp1 := rg_all p1
  refine lv_iload_n hx hb dJ0_checkIndex_df160_0 rfl (lv_at hl 0 rfl) ?_
  refine lv_iload_n hx hb dJ0_checkIndex_df160_1 rfl (lv_at hl 1 rfl) ?_
  refine m_sfm X hT qw_265 dJ0_checkIndex_df160_2 ?_ ?_
  · refine t_cSi (n := 3) (As := [.int p0, .int p1, .null]) (rest := []) X hT (kt3_J3_checkIndex_8e157 l G tag L F hT.2.2.2 p0 p1 (by omega) (by omega)) qw_266 qw_267 qw_268 qw_269 ⟨by decide +kernel, by decide +kernel, by decide +kernel⟩ ⟨Nat.le_of_ble_eq_true rfl, Nat.le_of_ble_eq_true rfl⟩ hl rfl rfl (Nat.le_of_ble_eq_true rfl) dJ0_checkIndex_df160_5 ⟨Nat.le_of_ble_eq_true rfl, Nat.le_of_ble_eq_true rfl⟩ (fun z208 F9 H locs hT hz208 => ?_)
    obtain ⟨fz208, hz208⟩ := hz208
    rw [fz208] at hT
    refine lv_pop hx hb dJ0_checkIndex_df160_8 rfl ?_
    exact t_vret hQ X hT rfl (Nat.le_of_ble_eq_true rfl) (Nat.le_of_ble_eq_true rfl) dJ0_checkIndex_df160_9
  · refine t_cSi (n := 3) (As := [.int p0, .int p1, .ref (G.2 20)]) (rest := []) X hT (kt4_J3_checkIndex_8e157 l G tag L F hT.2.2.2 p0 p1 (by omega) (by omega)) qw_266 qw_267 qw_268 qw_269 ⟨by decide +kernel, by decide +kernel, by decide +kernel⟩ ⟨Nat.le_of_ble_eq_true rfl, Nat.le_of_ble_eq_true rfl⟩ hl rfl rfl (Nat.le_of_ble_eq_true rfl) dJ0_checkIndex_df160_5 ⟨Nat.le_of_ble_eq_true rfl, Nat.le_of_ble_eq_true rfl⟩ (fun z209 F9 H locs hT hz209 => ?_)
    obtain ⟨fz209, hz209⟩ := hz209
    rw [fz209] at hT
    refine lv_pop hx hb dJ0_checkIndex_df160_8 rfl ?_
    exact t_vret hQ X hT rfl (Nat.le_of_ble_eq_true rfl) (Nat.le_of_ble_eq_true rfl) dJ0_checkIndex_df160_9
set_option maxHeartbeats 4000000 in
set_option maxRecDepth 100000 in
theorem kt6_J1_charAt_3b067 (l : Launch) (G : KG) (tag : Nat → Nat) (L : List Nat) (F : Nat → va_E) (ho : okT G ttC tag L F) (p0 : Nat) (p1 : Int32) (h0 : p0 < 77) (h1 : 0 ≤ p1.toInt ∧ p1.toInt ≤ 2147483647) (xh0 : p1.toInt < (lenS p0 : Int)) : TMi l yJ1_charAt_3b067 cJ1_charAt_3b067 2 (some .char) { frames := 2, cells := 0, slots := 0, locals := 43 } G ttC tag L F [.ref (G.2 (300 + p0)), .int p1] (fun r F1 => F1 = F ∧ ((-2147483648) ≤ r.toInt ∧ r.toInt ≤ 2147483647) ∧ (narrow .char (.int r) = .int r)) := by
  refine t_bodyi (y := yJ1_charAt_3b067) (cd := cJ1_charAt_3b067) (mL := 2) (rt := (some .char)) (rm := { frames := 2, cells := 0, slots := 0, locals := 43 }) (av := [.ref (G.2 (300 + p0)), .int p1]) (by decide) (Nat.le_of_ble_eq_true rfl) ho ?_
  intro p e s m args below meth c ls A Q hQ X hT hl
  have hx := X.1.1
  have hb := X.1.2.1
  have hl : lv_has ls 2 [(0, .ref (G.2 (300 + p0))), (1, .int p1)] := hl
  refine lv_iload_n hx hb dJ1_charAt_3b067_0 rfl (lv_at hl 1 rfl) ?_
  refine lv_aload_n hx hb dJ1_charAt_3b067_1 rfl (lv_at hl 0 rfl) ?_
  refine m_vlen X hT h0 dJ1_charAt_3b067_2 (fun z264 hz264 => ?_)
  have rz264 := lenS_le p0
  refine t_cSv (n := 2) (As := [.int p1, .int z264]) (rest := []) X hT (kt5_J0_checkIndex_df160 l G tag L F hT.2.2.2 p1 z264 (by omega) (by omega)) qw_262 qw_263 qw_241 qw_264 ⟨by decide +kernel, by decide +kernel, by decide +kernel⟩ ⟨Nat.le_of_ble_eq_true rfl, Nat.le_of_ble_eq_true rfl⟩ hl rfl rfl (Nat.le_of_ble_eq_true rfl) dJ1_charAt_3b067_3 ⟨Nat.le_of_ble_eq_true rfl, Nat.le_of_ble_eq_true rfl⟩ (fun F9 H locs hT hz265 => ?_)
  rw [hz265] at hT
  refine lv_aload_n hx hb dJ1_charAt_3b067_6 rfl (lv_at hl 0 rfl) ?_
  refine lv_iload_n hx hb dJ1_charAt_3b067_7 rfl (lv_at hl 1 rfl) ?_
  refine m_vld X hT h0 (by omega) dJ1_charAt_3b067_8 (fun z266 => ?_)
  have rz266 := rg_all z266
  refine lv_sipush (v := 255) hx hb dJ1_charAt_3b067_9 (by decide) ?_
  refine lv_iand hx hb dJ1_charAt_3b067_12 ?_
  refine lv_topi (fun z267 ez267 => ?_)
  have rz267 : 0 ≤ z267.toInt ∧ z267.toInt ≤ 255 := ar_and ez267 8 (by decide) (by decide)
  refine lv_i2c hx hb dJ1_charAt_3b067_13 rfl ?_
  refine lv_topi (fun z268 ez268 => ?_)
  have nz268 : narrow .char (.int z268) = .int z268 := by rw [ez268]; exact pk_nc _
  have rz268 := rg_all z268
  exact t_cret hQ X hT nz268 (⟨rfl, rg_all _, nz268⟩) (Nat.le_of_ble_eq_true rfl) (Nat.le_of_ble_eq_true rfl) dJ1_charAt_3b067_14
set_option maxHeartbeats 4000000 in
set_option maxRecDepth 100000 in
theorem kt7_J0_charAt_5068e (l : Launch) (G : KG) (tag : Nat → Nat) (L : List Nat) (F : Nat → va_E) (ho : okT G ttC tag L F) (p0 : Nat) (p1 : Int32) (h0 : p0 < 77) (h1 : 0 ≤ p1.toInt ∧ p1.toInt ≤ 2147483647) (xh0 : p1.toInt < (lenS p0 : Int)) : TMi l yJ0_charAt_5068e cJ0_charAt_5068e 2 (some .char) { frames := 3, cells := 0, slots := 0, locals := 64 } G ttC tag L F [.ref (G.2 (100 + p0)), .int p1] (fun r F1 => F1 = F ∧ ((-2147483648) ≤ r.toInt ∧ r.toInt ≤ 2147483647) ∧ (narrow .char (.int r) = .int r)) := by
  refine t_bodyi (y := yJ0_charAt_5068e) (cd := cJ0_charAt_5068e) (mL := 2) (rt := (some .char)) (rm := { frames := 3, cells := 0, slots := 0, locals := 64 }) (av := [.ref (G.2 (100 + p0)), .int p1]) (by decide) (Nat.le_of_ble_eq_true rfl) ho ?_
  intro p e s m args below meth c ls A Q hQ X hT hl
  have hx := X.1.1
  have hb := X.1.2.1
  have hl : lv_has ls 2 [(0, .ref (G.2 (100 + p0))), (1, .int p1)] := hl
  refine lv_aload_n hx hb dJ0_charAt_5068e_0 rfl (lv_at hl 0 rfl) ?_
  refine t_cKi (n := 0) (As := []) (rest := []) X hT (kt2_J0_isLatin1_aae02 l G tag L F hT.2.2.2 p0 h0) h0 qw_254 qw_255 qw_256 qw_241 qw_257 ⟨rfl, by decide +kernel, by decide +kernel, by decide +kernel⟩ ⟨Nat.le_of_ble_eq_true rfl, Nat.le_of_ble_eq_true rfl⟩ hl rfl rfl (Nat.le_of_ble_eq_true rfl) dJ0_charAt_5068e_1 ⟨Nat.le_of_ble_eq_true rfl, Nat.le_of_ble_eq_true rfl⟩ (fun z320 F9 H locs hT hz320 => ?_)
  obtain ⟨fz320, hz320⟩ := hz320
  rw [fz320] at hT
  refine lv_if_eq (tgt := 16) hx hb dJ0_charAt_5068e_4 (by decide) (fun c321 => ?_) (fun c321 => ?_)
  · have w322 := cv_eq (rfl : z320.toInt = z320.toInt) (by decide : (0 : Int32).toInt = 0) c321
    exfalso
    omega
  · have w323 := cv_ne (rfl : z320.toInt = z320.toInt) (by decide : (0 : Int32).toInt = 0) c321
    refine lv_aload_n hx hb dJ0_charAt_5068e_7 rfl (lv_at hl 0 rfl) ?_
    refine m_sval X hT h0 qw_243 dJ0_charAt_5068e_8 ?_
    refine lv_iload_n hx hb dJ0_charAt_5068e_11 rfl (lv_at hl 1 rfl) ?_
    refine t_cSi (n := 2) (As := [.ref (G.2 (300 + p0)), .int p1]) (rest := []) X hT (kt6_J1_charAt_3b067 l G tag L F hT.2.2.2 p0 p1 h0 (by omega) (by omega)) qw_258 qw_259 qw_260 qw_261 ⟨by decide +kernel, by decide +kernel, by decide +kernel⟩ ⟨Nat.le_of_ble_eq_true rfl, Nat.le_of_ble_eq_true rfl⟩ hl rfl rfl (Nat.le_of_ble_eq_true rfl) dJ0_charAt_5068e_12 ⟨Nat.le_of_ble_eq_true rfl, Nat.le_of_ble_eq_true rfl⟩ (fun z324 F9 H locs hT hz324 => ?_)
    obtain ⟨fz324, hz324, xz324_0⟩ := hz324
    rw [fz324] at hT
    exact t_cret hQ X hT xz324_0 (⟨rfl, rg_all _, xz324_0⟩) (Nat.le_of_ble_eq_true rfl) (Nat.le_of_ble_eq_true rfl) dJ0_charAt_5068e_15
set_option maxHeartbeats 4000000 in
set_option maxRecDepth 100000 in
theorem km8_X13_wordOf (l : Launch) (G : KG) (tag : Nat → Nat) (L : List Nat) (F : Nat → va_E) (ho : okT G ttC tag L F) (p0 : Nat) (h0 : p0 < 77) : TMl l yX13_wordOf cX13_wordOf 4 { frames := 4, cells := 0, slots := 0, locals := 85 } G ttC tag L F [.ref (G.2 (100 + p0))] (fun r F1 => F1 = F) := by
  refine t_bodyl (y := yX13_wordOf) (cd := cX13_wordOf) (mL := 4) (rm := { frames := 4, cells := 0, slots := 0, locals := 85 }) (av := [.ref (G.2 (100 + p0))]) (by decide) (Nat.le_of_ble_eq_true rfl) ho ?_
  intro p e s m args below meth c ls A Q hQ X hT hl
  have hx := X.1.1
  have hb := X.1.2.1
  have hl : lv_has ls 4 [(0, .ref (G.2 (100 + p0)))] := hl
  have K4 : ∀ (n : Nat) (z540 : Int64) (z541 : Int32) (H : Heap) (locs : List Loc) (ls : Array Slot), (8 - z541.toInt < (n : Int)) → (0 ≤ z541.toInt ∧ z541.toInt ≤ 8) → TH G ttC A s tag L F H locs → lv_has ls 4 [(0, .ref (G.2 (100 + p0))), (1, .long z540), (3, .int z541)] → W p l e { frames := 4, cells := 0, slots := 0, locals := 85 } s m args below meth c H locs 0 0 Q (F0 m 4 ls []) := by
    intro n
    induction n with
    | zero =>
      intro z540 z541 H locs ls hn rz541 hT hl
      exfalso
      omega
    | succ n ih4 =>
      intro z540 z541 H locs ls hn rz541 hT hl
      refine lv_iload_n hx hb dX13_wordOf_4 rfl (lv_at hl 2 rfl) ?_
      refine lv_aload_n hx hb dX13_wordOf_5 rfl (lv_at hl 0 rfl) ?_
      refine t_cKi (n := 0) (As := []) (rest := [.int z541]) X hT (kt1_J0_length_8abf5 l G tag L F hT.2.2.2 p0 h0) h0 qw_542 qw_239 qw_240 qw_241 qw_242 ⟨rfl, by decide +kernel, by decide +kernel, by decide +kernel⟩ ⟨Nat.le_of_ble_eq_true rfl, Nat.le_of_ble_eq_true rfl⟩ hl rfl rfl (Nat.le_of_ble_eq_true rfl) dX13_wordOf_6 ⟨Nat.le_of_ble_eq_true rfl, Nat.le_of_ble_eq_true rfl⟩ (fun z542 F9 H locs hT hz542 => ?_)
      obtain ⟨fz542, hz542, xz542_0⟩ := hz542
      rw [fz542] at hT
      refine lv_icmp_ge (tgt := 36) hx hb dX13_wordOf_9 (by decide) (fun c543 => ?_) (fun c543 => ?_)
      · have w544 := cv_le (rfl : z542.toInt = z542.toInt) (rfl : z541.toInt = z541.toInt) c543
        refine lv_lload_n hx hb dX13_wordOf_36 rfl (lv_at hl 1 rfl) ?_
        exact t_lret hQ X hT rfl (Nat.le_of_ble_eq_true rfl) (Nat.le_of_ble_eq_true rfl) dX13_wordOf_37
      · have w545 := cv_nle (rfl : z542.toInt = z542.toInt) (rfl : z541.toInt = z541.toInt) c543
        refine m_ldc2 (v := 32) X qw_515 dX13_wordOf_12 ?_
        refine lv_lload_n hx hb dX13_wordOf_15 rfl (lv_at hl 1 rfl) ?_
        refine lv_lmul hx hb dX13_wordOf_16 ?_
        refine lv_topl (fun z546 ez546 => ?_)
        refine lv_aload_n hx hb dX13_wordOf_17 rfl (lv_at hl 0 rfl) ?_
        refine lv_iload_n hx hb dX13_wordOf_18 rfl (lv_at hl 2 rfl) ?_
        refine t_cKi (n := 1) (As := [.int z541]) (rest := [.long z546]) X hT (kt7_J0_charAt_5068e l G tag L F hT.2.2.2 p0 z541 h0 (by omega) (by omega)) h0 qw_543 qw_251 qw_252 qw_241 qw_253 ⟨rfl, by decide +kernel, by decide +kernel, by decide +kernel⟩ ⟨Nat.le_of_ble_eq_true rfl, Nat.le_of_ble_eq_true rfl⟩ hl rfl rfl (Nat.le_of_ble_eq_true rfl) dX13_wordOf_19 ⟨Nat.le_of_ble_eq_true rfl, Nat.le_of_ble_eq_true rfl⟩ (fun z547 F9 H locs hT hz547 => ?_)
        obtain ⟨fz547, hz547, xz547_0⟩ := hz547
        rw [fz547] at hT
        refine lv_bipush (v := 97) hx hb dX13_wordOf_22 (by decide) ?_
        refine lv_isub hx hb dX13_wordOf_24 ?_
        refine lv_topi (fun z548 ez548 => ?_)
        have rz548 := rg_all z548
        refine lv_iconst (v := 1) hx hb dX13_wordOf_25 (by decide) ?_
        refine lv_iadd hx hb dX13_wordOf_26 ?_
        refine lv_topi (fun z549 ez549 => ?_)
        have rz549 := rg_all z549
        refine lv_i2l hx hb dX13_wordOf_27 rfl ?_
        refine lv_topl (fun z550 ez550 => ?_)
        refine lv_ladd hx hb dX13_wordOf_28 ?_
        refine lv_topl (fun z551 ez551 => ?_)
        refine lv_lstore_n (lv' := [(1, .long z551), (0, .ref (G.2 (100 + p0))), (3, .int z541)]) hx hb dX13_wordOf_29 rfl hl (by decide) rfl (fun ls hl => ?_)
        obtain ⟨z552, ez552⟩ : ∃ y : Int32, y = z541 + 1 := ⟨_, rfl⟩
        have hz552 : z552.toInt = z541.toInt + 1 := ar_add ez552 rfl (by decide : (1 : Int32).toInt = 1) (by omega) (by omega)
        refine lv_iinc (v := z552) (lv' := [(3, .int z552), (1, .long z551), (0, .ref (G.2 (100 + p0)))]) hx hb dX13_wordOf_30 hl (k := 2) rfl (by rw [ez552]; rfl) (by decide) rfl (fun ls hl => ?_)
        refine lv_goto (tgt := 4) hx hb dX13_wordOf_33 (by decide) ?_
        exact ih4 z551 z552 _ _ _ (by omega) (by omega) hT  (lv_sub hl [2, 1, 0] rfl)
  refine lv_lconst (v := 0) hx hb dX13_wordOf_0 (by decide) ?_
  refine lv_lstore_n (lv' := [(1, .long (0 : Int64)), (0, .ref (G.2 (100 + p0)))]) hx hb dX13_wordOf_1 rfl hl (by decide) rfl (fun ls hl => ?_)
  refine lv_iconst (v := 0) hx hb dX13_wordOf_2 (by decide) ?_
  refine lv_istore_n (lv' := [(3, .int 0), (1, .long (0 : Int64)), (0, .ref (G.2 (100 + p0)))]) hx hb dX13_wordOf_3 rfl hl (by decide) rfl (fun ls hl => ?_)
  have k553 : (0 : Int32).toInt = 0 := by decide
  exact K4 9 (0 : Int64) 0 _ _ _ (by omega) (by decide) hT  (lv_sub hl [2, 1, 0] rfl)
set_option maxHeartbeats 4000000 in
set_option maxRecDepth 100000 in
theorem km9_X13_isWord (l : Launch) (G : KG) (tag : Nat → Nat) (L : List Nat) (F : Nat → va_E) (ho : okT G ttC tag L F) (p0 : Nat) (p1 : Nat) (x0 : Int32) (m0 : p0 ∈ L) (g0 : tag p0 = 46) (h1 : p1 < 77) (hx0 : 0 ≤ x0.toInt ∧ x0.toInt ≤ 5) (pf0 : fld F p0 9 = .int x0) : TMi l yX13_isWord cX13_isWord 2 (some .boolean) { frames := 5, cells := 0, slots := 0, locals := 108 } G ttC tag L F [.ref p0, .ref (G.2 (100 + p1))] (fun r F1 => F1 = F ∧ (0 ≤ r.toInt ∧ r.toInt ≤ 1) ∧ (r.toInt ≠ 0 → x0.toInt = 2)) := by
  refine t_bodyi (y := yX13_isWord) (cd := cX13_isWord) (mL := 2) (rt := (some .boolean)) (rm := { frames := 5, cells := 0, slots := 0, locals := 108 }) (av := [.ref p0, .ref (G.2 (100 + p1))]) (by decide) (Nat.le_of_ble_eq_true rfl) ho ?_
  intro p e s m args below meth c ls A Q hQ X hT hl
  have hx := X.1.1
  have hb := X.1.2.1
  have hl : lv_has ls 2 [(0, .ref p0), (1, .ref (G.2 (100 + p1)))] := hl
  refine lv_aload_n hx hb dX13_isWord_0 rfl (lv_at hl 0 rfl) ?_
  refine t_get (C := RX13) (T := TX13) (N := 37) X hT m0 g0 rfl rfl 9 (by decide) qw_478 inlX13 rfl dX13_isWord_1 (fun v669 hv669 ov669 => ?_)
  obtain rfl : v669 = .int x0 := hv669.symm.trans pf0
  refine lv_iconst (v := 2) hx hb dX13_isWord_4 (by decide) ?_
  refine lv_icmp_ne (tgt := 24) hx hb dX13_isWord_5 (by decide) (fun c670 => ?_) (fun c670 => ?_)
  · have w671 := cv_ne (rfl : x0.toInt = x0.toInt) (by decide : (2 : Int32).toInt = 2) c670
    refine lv_iconst (v := 0) hx hb dX13_isWord_24 (by decide) ?_
    have k672 : (0 : Int32).toInt = 0 := by decide
    exact t_zret hQ X hT (by decide) (⟨rfl, (by decide), (by omega)⟩) (Nat.le_of_ble_eq_true rfl) (Nat.le_of_ble_eq_true rfl) dX13_isWord_25
  · have w673 := cv_eq (rfl : x0.toInt = x0.toInt) (by decide : (2 : Int32).toInt = 2) c670
    refine lv_aload_n hx hb dX13_isWord_8 rfl (lv_at hl 0 rfl) ?_
    refine t_get (C := RX13) (T := TX13) (N := 37) X hT m0 g0 rfl rfl 15 (by decide) qw_514 inlX13 rfl dX13_isWord_9 (fun v674 hv674 ov674 => ?_)
    obtain ⟨z675, rfl⟩ := ov674
    refine lv_aload_n hx hb dX13_isWord_12 rfl (lv_at hl 1 rfl) ?_
    refine t_cSl (n := 1) (As := [.ref (G.2 (100 + p1))]) (rest := [.long z675]) X hT (km8_X13_wordOf l G tag L F hT.2.2.2 p1 h1) qw_539 qw_540 qw_5 qw_541 ⟨by decide +kernel, by decide +kernel, by decide +kernel⟩ ⟨Nat.le_of_ble_eq_true rfl, Nat.le_of_ble_eq_true rfl⟩ hl rfl rfl (Nat.le_of_ble_eq_true rfl) dX13_isWord_13 ⟨Nat.le_of_ble_eq_true rfl, Nat.le_of_ble_eq_true rfl⟩ (fun z676 F9 H locs hT hz676 => ?_)
    rw [hz676] at hT
    refine m_lcmp X dX13_isWord_16 (fun z677 rz677 => ?_)
    refine lv_if_ne (tgt := 24) hx hb dX13_isWord_17 (by decide) (fun c678 => ?_) (fun c678 => ?_)
    · have w679 := cv_ne (rfl : z677.toInt = z677.toInt) (by decide : (0 : Int32).toInt = 0) c678
      refine lv_iconst (v := 0) hx hb dX13_isWord_24 (by decide) ?_
      have k680 : (0 : Int32).toInt = 0 := by decide
      exact t_zret hQ X hT (by decide) (⟨rfl, (by decide), (by omega)⟩) (Nat.le_of_ble_eq_true rfl) (Nat.le_of_ble_eq_true rfl) dX13_isWord_25
    · have w681 := cv_eq (rfl : z677.toInt = z677.toInt) (by decide : (0 : Int32).toInt = 0) c678
      refine lv_iconst (v := 1) hx hb dX13_isWord_20 (by decide) ?_
      refine lv_goto (tgt := 25) hx hb dX13_isWord_21 (by decide) ?_
      have k682 : (1 : Int32).toInt = 1 := by decide
      exact t_zret hQ X hT (by decide) (⟨rfl, (by decide), (by omega)⟩) (Nat.le_of_ble_eq_true rfl) (Nat.le_of_ble_eq_true rfl) dX13_isWord_25
set_option maxHeartbeats 4000000 in
set_option maxRecDepth 100000 in
theorem km10_X13_flaw (l : Launch) (G : KG) (tag : Nat → Nat) (L : List Nat) (Fo : Nat → va_E) (ho : okT G ttC tag L Fo) (p0 : Nat) (p1 : Int32) (x0 : Nat) (x1 : Nat) (x2 : Nat) (x3 : Int32) (x4 : Int32) (x5 : Int32) (m0 : p0 ∈ L) (g0 : tag p0 = 46) (h1 : 1 ≤ p1.toInt ∧ p1.toInt ≤ 7) (mx0 : x0 ∈ L) (gx0 : tag x0 = 44) (pf0 : fld Fo p0 4 = .ref x0) (mx1 : x1 ∈ L) (gx1 : tag x1 = 35) (pf1 : fld Fo x0 28 = .ref x1) (mx2 : x2 ∈ L) (gx2 : tag x2 = 36) (pf2 : fld Fo x0 29 = .ref x2) (hx3 : 0 ≤ x3.toInt ∧ x3.toInt ≤ 5) (pf3 : fld Fo p0 9 = .int x3) (hx4 : 0 ≤ x4.toInt ∧ x4.toInt ≤ 1000) (pf4 : fld Fo p0 8 = .int x4) (hx5 : 0 ≤ x5.toInt ∧ x5.toInt ≤ 7) (pf5 : fld Fo p0 13 = .int x5) (hkf : KF x3 x5) : TMv l yX13_flaw cX13_flaw 2 { frames := 0, cells := 0, slots := 0, locals := 0 } G ttC tag L Fo [.ref p0, .int p1] (fun F1 => ((∀ b j : Nat, (tag b ≠ 46 ∨ j ≠ 9) → (tag b ≠ 46 ∨ j ≠ 13) → (tag b ≠ 46 ∨ j ≠ 14) → fld F1 b j = fld Fo b j) ∧ (∀ b j : Nat, elm F1 b j = elm Fo b j)) ∧ (∃ so sp fa : Int32, fld F1 p0 9 = .int so ∧ fld F1 p0 8 = .int sp ∧ fld F1 p0 13 = .int fa ∧ (0 ≤ so.toInt ∧ so.toInt ≤ 5) ∧ (0 ≤ sp.toInt ∧ sp.toInt ≤ 1000) ∧ (0 ≤ fa.toInt ∧ fa.toInt ≤ 7) ∧ STK x3 so ∧ SPT x3 x4 so sp ∧ KF so fa ∧ (so.toInt = 5))) := by
  refine t_bodyv (y := yX13_flaw) (cd := cX13_flaw) (mL := 2) (rm := { frames := 0, cells := 0, slots := 0, locals := 0 }) (av := [.ref p0, .int p1]) (by decide) (Nat.le_of_ble_eq_true rfl) ho ?_
  intro p e s m args below meth c ls A Q hQ X hT hl
  have hx := X.1.1
  have hb := X.1.2.1
  have hl : lv_has ls 2 [(0, .ref p0), (1, .int p1)] := hl
  obtain ⟨F, hFo⟩ : ∃ F : Nat → va_E, F = Fo := ⟨_, rfl⟩
  rw [← hFo] at hT pf0 pf1 pf2 pf3 pf4 pf5
  have hfr : (∀ b j : Nat, (tag b ≠ 46 ∨ j ≠ 9) → (tag b ≠ 46 ∨ j ≠ 13) → (tag b ≠ 46 ∨ j ≠ 14) → fld F b j = fld Fo b j) ∧ (∀ b j : Nat, elm F b j = elm Fo b j) := by
    rw [hFo]
    exact ⟨by intros; rfl, by intros; rfl⟩
  refine lv_aload_n hx hb dX13_flaw_0 rfl (lv_at hl 0 rfl) ?_
  refine t_get (C := RX13) (T := TX13) (N := 37) X hT m0 g0 rfl rfl 9 (by decide) qw_478 inlX13 rfl dX13_flaw_1 (fun v815 hv815 ov815 => ?_)
  obtain rfl : v815 = .int x3 := hv815.symm.trans pf3
  refine lv_iconst (v := 5) hx hb dX13_flaw_4 (by decide) ?_
  refine lv_icmp_ne (tgt := 9) hx hb dX13_flaw_5 (by decide) (fun c816 => ?_) (fun c816 => ?_)
  · have w817 := cv_ne (rfl : x3.toInt = x3.toInt) (by decide : (5 : Int32).toInt = 5) c816
    refine lv_aload_n hx hb dX13_flaw_9 rfl (lv_at hl 0 rfl) ?_
    refine lv_iload_n hx hb dX13_flaw_10 rfl (lv_at hl 1 rfl) ?_
    refine t_put (C := RX13) (T := TX13) (N := 37) (v := .int p1) X hT m0 g0 rfl tyX13 tyX13_ok nmX13 rfl 13 (by decide) qw_473 inlX13 rfl (by first | rfl | decide) (by first | rfl | decide) rfl (⟨_, rfl, (show 0 ≤ (p1 : Int32).toInt from (by omega)), (show (p1 : Int32).toInt ≤ 7 from (by omega))⟩) dX13_flaw_11 (fun F H locs hT v818 h1v818 h2v818 => ?_)
    have pf0 := (h1v818 _ _ (Or.inr (by decide))).trans pf0
    have pf1 := (h1v818 _ _ (Or.inr (by decide))).trans pf1
    have pf2 := (h1v818 _ _ (Or.inr (by decide))).trans pf2
    have pf3 := (h1v818 _ _ (Or.inr (by decide))).trans pf3
    have pf4 := (h1v818 _ _ (Or.inr (by decide))).trans pf4
    have hfr : (∀ b j : Nat, (tag b ≠ 46 ∨ j ≠ 9) → (tag b ≠ 46 ∨ j ≠ 13) → (tag b ≠ 46 ∨ j ≠ 14) → fld F b j = fld Fo b j) ∧ (∀ b j : Nat, elm F b j = elm Fo b j) := ⟨fun b j n46_9 n46_13 n46_14 => (h1v818 b j (fr_ne g0 n46_13)).trans (hfr.1 b j n46_9 n46_13 n46_14), fun b j  => (h2v818 b j).trans (hfr.2 b j )⟩
    refine lv_aload_n hx hb dX13_flaw_14 rfl (lv_at hl 0 rfl) ?_
    refine lv_aload_n hx hb dX13_flaw_15 rfl (lv_at hl 0 rfl) ?_
    refine t_get (C := RX13) (T := TX13) (N := 37) X hT m0 g0 rfl rfl 10 (by decide) qw_512 inlX13 rfl dX13_flaw_16 (fun v819 hv819 ov819 => ?_)
    obtain ⟨z820, rfl, rz820⟩ := okV_i ov819
    refine t_put (C := RX13) (T := TX13) (N := 37) (v := .int z820) X hT m0 g0 rfl tyX13 tyX13_ok nmX13 rfl 14 (by decide) qw_480 inlX13 rfl (by first | rfl | decide) (by first | rfl | decide) rfl (⟨_, rfl, (show (-2147483648) ≤ (z820 : Int32).toInt from (by omega)), (show (z820 : Int32).toInt ≤ 2147483647 from (by omega))⟩) dX13_flaw_19 (fun F H locs hT v821 h1v821 h2v821 => ?_)
    have pf0 := (h1v821 _ _ (Or.inr (by decide))).trans pf0
    have pf1 := (h1v821 _ _ (Or.inr (by decide))).trans pf1
    have pf2 := (h1v821 _ _ (Or.inr (by decide))).trans pf2
    have pf3 := (h1v821 _ _ (Or.inr (by decide))).trans pf3
    have pf4 := (h1v821 _ _ (Or.inr (by decide))).trans pf4
    have v818 := (h1v821 _ _ (Or.inr (by decide))).trans v818
    have hv819 := (h1v821 _ _ (Or.inr (by decide))).trans hv819
    have hfr : (∀ b j : Nat, (tag b ≠ 46 ∨ j ≠ 9) → (tag b ≠ 46 ∨ j ≠ 13) → (tag b ≠ 46 ∨ j ≠ 14) → fld F b j = fld Fo b j) ∧ (∀ b j : Nat, elm F b j = elm Fo b j) := ⟨fun b j n46_9 n46_13 n46_14 => (h1v821 b j (fr_ne g0 n46_14)).trans (hfr.1 b j n46_9 n46_13 n46_14), fun b j  => (h2v821 b j).trans (hfr.2 b j )⟩
    refine lv_aload_n hx hb dX13_flaw_22 rfl (lv_at hl 0 rfl) ?_
    refine lv_iconst (v := 5) hx hb dX13_flaw_23 (by decide) ?_
    refine t_put (C := RX13) (T := TX13) (N := 37) (v := .int 5) X hT m0 g0 rfl tyX13 tyX13_ok nmX13 rfl 9 (by decide) qw_478 inlX13 rfl (by first | rfl | decide) (by first | rfl | decide) rfl (⟨_, rfl, (show 0 ≤ (5 : Int32).toInt from (by decide)), (show (5 : Int32).toInt ≤ 5 from (by decide))⟩) dX13_flaw_24 (fun F H locs hT v822 h1v822 h2v822 => ?_)
    have pf0 := (h1v822 _ _ (Or.inr (by decide))).trans pf0
    have pf1 := (h1v822 _ _ (Or.inr (by decide))).trans pf1
    have pf2 := (h1v822 _ _ (Or.inr (by decide))).trans pf2
    have pf4 := (h1v822 _ _ (Or.inr (by decide))).trans pf4
    have v818 := (h1v822 _ _ (Or.inr (by decide))).trans v818
    have hv819 := (h1v822 _ _ (Or.inr (by decide))).trans hv819
    have v821 := (h1v822 _ _ (Or.inr (by decide))).trans v821
    have hfr : (∀ b j : Nat, (tag b ≠ 46 ∨ j ≠ 9) → (tag b ≠ 46 ∨ j ≠ 13) → (tag b ≠ 46 ∨ j ≠ 14) → fld F b j = fld Fo b j) ∧ (∀ b j : Nat, elm F b j = elm Fo b j) := ⟨fun b j n46_9 n46_13 n46_14 => (h1v822 b j (fr_ne g0 n46_9)).trans (hfr.1 b j n46_9 n46_13 n46_14), fun b j  => (h2v822 b j).trans (hfr.2 b j )⟩
    have k823 : (5 : Int32).toInt = 5 := by decide
    exact t_vret hQ X hT ⟨hfr, ⟨5, x4, p1, v822, pf4, v818, (by decide), (by omega), (by omega), (fun _ => by decide), ⟨Int.le_refl _, fun h9 => absurd h9 (by decide)⟩, (fun _ => by omega), (by omega)⟩⟩ (Nat.le_of_ble_eq_true rfl) (Nat.le_of_ble_eq_true rfl) dX13_flaw_27
  · have w824 := cv_eq (rfl : x3.toInt = x3.toInt) (by decide : (5 : Int32).toInt = 5) c816
    exact t_vret hQ X hT ⟨hfr, ⟨x3, x4, x5, pf3, pf4, pf5, (by omega), (by omega), (by omega), STK.rf, SPT.rf, hkf, (by omega)⟩⟩ (Nat.le_of_ble_eq_true rfl) (Nat.le_of_ble_eq_true rfl) dX13_flaw_8
set_option maxHeartbeats 4000000 in
set_option maxRecDepth 100000 in
theorem km11_X13_byteAt (l : Launch) (G : KG) (tag : Nat → Nat) (L : List Nat) (F : Nat → va_E) (ho : okT G ttC tag L F) (p0 : Nat) (p1 : Int32) (m0 : p0 ∈ L) (g0 : tag p0 = 46) (h1 : 0 ≤ p1.toInt ∧ p1.toInt ≤ 1000) : TMi l yX13_byteAt cX13_byteAt 2 (some .int) { frames := 0, cells := 0, slots := 0, locals := 0 } G ttC tag L F [.ref p0, .int p1] (fun r F1 => F1 = F ∧ ((-1) ≤ r.toInt ∧ r.toInt ≤ 255) ∧ (r.toInt ≠ -1 → p1.toInt ≤ 999)) := by
  refine t_bodyi (y := yX13_byteAt) (cd := cX13_byteAt) (mL := 2) (rt := (some .int)) (rm := { frames := 0, cells := 0, slots := 0, locals := 0 }) (av := [.ref p0, .int p1]) (by decide) (Nat.le_of_ble_eq_true rfl) ho ?_
  intro p e s m args below meth c ls A Q hQ X hT hl
  have hx := X.1.1
  have hb := X.1.2.1
  have hl : lv_has ls 2 [(0, .ref p0), (1, .int p1)] := hl
  refine lv_iload_n hx hb dX13_byteAt_0 rfl (lv_at hl 1 rfl) ?_
  refine lv_aload_n hx hb dX13_byteAt_1 rfl (lv_at hl 0 rfl) ?_
  refine t_get (C := RX13) (T := TX13) (N := 37) X hT m0 g0 rfl rfl 7 (by decide) qw_471 inlX13 rfl dX13_byteAt_2 (fun v937 hv937 ov937 => ?_)
  obtain ⟨z938, rfl, rz938⟩ := okV_i ov937
  refine lv_icmp_ge (tgt := 21) hx hb dX13_byteAt_5 (by decide) (fun c939 => ?_) (fun c939 => ?_)
  · have w940 := cv_le (rfl : z938.toInt = z938.toInt) (rfl : p1.toInt = p1.toInt) c939
    refine lv_iconst (v := (-1)) hx hb dX13_byteAt_21 (by decide) ?_
    have k941 : ((-1) : Int32).toInt = (-1) := by decide
    exact t_iret hQ X hT (⟨rfl, (by decide), (by omega)⟩) (Nat.le_of_ble_eq_true rfl) (Nat.le_of_ble_eq_true rfl) dX13_byteAt_22
  · have w942 := cv_nle (rfl : z938.toInt = z938.toInt) (rfl : p1.toInt = p1.toInt) c939
    refine lv_aload_n hx hb dX13_byteAt_8 rfl (lv_at hl 0 rfl) ?_
    refine t_get (C := RX13) (T := TX13) (N := 37) X hT m0 g0 rfl rfl 5 (by decide) qw_111 inlX13 rfl dX13_byteAt_9 (fun v943 hv943 ov943 => ?_)
    obtain ⟨b944, rfl, mb944, gb944⟩ := okV_r ov943
    have gb944 : tag b944 = 27 := tg_of gb944
    refine lv_iload_n hx hb dX13_byteAt_12 rfl (lv_at hl 1 rfl) ?_
    refine t_bld X hT mb944 gb944 rfl (by omega) dX13_byteAt_13 (fun z945 vz945 rz945 => ?_)
    have rz945 : (-2147483648) ≤ z945.toInt ∧ z945.toInt ≤ 2147483647 := rz945
    refine lv_sipush (v := 255) hx hb dX13_byteAt_14 (by decide) ?_
    refine lv_iand hx hb dX13_byteAt_17 ?_
    refine lv_topi (fun z946 ez946 => ?_)
    have rz946 : 0 ≤ z946.toInt ∧ z946.toInt ≤ 255 := ar_and ez946 8 (by decide) (by decide)
    refine lv_goto (tgt := 22) hx hb dX13_byteAt_18 (by decide) ?_
    exact t_iret hQ X hT (⟨rfl, (by omega), (by omega)⟩) (Nat.le_of_ble_eq_true rfl) (Nat.le_of_ble_eq_true rfl) dX13_byteAt_22
set_option maxHeartbeats 4000000 in
set_option maxRecDepth 100000 in
theorem km12_X13_isLetter (l : Launch) (G : KG) (tag : Nat → Nat) (L : List Nat) (F : Nat → va_E) (ho : okT G ttC tag L F) (p0 : Int32)  : TMi l yX13_isLetter cX13_isLetter 1 (some .boolean) { frames := 0, cells := 0, slots := 0, locals := 0 } G ttC tag L F [.int p0] (fun r F1 => F1 = F ∧ (0 ≤ r.toInt ∧ r.toInt ≤ 1) ∧ (r.toInt ≠ 0 → 97 ≤ p0.toInt ∧ p0.toInt ≤ 122)) := by
  refine t_bodyi (y := yX13_isLetter) (cd := cX13_isLetter) (mL := 1) (rt := (some .boolean)) (rm := { frames := 0, cells := 0, slots := 0, locals := 0 }) (av := [.int p0]) (by decide) (Nat.le_of_ble_eq_true rfl) ho ?_
  intro p e s m args below meth c ls A Q hQ X hT hl
  have hx := X.1.1
  have hb := X.1.2.1
  have hl : lv_has ls 1 [(0, .int p0)] := hl
  have rp0 := rg_all p0
  refine lv_iload_n hx hb dX13_isLetter_0 rfl (lv_at hl 0 rfl) ?_
  refine lv_bipush (v := 97) hx hb dX13_isLetter_1 (by decide) ?_
  refine lv_icmp_lt (tgt := 16) hx hb dX13_isLetter_3 (by decide) (fun c1025 => ?_) (fun c1025 => ?_)
  · have w1026 := cv_lt (rfl : p0.toInt = p0.toInt) (by decide : (97 : Int32).toInt = 97) c1025
    refine lv_iconst (v := 0) hx hb dX13_isLetter_16 (by decide) ?_
    have k1027 : (0 : Int32).toInt = 0 := by decide
    exact t_zret hQ X hT (by decide) (⟨rfl, (by decide), (by omega)⟩) (Nat.le_of_ble_eq_true rfl) (Nat.le_of_ble_eq_true rfl) dX13_isLetter_17
  · have w1028 := cv_nlt (rfl : p0.toInt = p0.toInt) (by decide : (97 : Int32).toInt = 97) c1025
    refine lv_iload_n hx hb dX13_isLetter_6 rfl (lv_at hl 0 rfl) ?_
    refine lv_bipush (v := 122) hx hb dX13_isLetter_7 (by decide) ?_
    refine lv_icmp_gt (tgt := 16) hx hb dX13_isLetter_9 (by decide) (fun c1029 => ?_) (fun c1029 => ?_)
    · have w1030 := cv_lt (by decide : (122 : Int32).toInt = 122) (rfl : p0.toInt = p0.toInt) c1029
      refine lv_iconst (v := 0) hx hb dX13_isLetter_16 (by decide) ?_
      have k1031 : (0 : Int32).toInt = 0 := by decide
      exact t_zret hQ X hT (by decide) (⟨rfl, (by decide), (by omega)⟩) (Nat.le_of_ble_eq_true rfl) (Nat.le_of_ble_eq_true rfl) dX13_isLetter_17
    · have w1032 := cv_nlt (by decide : (122 : Int32).toInt = 122) (rfl : p0.toInt = p0.toInt) c1029
      refine lv_iconst (v := 1) hx hb dX13_isLetter_12 (by decide) ?_
      refine lv_goto (tgt := 17) hx hb dX13_isLetter_13 (by decide) ?_
      have k1033 : (1 : Int32).toInt = 1 := by decide
      exact t_zret hQ X hT (by decide) (⟨rfl, (by decide), (by omega)⟩) (Nat.le_of_ble_eq_true rfl) (Nat.le_of_ble_eq_true rfl) dX13_isLetter_17
set_option maxHeartbeats 4000000 in
set_option maxRecDepth 100000 in
theorem km13_X13_isDigit (l : Launch) (G : KG) (tag : Nat → Nat) (L : List Nat) (F : Nat → va_E) (ho : okT G ttC tag L F) (p0 : Int32)  : TMi l yX13_isDigit cX13_isDigit 1 (some .boolean) { frames := 0, cells := 0, slots := 0, locals := 0 } G ttC tag L F [.int p0] (fun r F1 => F1 = F ∧ (0 ≤ r.toInt ∧ r.toInt ≤ 1) ∧ (r.toInt ≠ 0 → 48 ≤ p0.toInt ∧ p0.toInt ≤ 57)) := by
  refine t_bodyi (y := yX13_isDigit) (cd := cX13_isDigit) (mL := 1) (rt := (some .boolean)) (rm := { frames := 0, cells := 0, slots := 0, locals := 0 }) (av := [.int p0]) (by decide) (Nat.le_of_ble_eq_true rfl) ho ?_
  intro p e s m args below meth c ls A Q hQ X hT hl
  have hx := X.1.1
  have hb := X.1.2.1
  have hl : lv_has ls 1 [(0, .int p0)] := hl
  have rp0 := rg_all p0
  refine lv_iload_n hx hb dX13_isDigit_0 rfl (lv_at hl 0 rfl) ?_
  refine lv_bipush (v := 48) hx hb dX13_isDigit_1 (by decide) ?_
  refine lv_icmp_lt (tgt := 16) hx hb dX13_isDigit_3 (by decide) (fun c1103 => ?_) (fun c1103 => ?_)
  · have w1104 := cv_lt (rfl : p0.toInt = p0.toInt) (by decide : (48 : Int32).toInt = 48) c1103
    refine lv_iconst (v := 0) hx hb dX13_isDigit_16 (by decide) ?_
    have k1105 : (0 : Int32).toInt = 0 := by decide
    exact t_zret hQ X hT (by decide) (⟨rfl, (by decide), (by omega)⟩) (Nat.le_of_ble_eq_true rfl) (Nat.le_of_ble_eq_true rfl) dX13_isDigit_17
  · have w1106 := cv_nlt (rfl : p0.toInt = p0.toInt) (by decide : (48 : Int32).toInt = 48) c1103
    refine lv_iload_n hx hb dX13_isDigit_6 rfl (lv_at hl 0 rfl) ?_
    refine lv_bipush (v := 57) hx hb dX13_isDigit_7 (by decide) ?_
    refine lv_icmp_gt (tgt := 16) hx hb dX13_isDigit_9 (by decide) (fun c1107 => ?_) (fun c1107 => ?_)
    · have w1108 := cv_lt (by decide : (57 : Int32).toInt = 57) (rfl : p0.toInt = p0.toInt) c1107
      refine lv_iconst (v := 0) hx hb dX13_isDigit_16 (by decide) ?_
      have k1109 : (0 : Int32).toInt = 0 := by decide
      exact t_zret hQ X hT (by decide) (⟨rfl, (by decide), (by omega)⟩) (Nat.le_of_ble_eq_true rfl) (Nat.le_of_ble_eq_true rfl) dX13_isDigit_17
    · have w1110 := cv_nlt (by decide : (57 : Int32).toInt = 57) (rfl : p0.toInt = p0.toInt) c1107
      refine lv_iconst (v := 1) hx hb dX13_isDigit_12 (by decide) ?_
      refine lv_goto (tgt := 17) hx hb dX13_isDigit_13 (by decide) ?_
      have k1111 : (1 : Int32).toInt = 1 := by decide
      exact t_zret hQ X hT (by decide) (⟨rfl, (by decide), (by omega)⟩) (Nat.le_of_ble_eq_true rfl) (Nat.le_of_ble_eq_true rfl) dX13_isDigit_17
set_option maxHeartbeats 4000000 in
set_option maxRecDepth 100000 in
theorem km14_X13_goesOn (l : Launch) (G : KG) (tag : Nat → Nat) (L : List Nat) (Fo : Nat → va_E) (ho : okT G ttC tag L Fo) (p0 : Nat) (x0 : Nat) (x1 : Nat) (x2 : Nat) (x3 : Int32) (x4 : Int32) (x5 : Int32) (m0 : p0 ∈ L) (g0 : tag p0 = 46) (mx0 : x0 ∈ L) (gx0 : tag x0 = 44) (pf0 : fld Fo p0 4 = .ref x0) (mx1 : x1 ∈ L) (gx1 : tag x1 = 35) (pf1 : fld Fo x0 28 = .ref x1) (mx2 : x2 ∈ L) (gx2 : tag x2 = 36) (pf2 : fld Fo x0 29 = .ref x2) (hx3 : 0 ≤ x3.toInt ∧ x3.toInt ≤ 5) (pf3 : fld Fo p0 9 = .int x3) (hx4 : 0 ≤ x4.toInt ∧ x4.toInt ≤ 1000) (pf4 : fld Fo p0 8 = .int x4) (hx5 : 0 ≤ x5.toInt ∧ x5.toInt ≤ 7) (pf5 : fld Fo p0 13 = .int x5) (hkf : KF x3 x5) : TMv l yX13_goesOn cX13_goesOn 3 { frames := 1, cells := 0, slots := 0, locals := 21 } G ttC tag L Fo [.ref p0] (fun F1 => ((∀ b j : Nat, (tag b ≠ 46 ∨ j ≠ 8) → (tag b ≠ 46 ∨ j ≠ 9) → (tag b ≠ 46 ∨ j ≠ 10) → (tag b ≠ 46 ∨ j ≠ 11) → (tag b ≠ 46 ∨ j ≠ 12) → (tag b ≠ 46 ∨ j ≠ 15) → fld F1 b j = fld Fo b j) ∧ (∀ b j : Nat, elm F1 b j = elm Fo b j)) ∧ (∃ so sp fa : Int32, fld F1 p0 9 = .int so ∧ fld F1 p0 8 = .int sp ∧ fld F1 p0 13 = .int fa ∧ (0 ≤ so.toInt ∧ so.toInt ≤ 5) ∧ (0 ≤ sp.toInt ∧ sp.toInt ≤ 1000) ∧ (0 ≤ fa.toInt ∧ fa.toInt ≤ 7) ∧ STK x3 so ∧ SPT x3 x4 so sp ∧ KF so fa)) := by
  refine t_bodyv (y := yX13_goesOn) (cd := cX13_goesOn) (mL := 3) (rm := { frames := 1, cells := 0, slots := 0, locals := 21 }) (av := [.ref p0]) (by decide) (Nat.le_of_ble_eq_true rfl) ho ?_
  intro p e s m args below meth c ls A Q hQ X hT hl
  have hx := X.1.1
  have hb := X.1.2.1
  have hl : lv_has ls 3 [(0, .ref p0)] := hl
  obtain ⟨F, hFo⟩ : ∃ F : Nat → va_E, F = Fo := ⟨_, rfl⟩
  rw [← hFo] at hT pf0 pf1 pf2 pf3 pf4 pf5
  have hfr : (∀ b j : Nat, (tag b ≠ 46 ∨ j ≠ 8) → (tag b ≠ 46 ∨ j ≠ 9) → (tag b ≠ 46 ∨ j ≠ 10) → (tag b ≠ 46 ∨ j ≠ 11) → (tag b ≠ 46 ∨ j ≠ 12) → (tag b ≠ 46 ∨ j ≠ 15) → fld F b j = fld Fo b j) ∧ (∀ b j : Nat, elm F b j = elm Fo b j) := by
    rw [hFo]
    exact ⟨by intros; rfl, by intros; rfl⟩
  have K89 : ∀ (n : Nat) (z7072 : Int32) (z7073 : Int32) (z7074 : Int32) (z7075 : Int32) (z7076 : Int32) (z7077 : Int32) (z7078 : Int32) (F : Nat → va_E) (H : Heap) (locs : List Loc) (ls : Array Slot), (1000 - z7074.toInt < (n : Int)) → (97 ≤ z7072.toInt ∧ z7072.toInt ≤ 122) → (0 ≤ z7074.toInt ∧ z7074.toInt ≤ 1000) → (0 ≤ z7075.toInt ∧ z7075.toInt ≤ 7) → (0 ≤ z7076.toInt ∧ z7076.toInt ≤ 999) → (0 ≤ z7077.toInt ∧ z7077.toInt ≤ 0) → (0 ≤ z7078.toInt ∧ z7078.toInt ≤ 0) → TH G ttC A s tag L F H locs → ((∀ b j : Nat, (tag b ≠ 46 ∨ j ≠ 8) → (tag b ≠ 46 ∨ j ≠ 9) → (tag b ≠ 46 ∨ j ≠ 10) → (tag b ≠ 46 ∨ j ≠ 11) → (tag b ≠ 46 ∨ j ≠ 12) → (tag b ≠ 46 ∨ j ≠ 15) → fld F b j = fld Fo b j) ∧ (∀ b j : Nat, elm F b j = elm Fo b j)) → (fld F p0 4 = .ref x0) → (fld F x0 28 = .ref x1) → (fld F x0 29 = .ref x2) → (fld F p0 8 = .int z7074) → (fld F p0 13 = .int z7075) → (fld F p0 10 = .int z7076) → (fld F p0 9 = .int z7077) → (fld F p0 11 = .int z7078) → (x4.toInt ≤ z7074.toInt) → (x3.toInt ≠ 5) → lv_has ls 3 [(0, .ref p0), (1, .int z7072), (2, .int z7073)] → W p l e { frames := 1, cells := 0, slots := 0, locals := 21 } s m args below meth c H locs 0 0 Q (F0 m 89 ls []) := by
    intro n
    induction n with
    | zero =>
      intro z7072 z7073 z7074 z7075 z7076 z7077 z7078 F H locs ls hn rz7072 rz7074 rz7075 rz7076 rz7077 rz7078 hT hfr pf0 pf1 pf2 qz7074 qz7075 qz7076 qz7077 qz7078 ex89_0 ex89_1 hl
      have rz7073 := rg_all z7073
      exfalso
      omega
    | succ n ih89 =>
      intro z7072 z7073 z7074 z7075 z7076 z7077 z7078 F H locs ls hn rz7072 rz7074 rz7075 rz7076 rz7077 rz7078 hT hfr pf0 pf1 pf2 qz7074 qz7075 qz7076 qz7077 qz7078 ex89_0 ex89_1 hl
      have rz7073 := rg_all z7073
      refine lv_aload_n hx hb dX13_goesOn_89 rfl (lv_at hl 0 rfl) ?_
      refine lv_aload_n hx hb dX13_goesOn_90 rfl (lv_at hl 0 rfl) ?_
      refine t_get (C := RX13) (T := TX13) (N := 37) X hT m0 g0 rfl rfl 8 (by decide) qw_472 inlX13 rfl dX13_goesOn_91 (fun v7079 hv7079 ov7079 => ?_)
      obtain rfl : v7079 = .int z7074 := hv7079.symm.trans qz7074
      refine t_cVi (n := 1) (C := RX13) (T := TX13) (N := 37) (As := [.int z7074]) (rest := []) X hT (km11_X13_byteAt l G tag L F hT.2.2.2 p0 z7074 m0 g0 (by omega)) m0 g0 rfl rfl qw_517 qw_518 qw_519 qw_5 qw_520 ⟨rfl, by decide +kernel, by decide +kernel, by decide +kernel⟩ ⟨Nat.le_of_ble_eq_true rfl, Nat.le_of_ble_eq_true rfl⟩ hl rfl rfl (Nat.le_of_ble_eq_true rfl) dX13_goesOn_94 ⟨Nat.le_of_ble_eq_true rfl, Nat.le_of_ble_eq_true rfl⟩ (fun z7080 F9 H locs hT hz7080 => ?_)
      obtain ⟨fz7080, hz7080, xz7080_0⟩ := hz7080
      rw [fz7080] at hT
      refine t_cSi (n := 1) (As := [.int z7080]) (rest := []) X hT (km12_X13_isLetter l G tag L F hT.2.2.2 z7080 ) qw_521 qw_522 qw_5 qw_523 ⟨by decide +kernel, by decide +kernel, by decide +kernel⟩ ⟨Nat.le_of_ble_eq_true rfl, Nat.le_of_ble_eq_true rfl⟩ hl rfl rfl (Nat.le_of_ble_eq_true rfl) dX13_goesOn_97 ⟨Nat.le_of_ble_eq_true rfl, Nat.le_of_ble_eq_true rfl⟩ (fun z7081 F9 H locs hT hz7081 => ?_)
      obtain ⟨fz7081, hz7081, xz7081_0⟩ := hz7081
      rw [fz7081] at hT
      refine lv_if_eq (tgt := 152) hx hb dX13_goesOn_100 (by decide) (fun c7082 => ?_) (fun c7082 => ?_)
      · have w7083 := cv_eq (rfl : z7081.toInt = z7081.toInt) (by decide : (0 : Int32).toInt = 0) c7082
        refine lv_iload_n hx hb dX13_goesOn_152 rfl (lv_at hl 2 rfl) ?_
        refine lv_bipush (v := 8) hx hb dX13_goesOn_153 (by decide) ?_
        refine lv_icmp_gt (tgt := 281) hx hb dX13_goesOn_155 (by decide) (fun c7084 => ?_) (fun c7084 => ?_)
        · have w7085 := cv_lt (by decide : (8 : Int32).toInt = 8) (rfl : z7073.toInt = z7073.toInt) c7084
          exact t_vret hQ X hT ⟨hfr, ⟨z7077, z7074, z7075, qz7077, qz7074, qz7075, (by omega), (by omega), (by omega), (fun h9 => absurd h9 (by omega)), ⟨by omega, fun h9 => absurd h9 (by omega)⟩, (fun h9 => absurd h9 (by omega))⟩⟩ (Nat.le_of_ble_eq_true rfl) (Nat.le_of_ble_eq_true rfl) dX13_goesOn_281
        · have w7086 := cv_nlt (by decide : (8 : Int32).toInt = 8) (rfl : z7073.toInt = z7073.toInt) c7084
          refine lv_aload_n hx hb dX13_goesOn_158 rfl (lv_at hl 0 rfl) ?_
          refine lv_iconst (v := 2) hx hb dX13_goesOn_159 (by decide) ?_
          refine t_put (C := RX13) (T := TX13) (N := 37) (v := .int 2) X hT m0 g0 rfl tyX13 tyX13_ok nmX13 rfl 9 (by decide) qw_478 inlX13 rfl (by first | rfl | decide) (by first | rfl | decide) rfl (⟨_, rfl, (show 0 ≤ (2 : Int32).toInt from (by decide)), (show (2 : Int32).toInt ≤ 5 from (by decide))⟩) dX13_goesOn_160 (fun F H locs hT v7087 h1v7087 h2v7087 => ?_)
          have qz7074 := (h1v7087 _ _ (Or.inr (by decide))).trans qz7074
          have qz7075 := (h1v7087 _ _ (Or.inr (by decide))).trans qz7075
          have qz7076 := (h1v7087 _ _ (Or.inr (by decide))).trans qz7076
          have qz7078 := (h1v7087 _ _ (Or.inr (by decide))).trans qz7078
          have pf0 := (h1v7087 _ _ (Or.inr (by decide))).trans pf0
          have pf1 := (h1v7087 _ _ (Or.inr (by decide))).trans pf1
          have pf2 := (h1v7087 _ _ (Or.inr (by decide))).trans pf2
          have hfr : (∀ b j : Nat, (tag b ≠ 46 ∨ j ≠ 8) → (tag b ≠ 46 ∨ j ≠ 9) → (tag b ≠ 46 ∨ j ≠ 10) → (tag b ≠ 46 ∨ j ≠ 11) → (tag b ≠ 46 ∨ j ≠ 12) → (tag b ≠ 46 ∨ j ≠ 15) → fld F b j = fld Fo b j) ∧ (∀ b j : Nat, elm F b j = elm Fo b j) := ⟨fun b j n46_8 n46_9 n46_10 n46_11 n46_12 n46_15 => (h1v7087 b j (fr_ne g0 n46_9)).trans (hfr.1 b j n46_8 n46_9 n46_10 n46_11 n46_12 n46_15), fun b j  => (h2v7087 b j).trans (hfr.2 b j )⟩
          refine lv_goto (tgt := 281) hx hb dX13_goesOn_163 (by decide) ?_
          have k7088 : (2 : Int32).toInt = 2 := by decide
          exact t_vret hQ X hT ⟨hfr, ⟨2, z7074, z7075, v7087, qz7074, qz7075, (by decide), (by omega), (by omega), (fun h9 => absurd h9 (by omega)), ⟨by omega, fun h9 => absurd h9 (by decide)⟩, (fun h9 => absurd h9 (by decide))⟩⟩ (Nat.le_of_ble_eq_true rfl) (Nat.le_of_ble_eq_true rfl) dX13_goesOn_281
      · have w7089 := cv_ne (rfl : z7081.toInt = z7081.toInt) (by decide : (0 : Int32).toInt = 0) c7082
        have w7090 := xz7081_0 (by omega)
        have w7091 := xz7080_0 (by omega)
        refine lv_iload_n hx hb dX13_goesOn_103 rfl (lv_at hl 2 rfl) ?_
        refine lv_bipush (v := 8) hx hb dX13_goesOn_104 (by decide) ?_
        refine lv_icmp_ge (tgt := 136) hx hb dX13_goesOn_106 (by decide) (fun c7092 => ?_) (fun c7092 => ?_)
        · have w7093 := cv_le (by decide : (8 : Int32).toInt = 8) (rfl : z7073.toInt = z7073.toInt) c7092
          obtain ⟨z7094, ez7094⟩ : ∃ y : Int32, y = z7073 + 1 := ⟨_, rfl⟩
          have rz7094 := rg_all z7094
          refine lv_iinc (v := z7094) (lv' := [(2, .int z7094), (0, .ref p0), (1, .int z7072)]) hx hb dX13_goesOn_136 hl (k := 2) rfl (by rw [ez7094]; rfl) (by decide) rfl (fun ls hl => ?_)
          refine lv_aload_n hx hb dX13_goesOn_139 rfl (lv_at hl 1 rfl) ?_
          refine lv_dup hx hb dX13_goesOn_140 rfl ?_
          refine t_get (C := RX13) (T := TX13) (N := 37) X hT m0 g0 rfl rfl 8 (by decide) qw_472 inlX13 rfl dX13_goesOn_141 (fun v7095 hv7095 ov7095 => ?_)
          obtain rfl : v7095 = .int z7074 := hv7095.symm.trans qz7074
          refine lv_iconst (v := 1) hx hb dX13_goesOn_144 (by decide) ?_
          refine lv_iadd hx hb dX13_goesOn_145 ?_
          refine lv_topi (fun z7096 ez7096 => ?_)
          have hz7096 : z7096.toInt = z7074.toInt + 1 := ar_add ez7096 (rfl : z7074.toInt = z7074.toInt) (by decide : (1 : Int32).toInt = 1) (by omega) (by omega)
          have rz7096 : 1 ≤ z7096.toInt ∧ z7096.toInt ≤ 1000 := by omega
          refine t_put (C := RX13) (T := TX13) (N := 37) (v := .int z7096) X hT m0 g0 rfl tyX13 tyX13_ok nmX13 rfl 8 (by decide) qw_472 inlX13 rfl (by first | rfl | decide) (by first | rfl | decide) rfl (⟨_, rfl, (show 0 ≤ (z7096 : Int32).toInt from (by omega)), (show (z7096 : Int32).toInt ≤ 1000 from (by omega))⟩) dX13_goesOn_146 (fun F H locs hT v7097 h1v7097 h2v7097 => ?_)
          have qz7075 := (h1v7097 _ _ (Or.inr (by decide))).trans qz7075
          have qz7076 := (h1v7097 _ _ (Or.inr (by decide))).trans qz7076
          have qz7077 := (h1v7097 _ _ (Or.inr (by decide))).trans qz7077
          have qz7078 := (h1v7097 _ _ (Or.inr (by decide))).trans qz7078
          have pf0 := (h1v7097 _ _ (Or.inr (by decide))).trans pf0
          have pf1 := (h1v7097 _ _ (Or.inr (by decide))).trans pf1
          have pf2 := (h1v7097 _ _ (Or.inr (by decide))).trans pf2
          have hfr : (∀ b j : Nat, (tag b ≠ 46 ∨ j ≠ 8) → (tag b ≠ 46 ∨ j ≠ 9) → (tag b ≠ 46 ∨ j ≠ 10) → (tag b ≠ 46 ∨ j ≠ 11) → (tag b ≠ 46 ∨ j ≠ 12) → (tag b ≠ 46 ∨ j ≠ 15) → fld F b j = fld Fo b j) ∧ (∀ b j : Nat, elm F b j = elm Fo b j) := ⟨fun b j n46_8 n46_9 n46_10 n46_11 n46_12 n46_15 => (h1v7097 b j (fr_ne g0 n46_8)).trans (hfr.1 b j n46_8 n46_9 n46_10 n46_11 n46_12 n46_15), fun b j  => (h2v7097 b j).trans (hfr.2 b j )⟩
          refine lv_goto (tgt := 89) hx hb dX13_goesOn_149 (by decide) ?_
          exact ih89 z7072 z7094 z7096 z7075 z7076 z7077 z7078 _ _ _ _ (by omega) (by omega) (by omega) (by omega) (by omega) (by omega) (by omega) hT hfr pf0 pf1 pf2 v7097 qz7075 qz7076 qz7077 qz7078 (by omega) (by omega) (lv_sub hl [1, 2, 0] rfl)
        · have w7098 := cv_nle (by decide : (8 : Int32).toInt = 8) (rfl : z7073.toInt = z7073.toInt) c7092
          refine lv_aload_n hx hb dX13_goesOn_109 rfl (lv_at hl 0 rfl) ?_
          refine m_ldc2 (v := 32) X qw_515 dX13_goesOn_110 ?_
          refine lv_aload_n hx hb dX13_goesOn_113 rfl (lv_at hl 0 rfl) ?_
          refine t_get (C := RX13) (T := TX13) (N := 37) X hT m0 g0 rfl rfl 15 (by decide) qw_514 inlX13 rfl dX13_goesOn_114 (fun v7099 hv7099 ov7099 => ?_)
          obtain ⟨z7100, rfl⟩ := ov7099
          refine lv_lmul hx hb dX13_goesOn_117 ?_
          refine lv_topl (fun z7101 ez7101 => ?_)
          refine lv_aload_n hx hb dX13_goesOn_118 rfl (lv_at hl 0 rfl) ?_
          refine lv_aload_n hx hb dX13_goesOn_119 rfl (lv_at hl 0 rfl) ?_
          refine t_get (C := RX13) (T := TX13) (N := 37) X hT m0 g0 rfl rfl 8 (by decide) qw_472 inlX13 rfl dX13_goesOn_120 (fun v7102 hv7102 ov7102 => ?_)
          obtain rfl : v7102 = .int z7074 := hv7102.symm.trans qz7074
          refine t_cVi (n := 1) (C := RX13) (T := TX13) (N := 37) (As := [.int z7074]) (rest := [.long z7101, .ref p0]) X hT (km11_X13_byteAt l G tag L F hT.2.2.2 p0 z7074 m0 g0 (by omega)) m0 g0 rfl rfl qw_517 qw_518 qw_519 qw_5 qw_520 ⟨rfl, by decide +kernel, by decide +kernel, by decide +kernel⟩ ⟨Nat.le_of_ble_eq_true rfl, Nat.le_of_ble_eq_true rfl⟩ hl rfl rfl (Nat.le_of_ble_eq_true rfl) dX13_goesOn_123 ⟨Nat.le_of_ble_eq_true rfl, Nat.le_of_ble_eq_true rfl⟩ (fun z7103 F9 H locs hT hz7103 => ?_)
          obtain ⟨fz7103, hz7103, xz7103_0⟩ := hz7103
          rw [fz7103] at hT
          refine lv_bipush (v := 97) hx hb dX13_goesOn_126 (by decide) ?_
          refine lv_isub hx hb dX13_goesOn_128 ?_
          refine lv_topi (fun z7104 ez7104 => ?_)
          have hz7104 : z7104.toInt = z7103.toInt - 97 := ar_sub ez7104 (rfl : z7103.toInt = z7103.toInt) (by decide : (97 : Int32).toInt = 97) (by omega) (by omega)
          have rz7104 : (-98) ≤ z7104.toInt ∧ z7104.toInt ≤ 158 := by omega
          refine lv_iconst (v := 1) hx hb dX13_goesOn_129 (by decide) ?_
          refine lv_iadd hx hb dX13_goesOn_130 ?_
          refine lv_topi (fun z7105 ez7105 => ?_)
          have hz7105 : z7105.toInt = z7104.toInt + 1 := ar_add ez7105 (rfl : z7104.toInt = z7104.toInt) (by decide : (1 : Int32).toInt = 1) (by omega) (by omega)
          have rz7105 : (-97) ≤ z7105.toInt ∧ z7105.toInt ≤ 159 := by omega
          refine lv_i2l hx hb dX13_goesOn_131 rfl ?_
          refine lv_topl (fun z7106 ez7106 => ?_)
          refine lv_ladd hx hb dX13_goesOn_132 ?_
          refine lv_topl (fun z7107 ez7107 => ?_)
          refine t_put (C := RX13) (T := TX13) (N := 37) (v := .long z7107) X hT m0 g0 rfl tyX13 tyX13_ok nmX13 rfl 15 (by decide) qw_514 inlX13 rfl (by first | rfl | decide) (by first | rfl | decide) rfl (⟨_, rfl⟩) dX13_goesOn_133 (fun F H locs hT v7108 h1v7108 h2v7108 => ?_)
          have qz7074 := (h1v7108 _ _ (Or.inr (by decide))).trans qz7074
          have qz7075 := (h1v7108 _ _ (Or.inr (by decide))).trans qz7075
          have qz7076 := (h1v7108 _ _ (Or.inr (by decide))).trans qz7076
          have qz7077 := (h1v7108 _ _ (Or.inr (by decide))).trans qz7077
          have qz7078 := (h1v7108 _ _ (Or.inr (by decide))).trans qz7078
          have pf0 := (h1v7108 _ _ (Or.inr (by decide))).trans pf0
          have pf1 := (h1v7108 _ _ (Or.inr (by decide))).trans pf1
          have pf2 := (h1v7108 _ _ (Or.inr (by decide))).trans pf2
          have hfr : (∀ b j : Nat, (tag b ≠ 46 ∨ j ≠ 8) → (tag b ≠ 46 ∨ j ≠ 9) → (tag b ≠ 46 ∨ j ≠ 10) → (tag b ≠ 46 ∨ j ≠ 11) → (tag b ≠ 46 ∨ j ≠ 12) → (tag b ≠ 46 ∨ j ≠ 15) → fld F b j = fld Fo b j) ∧ (∀ b j : Nat, elm F b j = elm Fo b j) := ⟨fun b j n46_8 n46_9 n46_10 n46_11 n46_12 n46_15 => (h1v7108 b j (fr_ne g0 n46_15)).trans (hfr.1 b j n46_8 n46_9 n46_10 n46_11 n46_12 n46_15), fun b j  => (h2v7108 b j).trans (hfr.2 b j )⟩
          obtain ⟨z7109, ez7109⟩ : ∃ y : Int32, y = z7073 + 1 := ⟨_, rfl⟩
          have hz7109 : z7109.toInt = z7073.toInt + 1 := ar_add ez7109 rfl (by decide : (1 : Int32).toInt = 1) (by omega) (by omega)
          refine lv_iinc (v := z7109) (lv' := [(2, .int z7109), (0, .ref p0), (1, .int z7072)]) hx hb dX13_goesOn_136 hl (k := 2) rfl (by rw [ez7109]; rfl) (by decide) rfl (fun ls hl => ?_)
          refine lv_aload_n hx hb dX13_goesOn_139 rfl (lv_at hl 1 rfl) ?_
          refine lv_dup hx hb dX13_goesOn_140 rfl ?_
          refine t_get (C := RX13) (T := TX13) (N := 37) X hT m0 g0 rfl rfl 8 (by decide) qw_472 inlX13 rfl dX13_goesOn_141 (fun v7110 hv7110 ov7110 => ?_)
          obtain rfl : v7110 = .int z7074 := hv7110.symm.trans qz7074
          refine lv_iconst (v := 1) hx hb dX13_goesOn_144 (by decide) ?_
          refine lv_iadd hx hb dX13_goesOn_145 ?_
          refine lv_topi (fun z7111 ez7111 => ?_)
          have hz7111 : z7111.toInt = z7074.toInt + 1 := ar_add ez7111 (rfl : z7074.toInt = z7074.toInt) (by decide : (1 : Int32).toInt = 1) (by omega) (by omega)
          have rz7111 : 1 ≤ z7111.toInt ∧ z7111.toInt ≤ 1000 := by omega
          refine t_put (C := RX13) (T := TX13) (N := 37) (v := .int z7111) X hT m0 g0 rfl tyX13 tyX13_ok nmX13 rfl 8 (by decide) qw_472 inlX13 rfl (by first | rfl | decide) (by first | rfl | decide) rfl (⟨_, rfl, (show 0 ≤ (z7111 : Int32).toInt from (by omega)), (show (z7111 : Int32).toInt ≤ 1000 from (by omega))⟩) dX13_goesOn_146 (fun F H locs hT v7112 h1v7112 h2v7112 => ?_)
          have qz7075 := (h1v7112 _ _ (Or.inr (by decide))).trans qz7075
          have qz7076 := (h1v7112 _ _ (Or.inr (by decide))).trans qz7076
          have qz7077 := (h1v7112 _ _ (Or.inr (by decide))).trans qz7077
          have qz7078 := (h1v7112 _ _ (Or.inr (by decide))).trans qz7078
          have pf0 := (h1v7112 _ _ (Or.inr (by decide))).trans pf0
          have pf1 := (h1v7112 _ _ (Or.inr (by decide))).trans pf1
          have pf2 := (h1v7112 _ _ (Or.inr (by decide))).trans pf2
          have hfr : (∀ b j : Nat, (tag b ≠ 46 ∨ j ≠ 8) → (tag b ≠ 46 ∨ j ≠ 9) → (tag b ≠ 46 ∨ j ≠ 10) → (tag b ≠ 46 ∨ j ≠ 11) → (tag b ≠ 46 ∨ j ≠ 12) → (tag b ≠ 46 ∨ j ≠ 15) → fld F b j = fld Fo b j) ∧ (∀ b j : Nat, elm F b j = elm Fo b j) := ⟨fun b j n46_8 n46_9 n46_10 n46_11 n46_12 n46_15 => (h1v7112 b j (fr_ne g0 n46_8)).trans (hfr.1 b j n46_8 n46_9 n46_10 n46_11 n46_12 n46_15), fun b j  => (h2v7112 b j).trans (hfr.2 b j )⟩
          refine lv_goto (tgt := 89) hx hb dX13_goesOn_149 (by decide) ?_
          exact ih89 z7072 z7109 z7111 z7075 z7076 z7077 z7078 _ _ _ _ (by omega) (by omega) (by omega) (by omega) (by omega) (by omega) (by omega) hT hfr pf0 pf1 pf2 v7112 qz7075 qz7076 qz7077 qz7078 (by omega) (by omega) (lv_sub hl [1, 2, 0] rfl)
  have K178 : ∀ (n : Nat) (z7113 : Int32) (z7114 : Int32) (z7115 : Int32) (z7116 : Int32) (z7117 : Int32) (z7118 : Int32) (z7119 : Int32) (z7120 : Int32) (F : Nat → va_E) (H : Heap) (locs : List Loc) (ls : Array Slot), (1000 - z7115.toInt < (n : Int)) → (48 ≤ z7113.toInt ∧ z7113.toInt ≤ 57) → (0 ≤ z7115.toInt ∧ z7115.toInt ≤ 1000) → (0 ≤ z7116.toInt ∧ z7116.toInt ≤ 7) → (0 ≤ z7117.toInt ∧ z7117.toInt ≤ 999) → (0 ≤ z7118.toInt ∧ z7118.toInt ≤ 0) → (0 ≤ z7119.toInt ∧ z7119.toInt ≤ 0) → TH G ttC A s tag L F H locs → ((∀ b j : Nat, (tag b ≠ 46 ∨ j ≠ 8) → (tag b ≠ 46 ∨ j ≠ 9) → (tag b ≠ 46 ∨ j ≠ 10) → (tag b ≠ 46 ∨ j ≠ 11) → (tag b ≠ 46 ∨ j ≠ 12) → (tag b ≠ 46 ∨ j ≠ 15) → fld F b j = fld Fo b j) ∧ (∀ b j : Nat, elm F b j = elm Fo b j)) → (fld F p0 4 = .ref x0) → (fld F x0 28 = .ref x1) → (fld F x0 29 = .ref x2) → (fld F p0 8 = .int z7115) → (fld F p0 13 = .int z7116) → (fld F p0 10 = .int z7117) → (fld F p0 9 = .int z7118) → (fld F p0 11 = .int z7119) → (fld F p0 12 = .int z7120) → (x4.toInt ≤ z7115.toInt) → (x3.toInt ≠ 5) → lv_has ls 3 [(0, .ref p0), (1, .int z7113), (2, .int z7114)] → W p l e { frames := 1, cells := 0, slots := 0, locals := 21 } s m args below meth c H locs 0 0 Q (F0 m 178 ls []) := by
    intro n
    induction n with
    | zero =>
      intro z7113 z7114 z7115 z7116 z7117 z7118 z7119 z7120 F H locs ls hn rz7113 rz7115 rz7116 rz7117 rz7118 rz7119 hT hfr pf0 pf1 pf2 qz7115 qz7116 qz7117 qz7118 qz7119 qz7120 ex178_0 ex178_1 hl
      have rz7114 := rg_all z7114
      have rz7120 := rg_all z7120
      exfalso
      omega
    | succ n ih178 =>
      intro z7113 z7114 z7115 z7116 z7117 z7118 z7119 z7120 F H locs ls hn rz7113 rz7115 rz7116 rz7117 rz7118 rz7119 hT hfr pf0 pf1 pf2 qz7115 qz7116 qz7117 qz7118 qz7119 qz7120 ex178_0 ex178_1 hl
      have rz7114 := rg_all z7114
      have rz7120 := rg_all z7120
      refine lv_aload_n hx hb dX13_goesOn_178 rfl (lv_at hl 0 rfl) ?_
      refine lv_aload_n hx hb dX13_goesOn_179 rfl (lv_at hl 0 rfl) ?_
      refine t_get (C := RX13) (T := TX13) (N := 37) X hT m0 g0 rfl rfl 8 (by decide) qw_472 inlX13 rfl dX13_goesOn_180 (fun v7121 hv7121 ov7121 => ?_)
      obtain rfl : v7121 = .int z7115 := hv7121.symm.trans qz7115
      refine t_cVi (n := 1) (C := RX13) (T := TX13) (N := 37) (As := [.int z7115]) (rest := []) X hT (km11_X13_byteAt l G tag L F hT.2.2.2 p0 z7115 m0 g0 (by omega)) m0 g0 rfl rfl qw_517 qw_518 qw_519 qw_5 qw_520 ⟨rfl, by decide +kernel, by decide +kernel, by decide +kernel⟩ ⟨Nat.le_of_ble_eq_true rfl, Nat.le_of_ble_eq_true rfl⟩ hl rfl rfl (Nat.le_of_ble_eq_true rfl) dX13_goesOn_183 ⟨Nat.le_of_ble_eq_true rfl, Nat.le_of_ble_eq_true rfl⟩ (fun z7122 F9 H locs hT hz7122 => ?_)
      obtain ⟨fz7122, hz7122, xz7122_0⟩ := hz7122
      rw [fz7122] at hT
      refine t_cSi (n := 1) (As := [.int z7122]) (rest := []) X hT (km13_X13_isDigit l G tag L F hT.2.2.2 z7122 ) qw_524 qw_525 qw_5 qw_526 ⟨by decide +kernel, by decide +kernel, by decide +kernel⟩ ⟨Nat.le_of_ble_eq_true rfl, Nat.le_of_ble_eq_true rfl⟩ hl rfl rfl (Nat.le_of_ble_eq_true rfl) dX13_goesOn_186 ⟨Nat.le_of_ble_eq_true rfl, Nat.le_of_ble_eq_true rfl⟩ (fun z7123 F9 H locs hT hz7123 => ?_)
      obtain ⟨fz7123, hz7123, xz7123_0⟩ := hz7123
      rw [fz7123] at hT
      refine lv_if_eq (tgt := 236) hx hb dX13_goesOn_189 (by decide) (fun c7124 => ?_) (fun c7124 => ?_)
      · have w7125 := cv_eq (rfl : z7123.toInt = z7123.toInt) (by decide : (0 : Int32).toInt = 0) c7124
        refine lv_iload_n hx hb dX13_goesOn_236 rfl (lv_at hl 2 rfl) ?_
        refine lv_iconst (v := 3) hx hb dX13_goesOn_237 (by decide) ?_
        refine lv_icmp_gt (tgt := 281) hx hb dX13_goesOn_238 (by decide) (fun c7126 => ?_) (fun c7126 => ?_)
        · have w7127 := cv_lt (by decide : (3 : Int32).toInt = 3) (rfl : z7114.toInt = z7114.toInt) c7126
          exact t_vret hQ X hT ⟨hfr, ⟨z7118, z7115, z7116, qz7118, qz7115, qz7116, (by omega), (by omega), (by omega), (fun h9 => absurd h9 (by omega)), ⟨by omega, fun h9 => absurd h9 (by omega)⟩, (fun h9 => absurd h9 (by omega))⟩⟩ (Nat.le_of_ble_eq_true rfl) (Nat.le_of_ble_eq_true rfl) dX13_goesOn_281
        · have w7128 := cv_nlt (by decide : (3 : Int32).toInt = 3) (rfl : z7114.toInt = z7114.toInt) c7126
          refine lv_aload_n hx hb dX13_goesOn_241 rfl (lv_at hl 0 rfl) ?_
          refine lv_iconst (v := 3) hx hb dX13_goesOn_242 (by decide) ?_
          refine t_put (C := RX13) (T := TX13) (N := 37) (v := .int 3) X hT m0 g0 rfl tyX13 tyX13_ok nmX13 rfl 9 (by decide) qw_478 inlX13 rfl (by first | rfl | decide) (by first | rfl | decide) rfl (⟨_, rfl, (show 0 ≤ (3 : Int32).toInt from (by decide)), (show (3 : Int32).toInt ≤ 5 from (by decide))⟩) dX13_goesOn_243 (fun F H locs hT v7129 h1v7129 h2v7129 => ?_)
          have qz7115 := (h1v7129 _ _ (Or.inr (by decide))).trans qz7115
          have qz7116 := (h1v7129 _ _ (Or.inr (by decide))).trans qz7116
          have qz7117 := (h1v7129 _ _ (Or.inr (by decide))).trans qz7117
          have qz7119 := (h1v7129 _ _ (Or.inr (by decide))).trans qz7119
          have qz7120 := (h1v7129 _ _ (Or.inr (by decide))).trans qz7120
          have pf0 := (h1v7129 _ _ (Or.inr (by decide))).trans pf0
          have pf1 := (h1v7129 _ _ (Or.inr (by decide))).trans pf1
          have pf2 := (h1v7129 _ _ (Or.inr (by decide))).trans pf2
          have hfr : (∀ b j : Nat, (tag b ≠ 46 ∨ j ≠ 8) → (tag b ≠ 46 ∨ j ≠ 9) → (tag b ≠ 46 ∨ j ≠ 10) → (tag b ≠ 46 ∨ j ≠ 11) → (tag b ≠ 46 ∨ j ≠ 12) → (tag b ≠ 46 ∨ j ≠ 15) → fld F b j = fld Fo b j) ∧ (∀ b j : Nat, elm F b j = elm Fo b j) := ⟨fun b j n46_8 n46_9 n46_10 n46_11 n46_12 n46_15 => (h1v7129 b j (fr_ne g0 n46_9)).trans (hfr.1 b j n46_8 n46_9 n46_10 n46_11 n46_12 n46_15), fun b j  => (h2v7129 b j).trans (hfr.2 b j )⟩
          refine lv_goto (tgt := 281) hx hb dX13_goesOn_246 (by decide) ?_
          have k7130 : (3 : Int32).toInt = 3 := by decide
          exact t_vret hQ X hT ⟨hfr, ⟨3, z7115, z7116, v7129, qz7115, qz7116, (by decide), (by omega), (by omega), (fun h9 => absurd h9 (by omega)), ⟨by omega, fun h9 => absurd h9 (by decide)⟩, (fun h9 => absurd h9 (by decide))⟩⟩ (Nat.le_of_ble_eq_true rfl) (Nat.le_of_ble_eq_true rfl) dX13_goesOn_281
      · have w7131 := cv_ne (rfl : z7123.toInt = z7123.toInt) (by decide : (0 : Int32).toInt = 0) c7124
        have w7132 := xz7123_0 (by omega)
        have w7133 := xz7122_0 (by omega)
        refine lv_iload_n hx hb dX13_goesOn_192 rfl (lv_at hl 2 rfl) ?_
        refine lv_iconst (v := 3) hx hb dX13_goesOn_193 (by decide) ?_
        refine lv_icmp_ge (tgt := 220) hx hb dX13_goesOn_194 (by decide) (fun c7134 => ?_) (fun c7134 => ?_)
        · have w7135 := cv_le (by decide : (3 : Int32).toInt = 3) (rfl : z7114.toInt = z7114.toInt) c7134
          obtain ⟨z7136, ez7136⟩ : ∃ y : Int32, y = z7114 + 1 := ⟨_, rfl⟩
          have rz7136 := rg_all z7136
          refine lv_iinc (v := z7136) (lv' := [(2, .int z7136), (0, .ref p0), (1, .int z7113)]) hx hb dX13_goesOn_220 hl (k := 2) rfl (by rw [ez7136]; rfl) (by decide) rfl (fun ls hl => ?_)
          refine lv_aload_n hx hb dX13_goesOn_223 rfl (lv_at hl 1 rfl) ?_
          refine lv_dup hx hb dX13_goesOn_224 rfl ?_
          refine t_get (C := RX13) (T := TX13) (N := 37) X hT m0 g0 rfl rfl 8 (by decide) qw_472 inlX13 rfl dX13_goesOn_225 (fun v7137 hv7137 ov7137 => ?_)
          obtain rfl : v7137 = .int z7115 := hv7137.symm.trans qz7115
          refine lv_iconst (v := 1) hx hb dX13_goesOn_228 (by decide) ?_
          refine lv_iadd hx hb dX13_goesOn_229 ?_
          refine lv_topi (fun z7138 ez7138 => ?_)
          have hz7138 : z7138.toInt = z7115.toInt + 1 := ar_add ez7138 (rfl : z7115.toInt = z7115.toInt) (by decide : (1 : Int32).toInt = 1) (by omega) (by omega)
          have rz7138 : 1 ≤ z7138.toInt ∧ z7138.toInt ≤ 1000 := by omega
          refine t_put (C := RX13) (T := TX13) (N := 37) (v := .int z7138) X hT m0 g0 rfl tyX13 tyX13_ok nmX13 rfl 8 (by decide) qw_472 inlX13 rfl (by first | rfl | decide) (by first | rfl | decide) rfl (⟨_, rfl, (show 0 ≤ (z7138 : Int32).toInt from (by omega)), (show (z7138 : Int32).toInt ≤ 1000 from (by omega))⟩) dX13_goesOn_230 (fun F H locs hT v7139 h1v7139 h2v7139 => ?_)
          have qz7116 := (h1v7139 _ _ (Or.inr (by decide))).trans qz7116
          have qz7117 := (h1v7139 _ _ (Or.inr (by decide))).trans qz7117
          have qz7118 := (h1v7139 _ _ (Or.inr (by decide))).trans qz7118
          have qz7119 := (h1v7139 _ _ (Or.inr (by decide))).trans qz7119
          have qz7120 := (h1v7139 _ _ (Or.inr (by decide))).trans qz7120
          have pf0 := (h1v7139 _ _ (Or.inr (by decide))).trans pf0
          have pf1 := (h1v7139 _ _ (Or.inr (by decide))).trans pf1
          have pf2 := (h1v7139 _ _ (Or.inr (by decide))).trans pf2
          have hfr : (∀ b j : Nat, (tag b ≠ 46 ∨ j ≠ 8) → (tag b ≠ 46 ∨ j ≠ 9) → (tag b ≠ 46 ∨ j ≠ 10) → (tag b ≠ 46 ∨ j ≠ 11) → (tag b ≠ 46 ∨ j ≠ 12) → (tag b ≠ 46 ∨ j ≠ 15) → fld F b j = fld Fo b j) ∧ (∀ b j : Nat, elm F b j = elm Fo b j) := ⟨fun b j n46_8 n46_9 n46_10 n46_11 n46_12 n46_15 => (h1v7139 b j (fr_ne g0 n46_8)).trans (hfr.1 b j n46_8 n46_9 n46_10 n46_11 n46_12 n46_15), fun b j  => (h2v7139 b j).trans (hfr.2 b j )⟩
          refine lv_goto (tgt := 178) hx hb dX13_goesOn_233 (by decide) ?_
          exact ih178 z7113 z7136 z7138 z7116 z7117 z7118 z7119 z7120 _ _ _ _ (by omega) (by omega) (by omega) (by omega) (by omega) (by omega) (by omega) hT hfr pf0 pf1 pf2 v7139 qz7116 qz7117 qz7118 qz7119 qz7120 (by omega) (by omega) (lv_sub hl [1, 2, 0] rfl)
        · have w7140 := cv_nle (by decide : (3 : Int32).toInt = 3) (rfl : z7114.toInt = z7114.toInt) c7134
          refine lv_aload_n hx hb dX13_goesOn_197 rfl (lv_at hl 0 rfl) ?_
          refine lv_bipush (v := 10) hx hb dX13_goesOn_198 (by decide) ?_
          refine lv_aload_n hx hb dX13_goesOn_200 rfl (lv_at hl 0 rfl) ?_
          refine t_get (C := RX13) (T := TX13) (N := 37) X hT m0 g0 rfl rfl 12 (by decide) qw_516 inlX13 rfl dX13_goesOn_201 (fun v7141 hv7141 ov7141 => ?_)
          obtain rfl : v7141 = .int z7120 := hv7141.symm.trans qz7120
          refine lv_imul hx hb dX13_goesOn_204 ?_
          refine lv_topi (fun z7142 ez7142 => ?_)
          have rz7142 := rg_all z7142
          refine lv_aload_n hx hb dX13_goesOn_205 rfl (lv_at hl 0 rfl) ?_
          refine lv_aload_n hx hb dX13_goesOn_206 rfl (lv_at hl 0 rfl) ?_
          refine t_get (C := RX13) (T := TX13) (N := 37) X hT m0 g0 rfl rfl 8 (by decide) qw_472 inlX13 rfl dX13_goesOn_207 (fun v7143 hv7143 ov7143 => ?_)
          obtain rfl : v7143 = .int z7115 := hv7143.symm.trans qz7115
          refine t_cVi (n := 1) (C := RX13) (T := TX13) (N := 37) (As := [.int z7115]) (rest := [.int z7142, .ref p0]) X hT (km11_X13_byteAt l G tag L F hT.2.2.2 p0 z7115 m0 g0 (by omega)) m0 g0 rfl rfl qw_517 qw_518 qw_519 qw_5 qw_520 ⟨rfl, by decide +kernel, by decide +kernel, by decide +kernel⟩ ⟨Nat.le_of_ble_eq_true rfl, Nat.le_of_ble_eq_true rfl⟩ hl rfl rfl (Nat.le_of_ble_eq_true rfl) dX13_goesOn_210 ⟨Nat.le_of_ble_eq_true rfl, Nat.le_of_ble_eq_true rfl⟩ (fun z7144 F9 H locs hT hz7144 => ?_)
          obtain ⟨fz7144, hz7144, xz7144_0⟩ := hz7144
          rw [fz7144] at hT
          refine lv_iadd hx hb dX13_goesOn_213 ?_
          refine lv_topi (fun z7145 ez7145 => ?_)
          have rz7145 := rg_all z7145
          refine lv_bipush (v := 48) hx hb dX13_goesOn_214 (by decide) ?_
          refine lv_isub hx hb dX13_goesOn_216 ?_
          refine lv_topi (fun z7146 ez7146 => ?_)
          have rz7146 := rg_all z7146
          refine t_put (C := RX13) (T := TX13) (N := 37) (v := .int z7146) X hT m0 g0 rfl tyX13 tyX13_ok nmX13 rfl 12 (by decide) qw_516 inlX13 rfl (by first | rfl | decide) (by first | rfl | decide) rfl (⟨_, rfl, (show (-2147483648) ≤ (z7146 : Int32).toInt from (by omega)), (show (z7146 : Int32).toInt ≤ 2147483647 from (by omega))⟩) dX13_goesOn_217 (fun F H locs hT v7147 h1v7147 h2v7147 => ?_)
          have qz7115 := (h1v7147 _ _ (Or.inr (by decide))).trans qz7115
          have qz7116 := (h1v7147 _ _ (Or.inr (by decide))).trans qz7116
          have qz7117 := (h1v7147 _ _ (Or.inr (by decide))).trans qz7117
          have qz7118 := (h1v7147 _ _ (Or.inr (by decide))).trans qz7118
          have qz7119 := (h1v7147 _ _ (Or.inr (by decide))).trans qz7119
          have pf0 := (h1v7147 _ _ (Or.inr (by decide))).trans pf0
          have pf1 := (h1v7147 _ _ (Or.inr (by decide))).trans pf1
          have pf2 := (h1v7147 _ _ (Or.inr (by decide))).trans pf2
          have hfr : (∀ b j : Nat, (tag b ≠ 46 ∨ j ≠ 8) → (tag b ≠ 46 ∨ j ≠ 9) → (tag b ≠ 46 ∨ j ≠ 10) → (tag b ≠ 46 ∨ j ≠ 11) → (tag b ≠ 46 ∨ j ≠ 12) → (tag b ≠ 46 ∨ j ≠ 15) → fld F b j = fld Fo b j) ∧ (∀ b j : Nat, elm F b j = elm Fo b j) := ⟨fun b j n46_8 n46_9 n46_10 n46_11 n46_12 n46_15 => (h1v7147 b j (fr_ne g0 n46_12)).trans (hfr.1 b j n46_8 n46_9 n46_10 n46_11 n46_12 n46_15), fun b j  => (h2v7147 b j).trans (hfr.2 b j )⟩
          obtain ⟨z7148, ez7148⟩ : ∃ y : Int32, y = z7114 + 1 := ⟨_, rfl⟩
          have hz7148 : z7148.toInt = z7114.toInt + 1 := ar_add ez7148 rfl (by decide : (1 : Int32).toInt = 1) (by omega) (by omega)
          refine lv_iinc (v := z7148) (lv' := [(2, .int z7148), (0, .ref p0), (1, .int z7113)]) hx hb dX13_goesOn_220 hl (k := 2) rfl (by rw [ez7148]; rfl) (by decide) rfl (fun ls hl => ?_)
          refine lv_aload_n hx hb dX13_goesOn_223 rfl (lv_at hl 1 rfl) ?_
          refine lv_dup hx hb dX13_goesOn_224 rfl ?_
          refine t_get (C := RX13) (T := TX13) (N := 37) X hT m0 g0 rfl rfl 8 (by decide) qw_472 inlX13 rfl dX13_goesOn_225 (fun v7149 hv7149 ov7149 => ?_)
          obtain rfl : v7149 = .int z7115 := hv7149.symm.trans qz7115
          refine lv_iconst (v := 1) hx hb dX13_goesOn_228 (by decide) ?_
          refine lv_iadd hx hb dX13_goesOn_229 ?_
          refine lv_topi (fun z7150 ez7150 => ?_)
          have hz7150 : z7150.toInt = z7115.toInt + 1 := ar_add ez7150 (rfl : z7115.toInt = z7115.toInt) (by decide : (1 : Int32).toInt = 1) (by omega) (by omega)
          have rz7150 : 1 ≤ z7150.toInt ∧ z7150.toInt ≤ 1000 := by omega
          refine t_put (C := RX13) (T := TX13) (N := 37) (v := .int z7150) X hT m0 g0 rfl tyX13 tyX13_ok nmX13 rfl 8 (by decide) qw_472 inlX13 rfl (by first | rfl | decide) (by first | rfl | decide) rfl (⟨_, rfl, (show 0 ≤ (z7150 : Int32).toInt from (by omega)), (show (z7150 : Int32).toInt ≤ 1000 from (by omega))⟩) dX13_goesOn_230 (fun F H locs hT v7151 h1v7151 h2v7151 => ?_)
          have qz7116 := (h1v7151 _ _ (Or.inr (by decide))).trans qz7116
          have qz7117 := (h1v7151 _ _ (Or.inr (by decide))).trans qz7117
          have qz7118 := (h1v7151 _ _ (Or.inr (by decide))).trans qz7118
          have qz7119 := (h1v7151 _ _ (Or.inr (by decide))).trans qz7119
          have pf0 := (h1v7151 _ _ (Or.inr (by decide))).trans pf0
          have pf1 := (h1v7151 _ _ (Or.inr (by decide))).trans pf1
          have pf2 := (h1v7151 _ _ (Or.inr (by decide))).trans pf2
          have v7147 := (h1v7151 _ _ (Or.inr (by decide))).trans v7147
          have hfr : (∀ b j : Nat, (tag b ≠ 46 ∨ j ≠ 8) → (tag b ≠ 46 ∨ j ≠ 9) → (tag b ≠ 46 ∨ j ≠ 10) → (tag b ≠ 46 ∨ j ≠ 11) → (tag b ≠ 46 ∨ j ≠ 12) → (tag b ≠ 46 ∨ j ≠ 15) → fld F b j = fld Fo b j) ∧ (∀ b j : Nat, elm F b j = elm Fo b j) := ⟨fun b j n46_8 n46_9 n46_10 n46_11 n46_12 n46_15 => (h1v7151 b j (fr_ne g0 n46_8)).trans (hfr.1 b j n46_8 n46_9 n46_10 n46_11 n46_12 n46_15), fun b j  => (h2v7151 b j).trans (hfr.2 b j )⟩
          refine lv_goto (tgt := 178) hx hb dX13_goesOn_233 (by decide) ?_
          exact ih178 z7113 z7148 z7150 z7116 z7117 z7118 z7119 z7146 _ _ _ _ (by omega) (by omega) (by omega) (by omega) (by omega) (by omega) (by omega) hT hfr pf0 pf1 pf2 v7151 qz7116 qz7117 qz7118 qz7119 v7147 (by omega) (by omega) (lv_sub hl [1, 2, 0] rfl)
  have K261 : ∀ (z7152 : Int32) (z7153 : Int32) (z7154 : Int32) (z7155 : Int32) (z7156 : Int32) (z7157 : Int32) (z7158 : Int32) (F : Nat → va_E) (H : Heap) (locs : List Loc) (ls : Array Slot), (44 ≤ z7152.toInt ∧ z7152.toInt ≤ 59) → (0 ≤ z7153.toInt ∧ z7153.toInt ≤ 0) → (0 ≤ z7154.toInt ∧ z7154.toInt ≤ 999) → (0 ≤ z7155.toInt ∧ z7155.toInt ≤ 7) → (0 ≤ z7156.toInt ∧ z7156.toInt ≤ 999) → (0 ≤ z7157.toInt ∧ z7157.toInt ≤ 0) → (0 ≤ z7158.toInt ∧ z7158.toInt ≤ 0) → TH G ttC A s tag L F H locs → ((∀ b j : Nat, (tag b ≠ 46 ∨ j ≠ 8) → (tag b ≠ 46 ∨ j ≠ 9) → (tag b ≠ 46 ∨ j ≠ 10) → (tag b ≠ 46 ∨ j ≠ 11) → (tag b ≠ 46 ∨ j ≠ 12) → (tag b ≠ 46 ∨ j ≠ 15) → fld F b j = fld Fo b j) ∧ (∀ b j : Nat, elm F b j = elm Fo b j)) → (fld F p0 4 = .ref x0) → (fld F x0 28 = .ref x1) → (fld F x0 29 = .ref x2) → (fld F p0 8 = .int z7154) → (fld F p0 13 = .int z7155) → (fld F p0 10 = .int z7156) → (fld F p0 9 = .int z7157) → (fld F p0 11 = .int z7158) → (x4.toInt ≤ z7154.toInt) → (x3.toInt ≠ 5) → lv_has ls 3 [(0, .ref p0), (1, .int z7152), (2, .int z7153)] → W p l e { frames := 1, cells := 0, slots := 0, locals := 21 } s m args below meth c H locs 0 0 Q (F0 m 261 ls []) := by
    intro z7152 z7153 z7154 z7155 z7156 z7157 z7158 F H locs ls rz7152 rz7153 rz7154 rz7155 rz7156 rz7157 rz7158 hT hfr pf0 pf1 pf2 qz7154 qz7155 qz7156 qz7157 qz7158 ex261_0 ex261_1 hl
    refine lv_aload_n hx hb dX13_goesOn_261 rfl (lv_at hl 0 rfl) ?_
    refine lv_iconst (v := 4) hx hb dX13_goesOn_262 (by decide) ?_
    refine t_put (C := RX13) (T := TX13) (N := 37) (v := .int 4) X hT m0 g0 rfl tyX13 tyX13_ok nmX13 rfl 9 (by decide) qw_478 inlX13 rfl (by first | rfl | decide) (by first | rfl | decide) rfl (⟨_, rfl, (show 0 ≤ (4 : Int32).toInt from (by decide)), (show (4 : Int32).toInt ≤ 5 from (by decide))⟩) dX13_goesOn_263 (fun F H locs hT v7159 h1v7159 h2v7159 => ?_)
    have qz7154 := (h1v7159 _ _ (Or.inr (by decide))).trans qz7154
    have qz7155 := (h1v7159 _ _ (Or.inr (by decide))).trans qz7155
    have qz7156 := (h1v7159 _ _ (Or.inr (by decide))).trans qz7156
    have qz7158 := (h1v7159 _ _ (Or.inr (by decide))).trans qz7158
    have pf0 := (h1v7159 _ _ (Or.inr (by decide))).trans pf0
    have pf1 := (h1v7159 _ _ (Or.inr (by decide))).trans pf1
    have pf2 := (h1v7159 _ _ (Or.inr (by decide))).trans pf2
    have hfr : (∀ b j : Nat, (tag b ≠ 46 ∨ j ≠ 8) → (tag b ≠ 46 ∨ j ≠ 9) → (tag b ≠ 46 ∨ j ≠ 10) → (tag b ≠ 46 ∨ j ≠ 11) → (tag b ≠ 46 ∨ j ≠ 12) → (tag b ≠ 46 ∨ j ≠ 15) → fld F b j = fld Fo b j) ∧ (∀ b j : Nat, elm F b j = elm Fo b j) := ⟨fun b j n46_8 n46_9 n46_10 n46_11 n46_12 n46_15 => (h1v7159 b j (fr_ne g0 n46_9)).trans (hfr.1 b j n46_8 n46_9 n46_10 n46_11 n46_12 n46_15), fun b j  => (h2v7159 b j).trans (hfr.2 b j )⟩
    refine lv_aload_n hx hb dX13_goesOn_266 rfl (lv_at hl 0 rfl) ?_
    refine lv_iload_n hx hb dX13_goesOn_267 rfl (lv_at hl 1 rfl) ?_
    refine t_put (C := RX13) (T := TX13) (N := 37) (v := .int z7152) X hT m0 g0 rfl tyX13 tyX13_ok nmX13 rfl 11 (by decide) qw_513 inlX13 rfl (by first | rfl | decide) (by first | rfl | decide) rfl (⟨_, rfl, (show (-2147483648) ≤ (z7152 : Int32).toInt from (by omega)), (show (z7152 : Int32).toInt ≤ 2147483647 from (by omega))⟩) dX13_goesOn_268 (fun F H locs hT v7160 h1v7160 h2v7160 => ?_)
    have qz7154 := (h1v7160 _ _ (Or.inr (by decide))).trans qz7154
    have qz7155 := (h1v7160 _ _ (Or.inr (by decide))).trans qz7155
    have qz7156 := (h1v7160 _ _ (Or.inr (by decide))).trans qz7156
    have pf0 := (h1v7160 _ _ (Or.inr (by decide))).trans pf0
    have pf1 := (h1v7160 _ _ (Or.inr (by decide))).trans pf1
    have pf2 := (h1v7160 _ _ (Or.inr (by decide))).trans pf2
    have v7159 := (h1v7160 _ _ (Or.inr (by decide))).trans v7159
    have hfr : (∀ b j : Nat, (tag b ≠ 46 ∨ j ≠ 8) → (tag b ≠ 46 ∨ j ≠ 9) → (tag b ≠ 46 ∨ j ≠ 10) → (tag b ≠ 46 ∨ j ≠ 11) → (tag b ≠ 46 ∨ j ≠ 12) → (tag b ≠ 46 ∨ j ≠ 15) → fld F b j = fld Fo b j) ∧ (∀ b j : Nat, elm F b j = elm Fo b j) := ⟨fun b j n46_8 n46_9 n46_10 n46_11 n46_12 n46_15 => (h1v7160 b j (fr_ne g0 n46_11)).trans (hfr.1 b j n46_8 n46_9 n46_10 n46_11 n46_12 n46_15), fun b j  => (h2v7160 b j).trans (hfr.2 b j )⟩
    refine lv_aload_n hx hb dX13_goesOn_271 rfl (lv_at hl 0 rfl) ?_
    refine lv_dup hx hb dX13_goesOn_272 rfl ?_
    refine t_get (C := RX13) (T := TX13) (N := 37) X hT m0 g0 rfl rfl 8 (by decide) qw_472 inlX13 rfl dX13_goesOn_273 (fun v7161 hv7161 ov7161 => ?_)
    obtain rfl : v7161 = .int z7154 := hv7161.symm.trans qz7154
    refine lv_iconst (v := 1) hx hb dX13_goesOn_276 (by decide) ?_
    refine lv_iadd hx hb dX13_goesOn_277 ?_
    refine lv_topi (fun z7162 ez7162 => ?_)
    have hz7162 : z7162.toInt = z7154.toInt + 1 := ar_add ez7162 (rfl : z7154.toInt = z7154.toInt) (by decide : (1 : Int32).toInt = 1) (by omega) (by omega)
    have rz7162 : 1 ≤ z7162.toInt ∧ z7162.toInt ≤ 1000 := by omega
    refine t_put (C := RX13) (T := TX13) (N := 37) (v := .int z7162) X hT m0 g0 rfl tyX13 tyX13_ok nmX13 rfl 8 (by decide) qw_472 inlX13 rfl (by first | rfl | decide) (by first | rfl | decide) rfl (⟨_, rfl, (show 0 ≤ (z7162 : Int32).toInt from (by omega)), (show (z7162 : Int32).toInt ≤ 1000 from (by omega))⟩) dX13_goesOn_278 (fun F H locs hT v7163 h1v7163 h2v7163 => ?_)
    have qz7155 := (h1v7163 _ _ (Or.inr (by decide))).trans qz7155
    have qz7156 := (h1v7163 _ _ (Or.inr (by decide))).trans qz7156
    have pf0 := (h1v7163 _ _ (Or.inr (by decide))).trans pf0
    have pf1 := (h1v7163 _ _ (Or.inr (by decide))).trans pf1
    have pf2 := (h1v7163 _ _ (Or.inr (by decide))).trans pf2
    have v7159 := (h1v7163 _ _ (Or.inr (by decide))).trans v7159
    have v7160 := (h1v7163 _ _ (Or.inr (by decide))).trans v7160
    have hfr : (∀ b j : Nat, (tag b ≠ 46 ∨ j ≠ 8) → (tag b ≠ 46 ∨ j ≠ 9) → (tag b ≠ 46 ∨ j ≠ 10) → (tag b ≠ 46 ∨ j ≠ 11) → (tag b ≠ 46 ∨ j ≠ 12) → (tag b ≠ 46 ∨ j ≠ 15) → fld F b j = fld Fo b j) ∧ (∀ b j : Nat, elm F b j = elm Fo b j) := ⟨fun b j n46_8 n46_9 n46_10 n46_11 n46_12 n46_15 => (h1v7163 b j (fr_ne g0 n46_8)).trans (hfr.1 b j n46_8 n46_9 n46_10 n46_11 n46_12 n46_15), fun b j  => (h2v7163 b j).trans (hfr.2 b j )⟩
    have k7164 : (4 : Int32).toInt = 4 := by decide
    exact t_vret hQ X hT ⟨hfr, ⟨4, z7162, z7155, v7159, v7163, qz7155, (by decide), (by omega), (by omega), (fun h9 => absurd h9 (by omega)), ⟨by omega, fun h9 => Or.inr (by omega)⟩, (fun h9 => absurd h9 (by decide))⟩⟩ (Nat.le_of_ble_eq_true rfl) (Nat.le_of_ble_eq_true rfl) dX13_goesOn_281
  have K9 : ∀ (n : Nat) (z7165 : Int32) (z7166 : Int32) (z7167 : Int32) (F : Nat → va_E) (H : Heap) (locs : List Loc) (ls : Array Slot), (1000 - z7166.toInt < (n : Int)) → (0 ≤ z7165.toInt ∧ z7165.toInt ≤ 4) → (0 ≤ z7166.toInt ∧ z7166.toInt ≤ 1000) → (0 ≤ z7167.toInt ∧ z7167.toInt ≤ 7) → TH G ttC A s tag L F H locs → ((∀ b j : Nat, (tag b ≠ 46 ∨ j ≠ 8) → (tag b ≠ 46 ∨ j ≠ 9) → (tag b ≠ 46 ∨ j ≠ 10) → (tag b ≠ 46 ∨ j ≠ 11) → (tag b ≠ 46 ∨ j ≠ 12) → (tag b ≠ 46 ∨ j ≠ 15) → fld F b j = fld Fo b j) ∧ (∀ b j : Nat, elm F b j = elm Fo b j)) → (fld F p0 4 = .ref x0) → (fld F x0 28 = .ref x1) → (fld F x0 29 = .ref x2) → (fld F p0 9 = .int z7165) → (fld F p0 8 = .int z7166) → (fld F p0 13 = .int z7167) → (x4.toInt ≤ z7166.toInt) → (x3.toInt ≠ 5) → lv_has ls 3 [(0, .ref p0)] → W p l e { frames := 1, cells := 0, slots := 0, locals := 21 } s m args below meth c H locs 0 0 Q (F0 m 9 ls []) := by
    intro n
    induction n with
    | zero =>
      intro z7165 z7166 z7167 F H locs ls hn rz7165 rz7166 rz7167 hT hfr pf0 pf1 pf2 qz7165 qz7166 qz7167 ex9_0 ex9_1 hl
      exfalso
      omega
    | succ n ih9 =>
      intro z7165 z7166 z7167 F H locs ls hn rz7165 rz7166 rz7167 hT hfr pf0 pf1 pf2 qz7165 qz7166 qz7167 ex9_0 ex9_1 hl
      refine lv_aload_n hx hb dX13_goesOn_9 rfl (lv_at hl 0 rfl) ?_
      refine lv_aload_n hx hb dX13_goesOn_10 rfl (lv_at hl 0 rfl) ?_
      refine t_get (C := RX13) (T := TX13) (N := 37) X hT m0 g0 rfl rfl 8 (by decide) qw_472 inlX13 rfl dX13_goesOn_11 (fun v7168 hv7168 ov7168 => ?_)
      obtain rfl : v7168 = .int z7166 := hv7168.symm.trans qz7166
      refine t_cVi (n := 1) (C := RX13) (T := TX13) (N := 37) (As := [.int z7166]) (rest := []) X hT (km11_X13_byteAt l G tag L F hT.2.2.2 p0 z7166 m0 g0 (by omega)) m0 g0 rfl rfl qw_517 qw_518 qw_519 qw_5 qw_520 ⟨rfl, by decide +kernel, by decide +kernel, by decide +kernel⟩ ⟨Nat.le_of_ble_eq_true rfl, Nat.le_of_ble_eq_true rfl⟩ hl rfl rfl (Nat.le_of_ble_eq_true rfl) dX13_goesOn_14 ⟨Nat.le_of_ble_eq_true rfl, Nat.le_of_ble_eq_true rfl⟩ (fun z7169 F9 H locs hT hz7169 => ?_)
      obtain ⟨fz7169, hz7169, xz7169_0⟩ := hz7169
      rw [fz7169] at hT
      refine lv_bipush (v := 32) hx hb dX13_goesOn_17 (by decide) ?_
      refine lv_icmp_ne (tgt := 35) hx hb dX13_goesOn_19 (by decide) (fun c7170 => ?_) (fun c7170 => ?_)
      · have w7171 := cv_ne (rfl : z7169.toInt = z7169.toInt) (by decide : (32 : Int32).toInt = 32) c7170
        refine lv_aload_n hx hb dX13_goesOn_35 rfl (lv_at hl 0 rfl) ?_
        refine lv_aload_n hx hb dX13_goesOn_36 rfl (lv_at hl 0 rfl) ?_
        refine t_get (C := RX13) (T := TX13) (N := 37) X hT m0 g0 rfl rfl 8 (by decide) qw_472 inlX13 rfl dX13_goesOn_37 (fun v7172 hv7172 ov7172 => ?_)
        obtain rfl : v7172 = .int z7166 := hv7172.symm.trans qz7166
        refine t_put (C := RX13) (T := TX13) (N := 37) (v := .int z7166) X hT m0 g0 rfl tyX13 tyX13_ok nmX13 rfl 10 (by decide) qw_512 inlX13 rfl (by first | rfl | decide) (by first | rfl | decide) rfl (⟨_, rfl, (show (-2147483648) ≤ (z7166 : Int32).toInt from (by omega)), (show (z7166 : Int32).toInt ≤ 2147483647 from (by omega))⟩) dX13_goesOn_40 (fun F H locs hT v7173 h1v7173 h2v7173 => ?_)
        have qz7165 := (h1v7173 _ _ (Or.inr (by decide))).trans qz7165
        have qz7166 := (h1v7173 _ _ (Or.inr (by decide))).trans qz7166
        have qz7167 := (h1v7173 _ _ (Or.inr (by decide))).trans qz7167
        have pf0 := (h1v7173 _ _ (Or.inr (by decide))).trans pf0
        have pf1 := (h1v7173 _ _ (Or.inr (by decide))).trans pf1
        have pf2 := (h1v7173 _ _ (Or.inr (by decide))).trans pf2
        have hfr : (∀ b j : Nat, (tag b ≠ 46 ∨ j ≠ 8) → (tag b ≠ 46 ∨ j ≠ 9) → (tag b ≠ 46 ∨ j ≠ 10) → (tag b ≠ 46 ∨ j ≠ 11) → (tag b ≠ 46 ∨ j ≠ 12) → (tag b ≠ 46 ∨ j ≠ 15) → fld F b j = fld Fo b j) ∧ (∀ b j : Nat, elm F b j = elm Fo b j) := ⟨fun b j n46_8 n46_9 n46_10 n46_11 n46_12 n46_15 => (h1v7173 b j (fr_ne g0 n46_10)).trans (hfr.1 b j n46_8 n46_9 n46_10 n46_11 n46_12 n46_15), fun b j  => (h2v7173 b j).trans (hfr.2 b j )⟩
        refine lv_aload_n hx hb dX13_goesOn_43 rfl (lv_at hl 0 rfl) ?_
        refine lv_iconst (v := 0) hx hb dX13_goesOn_44 (by decide) ?_
        refine t_put (C := RX13) (T := TX13) (N := 37) (v := .int 0) X hT m0 g0 rfl tyX13 tyX13_ok nmX13 rfl 9 (by decide) qw_478 inlX13 rfl (by first | rfl | decide) (by first | rfl | decide) rfl (⟨_, rfl, (show 0 ≤ (0 : Int32).toInt from (by decide)), (show (0 : Int32).toInt ≤ 5 from (by decide))⟩) dX13_goesOn_45 (fun F H locs hT v7174 h1v7174 h2v7174 => ?_)
        have qz7166 := (h1v7174 _ _ (Or.inr (by decide))).trans qz7166
        have qz7167 := (h1v7174 _ _ (Or.inr (by decide))).trans qz7167
        have pf0 := (h1v7174 _ _ (Or.inr (by decide))).trans pf0
        have pf1 := (h1v7174 _ _ (Or.inr (by decide))).trans pf1
        have pf2 := (h1v7174 _ _ (Or.inr (by decide))).trans pf2
        have v7173 := (h1v7174 _ _ (Or.inr (by decide))).trans v7173
        have hfr : (∀ b j : Nat, (tag b ≠ 46 ∨ j ≠ 8) → (tag b ≠ 46 ∨ j ≠ 9) → (tag b ≠ 46 ∨ j ≠ 10) → (tag b ≠ 46 ∨ j ≠ 11) → (tag b ≠ 46 ∨ j ≠ 12) → (tag b ≠ 46 ∨ j ≠ 15) → fld F b j = fld Fo b j) ∧ (∀ b j : Nat, elm F b j = elm Fo b j) := ⟨fun b j n46_8 n46_9 n46_10 n46_11 n46_12 n46_15 => (h1v7174 b j (fr_ne g0 n46_9)).trans (hfr.1 b j n46_8 n46_9 n46_10 n46_11 n46_12 n46_15), fun b j  => (h2v7174 b j).trans (hfr.2 b j )⟩
        refine lv_aload_n hx hb dX13_goesOn_48 rfl (lv_at hl 0 rfl) ?_
        refine lv_iconst (v := 0) hx hb dX13_goesOn_49 (by decide) ?_
        refine t_put (C := RX13) (T := TX13) (N := 37) (v := .int 0) X hT m0 g0 rfl tyX13 tyX13_ok nmX13 rfl 11 (by decide) qw_513 inlX13 rfl (by first | rfl | decide) (by first | rfl | decide) rfl (⟨_, rfl, (show (-2147483648) ≤ (0 : Int32).toInt from (by decide)), (show (0 : Int32).toInt ≤ 2147483647 from (by decide))⟩) dX13_goesOn_50 (fun F H locs hT v7175 h1v7175 h2v7175 => ?_)
        have qz7166 := (h1v7175 _ _ (Or.inr (by decide))).trans qz7166
        have qz7167 := (h1v7175 _ _ (Or.inr (by decide))).trans qz7167
        have pf0 := (h1v7175 _ _ (Or.inr (by decide))).trans pf0
        have pf1 := (h1v7175 _ _ (Or.inr (by decide))).trans pf1
        have pf2 := (h1v7175 _ _ (Or.inr (by decide))).trans pf2
        have v7173 := (h1v7175 _ _ (Or.inr (by decide))).trans v7173
        have v7174 := (h1v7175 _ _ (Or.inr (by decide))).trans v7174
        have hfr : (∀ b j : Nat, (tag b ≠ 46 ∨ j ≠ 8) → (tag b ≠ 46 ∨ j ≠ 9) → (tag b ≠ 46 ∨ j ≠ 10) → (tag b ≠ 46 ∨ j ≠ 11) → (tag b ≠ 46 ∨ j ≠ 12) → (tag b ≠ 46 ∨ j ≠ 15) → fld F b j = fld Fo b j) ∧ (∀ b j : Nat, elm F b j = elm Fo b j) := ⟨fun b j n46_8 n46_9 n46_10 n46_11 n46_12 n46_15 => (h1v7175 b j (fr_ne g0 n46_11)).trans (hfr.1 b j n46_8 n46_9 n46_10 n46_11 n46_12 n46_15), fun b j  => (h2v7175 b j).trans (hfr.2 b j )⟩
        refine lv_aload_n hx hb dX13_goesOn_53 rfl (lv_at hl 0 rfl) ?_
        refine lv_aload_n hx hb dX13_goesOn_54 rfl (lv_at hl 0 rfl) ?_
        refine t_get (C := RX13) (T := TX13) (N := 37) X hT m0 g0 rfl rfl 8 (by decide) qw_472 inlX13 rfl dX13_goesOn_55 (fun v7176 hv7176 ov7176 => ?_)
        obtain rfl : v7176 = .int z7166 := hv7176.symm.trans qz7166
        refine t_cVi (n := 1) (C := RX13) (T := TX13) (N := 37) (As := [.int z7166]) (rest := []) X hT (km11_X13_byteAt l G tag L F hT.2.2.2 p0 z7166 m0 g0 (by omega)) m0 g0 rfl rfl qw_517 qw_518 qw_519 qw_5 qw_520 ⟨rfl, by decide +kernel, by decide +kernel, by decide +kernel⟩ ⟨Nat.le_of_ble_eq_true rfl, Nat.le_of_ble_eq_true rfl⟩ hl rfl rfl (Nat.le_of_ble_eq_true rfl) dX13_goesOn_58 ⟨Nat.le_of_ble_eq_true rfl, Nat.le_of_ble_eq_true rfl⟩ (fun z7177 F9 H locs hT hz7177 => ?_)
        obtain ⟨fz7177, hz7177, xz7177_0⟩ := hz7177
        rw [fz7177] at hT
        refine lv_istore_n (lv' := [(1, .int z7177), (0, .ref p0)]) hx hb dX13_goesOn_61 rfl hl (by decide) rfl (fun ls hl => ?_)
        refine lv_iconst (v := 0) hx hb dX13_goesOn_62 (by decide) ?_
        refine lv_istore_n (lv' := [(2, .int 0), (1, .int z7177), (0, .ref p0)]) hx hb dX13_goesOn_63 rfl hl (by decide) rfl (fun ls hl => ?_)
        refine lv_iload_n hx hb dX13_goesOn_64 rfl (lv_at hl 1 rfl) ?_
        refine lv_iconst (v := (-1)) hx hb dX13_goesOn_65 (by decide) ?_
        refine lv_icmp_ne (tgt := 77) hx hb dX13_goesOn_66 (by decide) (fun c7178 => ?_) (fun c7178 => ?_)
        · have w7179 := cv_ne (rfl : z7177.toInt = z7177.toInt) (by decide : ((-1) : Int32).toInt = (-1)) c7178
          have w7180 := xz7177_0 (by omega)
          refine lv_iload_n hx hb dX13_goesOn_77 rfl (lv_at hl 1 rfl) ?_
          refine t_cSi (n := 1) (As := [.int z7177]) (rest := []) X hT (km12_X13_isLetter l G tag L F hT.2.2.2 z7177 ) qw_521 qw_522 qw_5 qw_523 ⟨by decide +kernel, by decide +kernel, by decide +kernel⟩ ⟨Nat.le_of_ble_eq_true rfl, Nat.le_of_ble_eq_true rfl⟩ hl rfl rfl (Nat.le_of_ble_eq_true rfl) dX13_goesOn_78 ⟨Nat.le_of_ble_eq_true rfl, Nat.le_of_ble_eq_true rfl⟩ (fun z7181 F9 H locs hT hz7181 => ?_)
          obtain ⟨fz7181, hz7181, xz7181_0⟩ := hz7181
          rw [fz7181] at hT
          refine lv_if_eq (tgt := 166) hx hb dX13_goesOn_81 (by decide) (fun c7182 => ?_) (fun c7182 => ?_)
          · have w7183 := cv_eq (rfl : z7181.toInt = z7181.toInt) (by decide : (0 : Int32).toInt = 0) c7182
            refine lv_iload_n hx hb dX13_goesOn_166 rfl (lv_at hl 1 rfl) ?_
            refine t_cSi (n := 1) (As := [.int z7177]) (rest := []) X hT (km13_X13_isDigit l G tag L F hT.2.2.2 z7177 ) qw_524 qw_525 qw_5 qw_526 ⟨by decide +kernel, by decide +kernel, by decide +kernel⟩ ⟨Nat.le_of_ble_eq_true rfl, Nat.le_of_ble_eq_true rfl⟩ hl rfl rfl (Nat.le_of_ble_eq_true rfl) dX13_goesOn_167 ⟨Nat.le_of_ble_eq_true rfl, Nat.le_of_ble_eq_true rfl⟩ (fun z7184 F9 H locs hT hz7184 => ?_)
            obtain ⟨fz7184, hz7184, xz7184_0⟩ := hz7184
            rw [fz7184] at hT
            refine lv_if_eq (tgt := 249) hx hb dX13_goesOn_170 (by decide) (fun c7185 => ?_) (fun c7185 => ?_)
            · have w7186 := cv_eq (rfl : z7184.toInt = z7184.toInt) (by decide : (0 : Int32).toInt = 0) c7185
              refine lv_iload_n hx hb dX13_goesOn_249 rfl (lv_at hl 1 rfl) ?_
              refine lv_bipush (v := 59) hx hb dX13_goesOn_250 (by decide) ?_
              refine lv_icmp_eq (tgt := 261) hx hb dX13_goesOn_252 (by decide) (fun c7187 => ?_) (fun c7187 => ?_)
              · have w7188 := cv_eq (rfl : z7177.toInt = z7177.toInt) (by decide : (59 : Int32).toInt = 59) c7187
                have w7189 := xz7177_0 (by omega)
                have k7190 : (0 : Int32).toInt = 0 := by decide
                have k7191 : (0 : Int32).toInt = 0 := by decide
                have k7192 : (0 : Int32).toInt = 0 := by decide
                exact K261 z7177 0 z7166 z7167 z7166 0 0 _ _ _ _ (by omega) (by decide) (by omega) (by omega) (by omega) (by decide) (by decide) hT hfr pf0 pf1 pf2 qz7166 qz7167 v7173 v7174 v7175 (by omega) (by omega) (lv_sub hl [2, 1, 0] rfl)
              · have w7193 := cv_ne (rfl : z7177.toInt = z7177.toInt) (by decide : (59 : Int32).toInt = 59) c7187
                have w7194 := xz7177_0 (by omega)
                refine lv_iload_n hx hb dX13_goesOn_255 rfl (lv_at hl 1 rfl) ?_
                refine lv_bipush (v := 44) hx hb dX13_goesOn_256 (by decide) ?_
                refine lv_icmp_ne (tgt := 281) hx hb dX13_goesOn_258 (by decide) (fun c7195 => ?_) (fun c7195 => ?_)
                · have w7196 := cv_ne (rfl : z7177.toInt = z7177.toInt) (by decide : (44 : Int32).toInt = 44) c7195
                  have w7197 := xz7177_0 (by omega)
                  have k7198 : (0 : Int32).toInt = 0 := by decide
                  exact t_vret hQ X hT ⟨hfr, ⟨0, z7166, z7167, v7174, qz7166, qz7167, (by decide), (by omega), (by omega), (fun h9 => absurd h9 (by omega)), ⟨by omega, fun h9 => absurd h9 (by decide)⟩, (fun h9 => absurd h9 (by decide))⟩⟩ (Nat.le_of_ble_eq_true rfl) (Nat.le_of_ble_eq_true rfl) dX13_goesOn_281
                · have w7199 := cv_eq (rfl : z7177.toInt = z7177.toInt) (by decide : (44 : Int32).toInt = 44) c7195
                  have w7200 := xz7177_0 (by omega)
                  have k7201 : (0 : Int32).toInt = 0 := by decide
                  have k7202 : (0 : Int32).toInt = 0 := by decide
                  have k7203 : (0 : Int32).toInt = 0 := by decide
                  exact K261 z7177 0 z7166 z7167 z7166 0 0 _ _ _ _ (by omega) (by decide) (by omega) (by omega) (by omega) (by decide) (by decide) hT hfr pf0 pf1 pf2 qz7166 qz7167 v7173 v7174 v7175 (by omega) (by omega) (lv_sub hl [2, 1, 0] rfl)
            · have w7204 := cv_ne (rfl : z7184.toInt = z7184.toInt) (by decide : (0 : Int32).toInt = 0) c7185
              have w7205 := xz7184_0 (by omega)
              have w7206 := xz7177_0 (by omega)
              refine lv_aload_n hx hb dX13_goesOn_173 rfl (lv_at hl 2 rfl) ?_
              refine lv_iconst (v := 0) hx hb dX13_goesOn_174 (by decide) ?_
              refine t_put (C := RX13) (T := TX13) (N := 37) (v := .int 0) X hT m0 g0 rfl tyX13 tyX13_ok nmX13 rfl 12 (by decide) qw_516 inlX13 rfl (by first | rfl | decide) (by first | rfl | decide) rfl (⟨_, rfl, (show (-2147483648) ≤ (0 : Int32).toInt from (by decide)), (show (0 : Int32).toInt ≤ 2147483647 from (by decide))⟩) dX13_goesOn_175 (fun F H locs hT v7207 h1v7207 h2v7207 => ?_)
              have qz7166 := (h1v7207 _ _ (Or.inr (by decide))).trans qz7166
              have qz7167 := (h1v7207 _ _ (Or.inr (by decide))).trans qz7167
              have pf0 := (h1v7207 _ _ (Or.inr (by decide))).trans pf0
              have pf1 := (h1v7207 _ _ (Or.inr (by decide))).trans pf1
              have pf2 := (h1v7207 _ _ (Or.inr (by decide))).trans pf2
              have v7173 := (h1v7207 _ _ (Or.inr (by decide))).trans v7173
              have v7174 := (h1v7207 _ _ (Or.inr (by decide))).trans v7174
              have v7175 := (h1v7207 _ _ (Or.inr (by decide))).trans v7175
              have hfr : (∀ b j : Nat, (tag b ≠ 46 ∨ j ≠ 8) → (tag b ≠ 46 ∨ j ≠ 9) → (tag b ≠ 46 ∨ j ≠ 10) → (tag b ≠ 46 ∨ j ≠ 11) → (tag b ≠ 46 ∨ j ≠ 12) → (tag b ≠ 46 ∨ j ≠ 15) → fld F b j = fld Fo b j) ∧ (∀ b j : Nat, elm F b j = elm Fo b j) := ⟨fun b j n46_8 n46_9 n46_10 n46_11 n46_12 n46_15 => (h1v7207 b j (fr_ne g0 n46_12)).trans (hfr.1 b j n46_8 n46_9 n46_10 n46_11 n46_12 n46_15), fun b j  => (h2v7207 b j).trans (hfr.2 b j )⟩
              have k7208 : (0 : Int32).toInt = 0 := by decide
              have k7209 : (0 : Int32).toInt = 0 := by decide
              have k7210 : (0 : Int32).toInt = 0 := by decide
              have k7211 : (0 : Int32).toInt = 0 := by decide
              exact K178 1001 z7177 0 z7166 z7167 z7166 0 0 0 _ _ _ _ (by omega) (by omega) (by omega) (by omega) (by omega) (by decide) (by decide) hT hfr pf0 pf1 pf2 qz7166 qz7167 v7173 v7174 v7175 v7207 (by omega) (by omega) (lv_sub hl [2, 1, 0] rfl)
          · have w7212 := cv_ne (rfl : z7181.toInt = z7181.toInt) (by decide : (0 : Int32).toInt = 0) c7182
            have w7213 := xz7181_0 (by omega)
            have w7214 := xz7177_0 (by omega)
            refine lv_aload_n hx hb dX13_goesOn_84 rfl (lv_at hl 2 rfl) ?_
            refine lv_lconst (v := 0) hx hb dX13_goesOn_85 (by decide) ?_
            refine t_put (C := RX13) (T := TX13) (N := 37) (v := .long (0 : Int64)) X hT m0 g0 rfl tyX13 tyX13_ok nmX13 rfl 15 (by decide) qw_514 inlX13 rfl (by first | rfl | decide) (by first | rfl | decide) rfl (⟨_, rfl⟩) dX13_goesOn_86 (fun F H locs hT v7215 h1v7215 h2v7215 => ?_)
            have qz7166 := (h1v7215 _ _ (Or.inr (by decide))).trans qz7166
            have qz7167 := (h1v7215 _ _ (Or.inr (by decide))).trans qz7167
            have pf0 := (h1v7215 _ _ (Or.inr (by decide))).trans pf0
            have pf1 := (h1v7215 _ _ (Or.inr (by decide))).trans pf1
            have pf2 := (h1v7215 _ _ (Or.inr (by decide))).trans pf2
            have v7173 := (h1v7215 _ _ (Or.inr (by decide))).trans v7173
            have v7174 := (h1v7215 _ _ (Or.inr (by decide))).trans v7174
            have v7175 := (h1v7215 _ _ (Or.inr (by decide))).trans v7175
            have hfr : (∀ b j : Nat, (tag b ≠ 46 ∨ j ≠ 8) → (tag b ≠ 46 ∨ j ≠ 9) → (tag b ≠ 46 ∨ j ≠ 10) → (tag b ≠ 46 ∨ j ≠ 11) → (tag b ≠ 46 ∨ j ≠ 12) → (tag b ≠ 46 ∨ j ≠ 15) → fld F b j = fld Fo b j) ∧ (∀ b j : Nat, elm F b j = elm Fo b j) := ⟨fun b j n46_8 n46_9 n46_10 n46_11 n46_12 n46_15 => (h1v7215 b j (fr_ne g0 n46_15)).trans (hfr.1 b j n46_8 n46_9 n46_10 n46_11 n46_12 n46_15), fun b j  => (h2v7215 b j).trans (hfr.2 b j )⟩
            have k7216 : (0 : Int32).toInt = 0 := by decide
            have k7217 : (0 : Int32).toInt = 0 := by decide
            have k7218 : (0 : Int32).toInt = 0 := by decide
            exact K89 1001 z7177 0 z7166 z7167 z7166 0 0 _ _ _ _ (by omega) (by omega) (by omega) (by omega) (by omega) (by decide) (by decide) hT hfr pf0 pf1 pf2 qz7166 qz7167 v7173 v7174 v7175 (by omega) (by omega) (lv_sub hl [2, 1, 0] rfl)
        · have w7219 := cv_eq (rfl : z7177.toInt = z7177.toInt) (by decide : ((-1) : Int32).toInt = (-1)) c7178
          refine lv_aload_n hx hb dX13_goesOn_69 rfl (lv_at hl 2 rfl) ?_
          refine lv_iconst (v := 1) hx hb dX13_goesOn_70 (by decide) ?_
          refine t_put (C := RX13) (T := TX13) (N := 37) (v := .int 1) X hT m0 g0 rfl tyX13 tyX13_ok nmX13 rfl 9 (by decide) qw_478 inlX13 rfl (by first | rfl | decide) (by first | rfl | decide) rfl (⟨_, rfl, (show 0 ≤ (1 : Int32).toInt from (by decide)), (show (1 : Int32).toInt ≤ 5 from (by decide))⟩) dX13_goesOn_71 (fun F H locs hT v7220 h1v7220 h2v7220 => ?_)
          have qz7166 := (h1v7220 _ _ (Or.inr (by decide))).trans qz7166
          have qz7167 := (h1v7220 _ _ (Or.inr (by decide))).trans qz7167
          have pf0 := (h1v7220 _ _ (Or.inr (by decide))).trans pf0
          have pf1 := (h1v7220 _ _ (Or.inr (by decide))).trans pf1
          have pf2 := (h1v7220 _ _ (Or.inr (by decide))).trans pf2
          have v7173 := (h1v7220 _ _ (Or.inr (by decide))).trans v7173
          have v7175 := (h1v7220 _ _ (Or.inr (by decide))).trans v7175
          have hfr : (∀ b j : Nat, (tag b ≠ 46 ∨ j ≠ 8) → (tag b ≠ 46 ∨ j ≠ 9) → (tag b ≠ 46 ∨ j ≠ 10) → (tag b ≠ 46 ∨ j ≠ 11) → (tag b ≠ 46 ∨ j ≠ 12) → (tag b ≠ 46 ∨ j ≠ 15) → fld F b j = fld Fo b j) ∧ (∀ b j : Nat, elm F b j = elm Fo b j) := ⟨fun b j n46_8 n46_9 n46_10 n46_11 n46_12 n46_15 => (h1v7220 b j (fr_ne g0 n46_9)).trans (hfr.1 b j n46_8 n46_9 n46_10 n46_11 n46_12 n46_15), fun b j  => (h2v7220 b j).trans (hfr.2 b j )⟩
          refine lv_goto (tgt := 281) hx hb dX13_goesOn_74 (by decide) ?_
          have k7221 : (1 : Int32).toInt = 1 := by decide
          exact t_vret hQ X hT ⟨hfr, ⟨1, z7166, z7167, v7220, qz7166, qz7167, (by decide), (by omega), (by omega), (fun h9 => absurd h9 (by omega)), ⟨by omega, fun h9 => absurd h9 (by decide)⟩, (fun h9 => absurd h9 (by decide))⟩⟩ (Nat.le_of_ble_eq_true rfl) (Nat.le_of_ble_eq_true rfl) dX13_goesOn_281
      · have w7222 := cv_eq (rfl : z7169.toInt = z7169.toInt) (by decide : (32 : Int32).toInt = 32) c7170
        have w7223 := xz7169_0 (by omega)
        refine lv_aload_n hx hb dX13_goesOn_22 rfl (lv_at hl 0 rfl) ?_
        refine lv_dup hx hb dX13_goesOn_23 rfl ?_
        refine t_get (C := RX13) (T := TX13) (N := 37) X hT m0 g0 rfl rfl 8 (by decide) qw_472 inlX13 rfl dX13_goesOn_24 (fun v7224 hv7224 ov7224 => ?_)
        obtain rfl : v7224 = .int z7166 := hv7224.symm.trans qz7166
        refine lv_iconst (v := 1) hx hb dX13_goesOn_27 (by decide) ?_
        refine lv_iadd hx hb dX13_goesOn_28 ?_
        refine lv_topi (fun z7225 ez7225 => ?_)
        have hz7225 : z7225.toInt = z7166.toInt + 1 := ar_add ez7225 (rfl : z7166.toInt = z7166.toInt) (by decide : (1 : Int32).toInt = 1) (by omega) (by omega)
        have rz7225 : 1 ≤ z7225.toInt ∧ z7225.toInt ≤ 1000 := by omega
        refine t_put (C := RX13) (T := TX13) (N := 37) (v := .int z7225) X hT m0 g0 rfl tyX13 tyX13_ok nmX13 rfl 8 (by decide) qw_472 inlX13 rfl (by first | rfl | decide) (by first | rfl | decide) rfl (⟨_, rfl, (show 0 ≤ (z7225 : Int32).toInt from (by omega)), (show (z7225 : Int32).toInt ≤ 1000 from (by omega))⟩) dX13_goesOn_29 (fun F H locs hT v7226 h1v7226 h2v7226 => ?_)
        have qz7165 := (h1v7226 _ _ (Or.inr (by decide))).trans qz7165
        have qz7167 := (h1v7226 _ _ (Or.inr (by decide))).trans qz7167
        have pf0 := (h1v7226 _ _ (Or.inr (by decide))).trans pf0
        have pf1 := (h1v7226 _ _ (Or.inr (by decide))).trans pf1
        have pf2 := (h1v7226 _ _ (Or.inr (by decide))).trans pf2
        have hfr : (∀ b j : Nat, (tag b ≠ 46 ∨ j ≠ 8) → (tag b ≠ 46 ∨ j ≠ 9) → (tag b ≠ 46 ∨ j ≠ 10) → (tag b ≠ 46 ∨ j ≠ 11) → (tag b ≠ 46 ∨ j ≠ 12) → (tag b ≠ 46 ∨ j ≠ 15) → fld F b j = fld Fo b j) ∧ (∀ b j : Nat, elm F b j = elm Fo b j) := ⟨fun b j n46_8 n46_9 n46_10 n46_11 n46_12 n46_15 => (h1v7226 b j (fr_ne g0 n46_8)).trans (hfr.1 b j n46_8 n46_9 n46_10 n46_11 n46_12 n46_15), fun b j  => (h2v7226 b j).trans (hfr.2 b j )⟩
        refine lv_goto (tgt := 9) hx hb dX13_goesOn_32 (by decide) ?_
        exact ih9 z7165 z7225 z7167 _ _ _ _ (by omega) (by omega) (by omega) (by omega) hT hfr pf0 pf1 pf2 qz7165 v7226 qz7167 (by omega) (by omega) (lv_sub hl [0] rfl)
  refine lv_aload_n hx hb dX13_goesOn_0 rfl (lv_at hl 0 rfl) ?_
  refine t_get (C := RX13) (T := TX13) (N := 37) X hT m0 g0 rfl rfl 9 (by decide) qw_478 inlX13 rfl dX13_goesOn_1 (fun v7227 hv7227 ov7227 => ?_)
  obtain rfl : v7227 = .int x3 := hv7227.symm.trans pf3
  refine lv_iconst (v := 5) hx hb dX13_goesOn_4 (by decide) ?_
  refine lv_icmp_ne (tgt := 9) hx hb dX13_goesOn_5 (by decide) (fun c7228 => ?_) (fun c7228 => ?_)
  · have w7229 := cv_ne (rfl : x3.toInt = x3.toInt) (by decide : (5 : Int32).toInt = 5) c7228
    exact K9 1001 x3 x4 x5 _ _ _ _ (by omega) (by omega) (by omega) (by omega) hT hfr pf0 pf1 pf2 pf3 pf4 pf5 (by omega) (by omega) (lv_sub hl [0] rfl)
  · have w7230 := cv_eq (rfl : x3.toInt = x3.toInt) (by decide : (5 : Int32).toInt = 5) c7228
    exact t_vret hQ X hT ⟨hfr, ⟨x3, x4, x5, pf3, pf4, pf5, (by omega), (by omega), (by omega), STK.rf, SPT.rf, hkf⟩⟩ (Nat.le_of_ble_eq_true rfl) (Nat.le_of_ble_eq_true rfl) dX13_goesOn_8
