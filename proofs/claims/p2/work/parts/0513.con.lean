set_option maxHeartbeats 4000000 in
set_option maxRecDepth 100000 in
theorem kt100_J0_coder_7d493 (l : Launch) (G : KG) (tag : Nat → Nat) (L : List Nat) (F : Nat → va_E) (ho : okT G ttC tag L F) (p0 : Nat) (h0 : p0 < 77) : TMi l yJ0_coder_7d493 cJ0_coder_7d493 1 (some .byte) { frames := 0, cells := 0, slots := 0, locals := 0 } G ttC tag L F [.ref (G.2 (100 + p0))] (fun r F1 => F1 = F ∧ (0 ≤ r.toInt ∧ r.toInt ≤ 0)) := by
  refine t_bodyi (y := yJ0_coder_7d493) (cd := cJ0_coder_7d493) (mL := 1) (rt := (some .byte)) (rm := { frames := 0, cells := 0, slots := 0, locals := 0 }) (av := [.ref (G.2 (100 + p0))]) (by decide) (Nat.le_of_ble_eq_true rfl) ho ?_
  intro p e s m args below meth c ls A Q hQ X hT hl
  have hx := X.1.1
  have hb := X.1.2.1
  have hl : lv_has ls 1 [(0, .ref (G.2 (100 + p0)))] := hl
  refine m_scs X hT qw_248 dJ0_coder_7d493_0 ?_
  refine lv_if_eq (tgt := 13) hx hb dJ0_coder_7d493_3 (by decide) (fun c9 => absurd c9 (by decide)) (fun _ => ?_)
  refine lv_aload_n hx hb dJ0_coder_7d493_6 rfl (lv_at hl 0 rfl) ?_
  refine m_scod X hT h0 qw_249 dJ0_coder_7d493_7 ?_
  refine lv_goto (tgt := 14) hx hb dJ0_coder_7d493_10 (by decide) ?_
  exact t_bret hQ X hT (by decide) (⟨rfl, (by decide)⟩) (Nat.le_of_ble_eq_true rfl) (Nat.le_of_ble_eq_true rfl) dJ0_coder_7d493_14
set_option maxHeartbeats 4000000 in
set_option maxRecDepth 100000 in
theorem kt101_J0_length_8abf5 (l : Launch) (G : KG) (tag : Nat → Nat) (L : List Nat) (F : Nat → va_E) (ho : okT G ttC tag L F) (p0 : Nat) (h0 : p0 < 77) : TMi l yJ0_length_8abf5 cJ0_length_8abf5 1 (some .int) { frames := 1, cells := 0, slots := 0, locals := 20 } G ttC tag L F [.ref (G.2 (100 + p0))] (fun r F1 => F1 = F ∧ (0 ≤ r.toInt ∧ r.toInt ≤ 8) ∧ (r.toInt = (lenS p0 : Int))) := by
  refine t_bodyi (y := yJ0_length_8abf5) (cd := cJ0_length_8abf5) (mL := 1) (rt := (some .int)) (rm := { frames := 1, cells := 0, slots := 0, locals := 20 }) (av := [.ref (G.2 (100 + p0))]) (by decide) (Nat.le_of_ble_eq_true rfl) ho ?_
  intro p e s m args below meth c ls A Q hQ X hT hl
  have hx := X.1.1
  have hb := X.1.2.1
  have hl : lv_has ls 1 [(0, .ref (G.2 (100 + p0)))] := hl
  refine lv_aload_n hx hb dJ0_length_8abf5_0 rfl (lv_at hl 0 rfl) ?_
  refine m_sval X hT h0 qw_243 dJ0_length_8abf5_1 ?_
  refine m_vlen X hT h0 dJ0_length_8abf5_4 (fun z35346 hz35346 => ?_)
  have rz35346 := lenS_le p0
  refine lv_aload_n hx hb dJ0_length_8abf5_5 rfl (lv_at hl 0 rfl) ?_
  refine t_cKi (n := 0) (As := []) (rest := [.int z35346]) X hT (kt100_J0_coder_7d493 l G tag L F hT.2.2.2 p0 h0) h0 qw_244 qw_245 qw_246 qw_241 qw_247 ⟨rfl, by decide +kernel, by decide +kernel, by decide +kernel⟩ ⟨Nat.le_of_ble_eq_true rfl, Nat.le_of_ble_eq_true rfl⟩ hl rfl rfl (Nat.le_of_ble_eq_true rfl) dJ0_length_8abf5_6 ⟨Nat.le_of_ble_eq_true rfl, Nat.le_of_ble_eq_true rfl⟩ (fun z35347 F9 H locs hT hz35347 => ?_)
  obtain ⟨fz35347, hz35347⟩ := hz35347
  rw [fz35347] at hT
  obtain rfl : z35347 = 0 := i32_of (by rw [show ((0 : Int32).toInt = 0) from by decide]; omega)
  refine lv_ishr hx hb dJ0_length_8abf5_9 ?_
  refine lv_topi (fun z35348 ez35348 => ?_)
  obtain rfl : z35346 = z35348 := (ar_shr0 ez35348).symm
  exact t_iret hQ X hT (⟨rfl, (by omega), (by omega)⟩) (Nat.le_of_ble_eq_true rfl) (Nat.le_of_ble_eq_true rfl) dJ0_length_8abf5_10
set_option maxHeartbeats 4000000 in
set_option maxRecDepth 100000 in
theorem kt102_J0_isLatin1_aae02 (l : Launch) (G : KG) (tag : Nat → Nat) (L : List Nat) (F : Nat → va_E) (ho : okT G ttC tag L F) (p0 : Nat) (h0 : p0 < 77) : TMi l yJ0_isLatin1_aae02 cJ0_isLatin1_aae02 1 (some .boolean) { frames := 0, cells := 0, slots := 0, locals := 0 } G ttC tag L F [.ref (G.2 (100 + p0))] (fun r F1 => F1 = F ∧ (1 ≤ r.toInt ∧ r.toInt ≤ 1)) := by
  refine t_bodyi (y := yJ0_isLatin1_aae02) (cd := cJ0_isLatin1_aae02) (mL := 1) (rt := (some .boolean)) (rm := { frames := 0, cells := 0, slots := 0, locals := 0 }) (av := [.ref (G.2 (100 + p0))]) (by decide) (Nat.le_of_ble_eq_true rfl) ho ?_
  intro p e s m args below meth c ls A Q hQ X hT hl
  have hx := X.1.1
  have hb := X.1.2.1
  have hl : lv_has ls 1 [(0, .ref (G.2 (100 + p0)))] := hl
  refine m_scs X hT qw_248 dJ0_isLatin1_aae02_0 ?_
  refine lv_if_eq (tgt := 17) hx hb dJ0_isLatin1_aae02_3 (by decide) (fun c9 => absurd c9 (by decide)) (fun _ => ?_)
  refine lv_aload_n hx hb dJ0_isLatin1_aae02_6 rfl (lv_at hl 0 rfl) ?_
  refine m_scod X hT h0 qw_249 dJ0_isLatin1_aae02_7 ?_
  refine lv_if_ne (tgt := 17) hx hb dJ0_isLatin1_aae02_10 (by decide) (fun c9 => absurd c9 (by decide)) (fun _ => ?_)
  refine lv_iconst (v := 1) hx hb dJ0_isLatin1_aae02_13 (by decide) ?_
  refine lv_goto (tgt := 18) hx hb dJ0_isLatin1_aae02_14 (by decide) ?_
  exact t_zret hQ X hT (by decide) (⟨rfl, (by decide)⟩) (Nat.le_of_ble_eq_true rfl) (Nat.le_of_ble_eq_true rfl) dJ0_isLatin1_aae02_18
set_option maxHeartbeats 4000000 in
set_option maxRecDepth 100000 in
theorem kt103_J3_checkIndex_8e157 (l : Launch) (G : KG) (tag : Nat → Nat) (L : List Nat) (F : Nat → va_E) (ho : okT G ttC tag L F) (p0 : Int32) (p1 : Int32) (h0 : 0 ≤ p0.toInt ∧ p0.toInt ≤ 2147483647) (xh0 : p0.toInt < p1.toInt) : TMi l yJ3_checkIndex_8e157 cJ3_checkIndex_8e157 3 (some .int) { frames := 0, cells := 0, slots := 0, locals := 0 } G ttC tag L F [.int p0, .int p1, .ref (G.2 20)] (fun r F1 => F1 = F ∧ (0 ≤ r.toInt ∧ r.toInt ≤ 2147483646)) := by
  refine t_bodyi (y := yJ3_checkIndex_8e157) (cd := cJ3_checkIndex_8e157) (mL := 3) (rt := (some .int)) (rm := { frames := 0, cells := 0, slots := 0, locals := 0 }) (av := [.int p0, .int p1, .ref (G.2 20)]) (by decide) (Nat.le_of_ble_eq_true rfl) ho ?_
  intro p e s m args below meth c ls A Q hQ X hT hl
  have hx := X.1.1
  have hb := X.1.2.1
  have hl : lv_has ls 3 [(0, .int p0), (1, .int p1), (2, .ref (G.2 20))] := hl
  have rp1 := rg_all p1
  refine lv_iload_n hx hb dJ3_checkIndex_8e157_0 rfl (lv_at hl 0 rfl) ?_
  refine lv_if_lt (tgt := 9) hx hb dJ3_checkIndex_8e157_1 (by decide) (fun c35439 => ?_) (fun c35439 => ?_)
  · have w35440 := cv_lt (rfl : p0.toInt = p0.toInt) (by decide : (0 : Int32).toInt = 0) c35439
    exfalso
    omega
  · have w35441 := cv_nlt (rfl : p0.toInt = p0.toInt) (by decide : (0 : Int32).toInt = 0) c35439
    refine lv_iload_n hx hb dJ3_checkIndex_8e157_4 rfl (lv_at hl 0 rfl) ?_
    refine lv_iload_n hx hb dJ3_checkIndex_8e157_5 rfl (lv_at hl 1 rfl) ?_
    refine lv_icmp_lt (tgt := 16) hx hb dJ3_checkIndex_8e157_6 (by decide) (fun c35442 => ?_) (fun c35442 => ?_)
    · have w35443 := cv_lt (rfl : p0.toInt = p0.toInt) (rfl : p1.toInt = p1.toInt) c35442
      refine lv_iload_n hx hb dJ3_checkIndex_8e157_16 rfl (lv_at hl 0 rfl) ?_
      exact t_iret hQ X hT (⟨rfl, (by omega)⟩) (Nat.le_of_ble_eq_true rfl) (Nat.le_of_ble_eq_true rfl) dJ3_checkIndex_8e157_17
    · have w35444 := cv_nlt (rfl : p0.toInt = p0.toInt) (rfl : p1.toInt = p1.toInt) c35442
      exfalso
      omega
set_option maxHeartbeats 4000000 in
set_option maxRecDepth 100000 in
theorem kt104_J0_checkIndex_df160 (l : Launch) (G : KG) (tag : Nat → Nat) (L : List Nat) (F : Nat → va_E) (ho : okT G ttC tag L F) (p0 : Int32) (p1 : Int32) (h0 : 0 ≤ p0.toInt ∧ p0.toInt ≤ 2147483647) (xh0 : p0.toInt < p1.toInt) : TMv l yJ0_checkIndex_df160 cJ0_checkIndex_df160 2 { frames := 1, cells := 0, slots := 0, locals := 22 } G ttC tag L F [.int p0, .int p1] (fun F1 => F1 = F) := by
  refine t_bodyv (y := yJ0_checkIndex_df160) (cd := cJ0_checkIndex_df160) (mL := 2) (rm := { frames := 1, cells := 0, slots := 0, locals := 22 }) (av := [.int p0, .int p1]) (by decide) (Nat.le_of_ble_eq_true rfl) ho ?_
  intro p e s m args below meth c ls A Q hQ X hT hl
  have hx := X.1.1
  have hb := X.1.2.1
  have hl : lv_has ls 2 [(0, .int p0), (1, .int p1)] := hl
  have rp1 := rg_all p1
  refine lv_iload_n hx hb dJ0_checkIndex_df160_0 rfl (lv_at hl 0 rfl) ?_
  refine lv_iload_n hx hb dJ0_checkIndex_df160_1 rfl (lv_at hl 1 rfl) ?_
  refine m_sfm X hT qw_265 dJ0_checkIndex_df160_2 ?_
  refine t_cSi (n := 3) (As := [.int p0, .int p1, .ref (G.2 20)]) (rest := []) X hT (kt103_J3_checkIndex_8e157 l G tag L F hT.2.2.2 p0 p1 (by omega) (by omega)) qw_266 qw_267 qw_268 qw_269 ⟨by decide +kernel, by decide +kernel, by decide +kernel⟩ ⟨Nat.le_of_ble_eq_true rfl, Nat.le_of_ble_eq_true rfl⟩ hl rfl rfl (Nat.le_of_ble_eq_true rfl) dJ0_checkIndex_df160_5 ⟨Nat.le_of_ble_eq_true rfl, Nat.le_of_ble_eq_true rfl⟩ (fun z35456 F9 H locs hT hz35456 => ?_)
  obtain ⟨fz35456, hz35456⟩ := hz35456
  rw [fz35456] at hT
  refine lv_pop hx hb dJ0_checkIndex_df160_8 rfl ?_
  exact t_vret hQ X hT rfl (Nat.le_of_ble_eq_true rfl) (Nat.le_of_ble_eq_true rfl) dJ0_checkIndex_df160_9
set_option maxHeartbeats 4000000 in
set_option maxRecDepth 100000 in
theorem kt105_J1_charAt_3b067 (l : Launch) (G : KG) (tag : Nat → Nat) (L : List Nat) (F : Nat → va_E) (ho : okT G ttC tag L F) (p0 : Nat) (p1 : Int32) (h0 : p0 < 77) (h1 : 0 ≤ p1.toInt ∧ p1.toInt ≤ 2147483647) (xh0 : p1.toInt < (lenS p0 : Int)) : TMi l yJ1_charAt_3b067 cJ1_charAt_3b067 2 (some .char) { frames := 2, cells := 0, slots := 0, locals := 43 } G ttC tag L F [.ref (G.2 (300 + p0)), .int p1] (fun r F1 => F1 = F ∧ ((-2147483648) ≤ r.toInt ∧ r.toInt ≤ 2147483647) ∧ (narrow .char (.int r) = .int r)) := by
  refine t_bodyi (y := yJ1_charAt_3b067) (cd := cJ1_charAt_3b067) (mL := 2) (rt := (some .char)) (rm := { frames := 2, cells := 0, slots := 0, locals := 43 }) (av := [.ref (G.2 (300 + p0)), .int p1]) (by decide) (Nat.le_of_ble_eq_true rfl) ho ?_
  intro p e s m args below meth c ls A Q hQ X hT hl
  have hx := X.1.1
  have hb := X.1.2.1
  have hl : lv_has ls 2 [(0, .ref (G.2 (300 + p0))), (1, .int p1)] := hl
  refine lv_iload_n hx hb dJ1_charAt_3b067_0 rfl (lv_at hl 1 rfl) ?_
  refine lv_aload_n hx hb dJ1_charAt_3b067_1 rfl (lv_at hl 0 rfl) ?_
  refine m_vlen X hT h0 dJ1_charAt_3b067_2 (fun z35511 hz35511 => ?_)
  have rz35511 := lenS_le p0
  refine t_cSv (n := 2) (As := [.int p1, .int z35511]) (rest := []) X hT (kt104_J0_checkIndex_df160 l G tag L F hT.2.2.2 p1 z35511 (by omega) (by omega)) qw_262 qw_263 qw_241 qw_264 ⟨by decide +kernel, by decide +kernel, by decide +kernel⟩ ⟨Nat.le_of_ble_eq_true rfl, Nat.le_of_ble_eq_true rfl⟩ hl rfl rfl (Nat.le_of_ble_eq_true rfl) dJ1_charAt_3b067_3 ⟨Nat.le_of_ble_eq_true rfl, Nat.le_of_ble_eq_true rfl⟩ (fun F9 H locs hT hz35512 => ?_)
  rw [hz35512] at hT
  refine lv_aload_n hx hb dJ1_charAt_3b067_6 rfl (lv_at hl 0 rfl) ?_
  refine lv_iload_n hx hb dJ1_charAt_3b067_7 rfl (lv_at hl 1 rfl) ?_
  refine m_vld X hT h0 (by omega) dJ1_charAt_3b067_8 (fun z35513 => ?_)
  have rz35513 := rg_all z35513
  refine lv_sipush (v := 255) hx hb dJ1_charAt_3b067_9 (by decide) ?_
  refine lv_iand hx hb dJ1_charAt_3b067_12 ?_
  refine lv_topi (fun z35514 ez35514 => ?_)
  have rz35514 : 0 ≤ z35514.toInt ∧ z35514.toInt ≤ 255 := ar_and ez35514 8 (by decide) (by decide)
  refine lv_i2c hx hb dJ1_charAt_3b067_13 rfl ?_
  refine lv_topi (fun z35515 ez35515 => ?_)
  have nz35515 : narrow .char (.int z35515) = .int z35515 := by rw [ez35515]; exact pk_nc _
  have rz35515 := rg_all z35515
  exact t_cret hQ X hT nz35515 (⟨rfl, rg_all _, nz35515⟩) (Nat.le_of_ble_eq_true rfl) (Nat.le_of_ble_eq_true rfl) dJ1_charAt_3b067_14
set_option maxHeartbeats 4000000 in
set_option maxRecDepth 100000 in
theorem kt106_J0_charAt_5068e (l : Launch) (G : KG) (tag : Nat → Nat) (L : List Nat) (F : Nat → va_E) (ho : okT G ttC tag L F) (p0 : Nat) (p1 : Int32) (h0 : p0 < 77) (h1 : 0 ≤ p1.toInt ∧ p1.toInt ≤ 2147483647) (xh0 : p1.toInt < (lenS p0 : Int)) : TMi l yJ0_charAt_5068e cJ0_charAt_5068e 2 (some .char) { frames := 3, cells := 0, slots := 0, locals := 64 } G ttC tag L F [.ref (G.2 (100 + p0)), .int p1] (fun r F1 => F1 = F ∧ ((-2147483648) ≤ r.toInt ∧ r.toInt ≤ 2147483647) ∧ (narrow .char (.int r) = .int r)) := by
  refine t_bodyi (y := yJ0_charAt_5068e) (cd := cJ0_charAt_5068e) (mL := 2) (rt := (some .char)) (rm := { frames := 3, cells := 0, slots := 0, locals := 64 }) (av := [.ref (G.2 (100 + p0)), .int p1]) (by decide) (Nat.le_of_ble_eq_true rfl) ho ?_
  intro p e s m args below meth c ls A Q hQ X hT hl
  have hx := X.1.1
  have hb := X.1.2.1
  have hl : lv_has ls 2 [(0, .ref (G.2 (100 + p0))), (1, .int p1)] := hl
  refine lv_aload_n hx hb dJ0_charAt_5068e_0 rfl (lv_at hl 0 rfl) ?_
  refine t_cKi (n := 0) (As := []) (rest := []) X hT (kt102_J0_isLatin1_aae02 l G tag L F hT.2.2.2 p0 h0) h0 qw_254 qw_255 qw_256 qw_241 qw_257 ⟨rfl, by decide +kernel, by decide +kernel, by decide +kernel⟩ ⟨Nat.le_of_ble_eq_true rfl, Nat.le_of_ble_eq_true rfl⟩ hl rfl rfl (Nat.le_of_ble_eq_true rfl) dJ0_charAt_5068e_1 ⟨Nat.le_of_ble_eq_true rfl, Nat.le_of_ble_eq_true rfl⟩ (fun z35567 F9 H locs hT hz35567 => ?_)
  obtain ⟨fz35567, hz35567⟩ := hz35567
  rw [fz35567] at hT
  refine lv_if_eq (tgt := 16) hx hb dJ0_charAt_5068e_4 (by decide) (fun c35568 => ?_) (fun c35568 => ?_)
  · have w35569 := cv_eq (rfl : z35567.toInt = z35567.toInt) (by decide : (0 : Int32).toInt = 0) c35568
    exfalso
    omega
  · have w35570 := cv_ne (rfl : z35567.toInt = z35567.toInt) (by decide : (0 : Int32).toInt = 0) c35568
    refine lv_aload_n hx hb dJ0_charAt_5068e_7 rfl (lv_at hl 0 rfl) ?_
    refine m_sval X hT h0 qw_243 dJ0_charAt_5068e_8 ?_
    refine lv_iload_n hx hb dJ0_charAt_5068e_11 rfl (lv_at hl 1 rfl) ?_
    refine t_cSi (n := 2) (As := [.ref (G.2 (300 + p0)), .int p1]) (rest := []) X hT (kt105_J1_charAt_3b067 l G tag L F hT.2.2.2 p0 p1 h0 (by omega) (by omega)) qw_258 qw_259 qw_260 qw_261 ⟨by decide +kernel, by decide +kernel, by decide +kernel⟩ ⟨Nat.le_of_ble_eq_true rfl, Nat.le_of_ble_eq_true rfl⟩ hl rfl rfl (Nat.le_of_ble_eq_true rfl) dJ0_charAt_5068e_12 ⟨Nat.le_of_ble_eq_true rfl, Nat.le_of_ble_eq_true rfl⟩ (fun z35571 F9 H locs hT hz35571 => ?_)
    obtain ⟨fz35571, hz35571, xz35571_0⟩ := hz35571
    rw [fz35571] at hT
    exact t_cret hQ X hT xz35571_0 (⟨rfl, rg_all _, xz35571_0⟩) (Nat.le_of_ble_eq_true rfl) (Nat.le_of_ble_eq_true rfl) dJ0_charAt_5068e_15
set_option maxHeartbeats 4000000 in
set_option maxRecDepth 100000 in
theorem kt107_X8_isWord (l : Launch) (G : KG) (tag : Nat → Nat) (L : List Nat) (F : Nat → va_E) (ho : okT G ttC tag L F) (p0 : Nat) (p1 : Nat) (x0 : Nat) (m0 : p0 ∈ L) (g0 : tag p0 = 24) (h1 : p1 < 77) (mx0 : x0 ∈ L) (gx0 : tag x0 = 1) (pf0 : fld F p0 0 = .ref x0) : TMi l yX8_isWord cX8_isWord 4 (some .boolean) { frames := 4, cells := 0, slots := 0, locals := 85 } G ttC tag L F [.ref p0, .ref (G.2 (100 + p1))] (fun r F1 => F1 = F ∧ (0 ≤ r.toInt ∧ r.toInt ≤ 1)) := by
  refine t_bodyi (y := yX8_isWord) (cd := cX8_isWord) (mL := 4) (rt := (some .boolean)) (rm := { frames := 4, cells := 0, slots := 0, locals := 85 }) (av := [.ref p0, .ref (G.2 (100 + p1))]) (by decide) (Nat.le_of_ble_eq_true rfl) ho ?_
  intro p e s m args below meth c ls A Q hQ X hT hl
  have hx := X.1.1
  have hb := X.1.2.1
  have hl : lv_has ls 4 [(0, .ref p0), (1, .ref (G.2 (100 + p1)))] := hl
  have K28 : ∀ (n : Nat) (z36077 : Int32) (z36078 : Int32) (z36079 : Int32) (z36080 : Int32) (H : Heap) (locs : List Loc) (ls : Array Slot), (8 - z36077.toInt < (n : Int)) → (0 ≤ z36077.toInt ∧ z36077.toInt ≤ 8) → (1 ≤ z36078.toInt ∧ z36078.toInt ≤ 1) → (0 ≤ z36079.toInt ∧ z36079.toInt ≤ 1000) → (0 ≤ z36080.toInt ∧ z36080.toInt ≤ 1000) → TH G ttC A s tag L F H locs → fld F p0 3 = .int z36078 → fld F p0 2 = .int z36079 → fld F p0 4 = .int z36080 → lv_has ls 4 [(0, .ref p0), (1, .ref (G.2 (100 + p1))), (2, .int z36077)] → W p l e { frames := 4, cells := 0, slots := 0, locals := 85 } s m args below meth c H locs 0 0 Q (F0 m 28 ls []) := by
    intro n
    induction n with
    | zero =>
      intro z36077 z36078 z36079 z36080 H locs ls hn rz36077 rz36078 rz36079 rz36080 hT qz36078 qz36079 qz36080 hl
      exfalso
      omega
    | succ n ih28 =>
      intro z36077 z36078 z36079 z36080 H locs ls hn rz36077 rz36078 rz36079 rz36080 hT qz36078 qz36079 qz36080 hl
      refine lv_iload_n hx hb dX8_isWord_28 rfl (lv_at hl 2 rfl) ?_
      refine lv_aload_n hx hb dX8_isWord_29 rfl (lv_at hl 1 rfl) ?_
      refine t_cKi (n := 0) (As := []) (rest := [.int z36077]) X hT (kt101_J0_length_8abf5 l G tag L F hT.2.2.2 p1 h1) h1 qw_238 qw_239 qw_240 qw_241 qw_242 ⟨rfl, by decide +kernel, by decide +kernel, by decide +kernel⟩ ⟨Nat.le_of_ble_eq_true rfl, Nat.le_of_ble_eq_true rfl⟩ hl rfl rfl (Nat.le_of_ble_eq_true rfl) dX8_isWord_30 ⟨Nat.le_of_ble_eq_true rfl, Nat.le_of_ble_eq_true rfl⟩ (fun z36081 F9 H locs hT hz36081 => ?_)
      obtain ⟨fz36081, hz36081, xz36081_0⟩ := hz36081
      rw [fz36081] at hT
      refine lv_icmp_ge (tgt := 74) hx hb dX8_isWord_33 (by decide) (fun c36082 => ?_) (fun c36082 => ?_)
      · have w36083 := cv_le (rfl : z36081.toInt = z36081.toInt) (rfl : z36077.toInt = z36077.toInt) c36082
        refine lv_iconst (v := 1) hx hb dX8_isWord_74 (by decide) ?_
        exact t_zret hQ X hT (by decide) (⟨rfl, (by decide)⟩) (Nat.le_of_ble_eq_true rfl) (Nat.le_of_ble_eq_true rfl) dX8_isWord_75
      · have w36084 := cv_nle (rfl : z36081.toInt = z36081.toInt) (rfl : z36077.toInt = z36077.toInt) c36082
        refine lv_aload_n hx hb dX8_isWord_36 rfl (lv_at hl 0 rfl) ?_
        refine t_get (C := RX8) (T := TX8) (N := 8) X hT m0 g0 rfl rfl 4 (by decide) qw_200 inlX8 rfl dX8_isWord_37 (fun v36085 hv36085 ov36085 => ?_)
        obtain rfl : v36085 = .int z36080 := hv36085.symm.trans qz36080
        refine lv_iload_n hx hb dX8_isWord_40 rfl (lv_at hl 2 rfl) ?_
        refine lv_iadd hx hb dX8_isWord_41 ?_
        refine lv_topi (fun z36086 ez36086 => ?_)
        have hz36086 : z36086.toInt = z36080.toInt + z36077.toInt := ar_add ez36086 (rfl : z36080.toInt = z36080.toInt) (rfl : z36077.toInt = z36077.toInt) (by omega) (by omega)
        have rz36086 : 0 ≤ z36086.toInt ∧ z36086.toInt ≤ 1007 := by omega
        refine lv_istore_n (lv' := [(3, .int z36086), (0, .ref p0), (1, .ref (G.2 (100 + p1))), (2, .int z36077)]) hx hb dX8_isWord_42 rfl hl (by decide) rfl (fun ls hl => ?_)
        refine lv_iload_n hx hb dX8_isWord_43 rfl (lv_at hl 0 rfl) ?_
        refine lv_aload_n hx hb dX8_isWord_44 rfl (lv_at hl 1 rfl) ?_
        refine t_get (C := RX8) (T := TX8) (N := 8) X hT m0 g0 rfl rfl 0 (by decide) qw_193 inlX8 rfl dX8_isWord_45 (fun v36087 hv36087 ov36087 => ?_)
        obtain rfl : v36087 = .ref x0 := hv36087.symm.trans pf0
        refine t_alen X hT mx0 gx0 rfl (by decide) dX8_isWord_48 ?_
        refine lv_topi (fun z36088 ez36088 => ?_)
        obtain rfl : z36088 = 1000 := ez36088.trans (by rfl)
        refine lv_icmp_ge (tgt := 66) hx hb dX8_isWord_49 (by decide) (fun c36089 => ?_) (fun c36089 => ?_)
        · have w36090 := cv_le (by decide : (1000 : Int32).toInt = 1000) (rfl : z36086.toInt = z36086.toInt) c36089
          refine lv_iconst (v := 0) hx hb dX8_isWord_66 (by decide) ?_
          exact t_zret hQ X hT (by decide) (⟨rfl, (by decide)⟩) (Nat.le_of_ble_eq_true rfl) (Nat.le_of_ble_eq_true rfl) dX8_isWord_67
        · have w36091 := cv_nle (by decide : (1000 : Int32).toInt = 1000) (rfl : z36086.toInt = z36086.toInt) c36089
          refine lv_aload_n hx hb dX8_isWord_52 rfl (lv_at hl 1 rfl) ?_
          refine t_get (C := RX8) (T := TX8) (N := 8) X hT m0 g0 rfl rfl 0 (by decide) qw_193 inlX8 rfl dX8_isWord_53 (fun v36092 hv36092 ov36092 => ?_)
          obtain rfl : v36092 = .ref x0 := hv36092.symm.trans pf0
          refine lv_iload_n hx hb dX8_isWord_56 rfl (lv_at hl 0 rfl) ?_
          refine t_ild X hT mx0 gx0 rfl (by omega) dX8_isWord_57 (fun z36093 vz36093 rz36093 => ?_)
          have rz36093 : 0 ≤ z36093.toInt ∧ z36093.toInt ≤ 255 := rz36093
          refine lv_aload_n hx hb dX8_isWord_58 rfl (lv_at hl 2 rfl) ?_
          refine lv_iload_n hx hb dX8_isWord_59 rfl (lv_at hl 3 rfl) ?_
          refine t_cKi (n := 1) (As := [.int z36077]) (rest := [.int z36093]) X hT (kt106_J0_charAt_5068e l G tag L F hT.2.2.2 p1 z36077 h1 (by omega) (by omega)) h1 qw_250 qw_251 qw_252 qw_241 qw_253 ⟨rfl, by decide +kernel, by decide +kernel, by decide +kernel⟩ ⟨Nat.le_of_ble_eq_true rfl, Nat.le_of_ble_eq_true rfl⟩ hl rfl rfl (Nat.le_of_ble_eq_true rfl) dX8_isWord_60 ⟨Nat.le_of_ble_eq_true rfl, Nat.le_of_ble_eq_true rfl⟩ (fun z36094 F9 H locs hT hz36094 => ?_)
          obtain ⟨fz36094, hz36094, xz36094_0⟩ := hz36094
          rw [fz36094] at hT
          refine lv_icmp_eq (tgt := 68) hx hb dX8_isWord_63 (by decide) (fun c36095 => ?_) (fun c36095 => ?_)
          · have w36096 := cv_eq (rfl : z36093.toInt = z36093.toInt) (rfl : z36094.toInt = z36094.toInt) c36095
            obtain ⟨z36097, ez36097⟩ : ∃ y : Int32, y = z36077 + 1 := ⟨_, rfl⟩
            have hz36097 : z36097.toInt = z36077.toInt + 1 := ar_add ez36097 rfl (by decide : (1 : Int32).toInt = 1) (by omega) (by omega)
            refine lv_iinc (v := z36097) (lv' := [(2, .int z36097), (3, .int z36086), (0, .ref p0), (1, .ref (G.2 (100 + p1)))]) hx hb dX8_isWord_68 hl (k := 3) rfl (by rw [ez36097]; rfl) (by decide) rfl (fun ls hl => ?_)
            refine lv_goto (tgt := 28) hx hb dX8_isWord_71 (by decide) ?_
            exact ih28 z36097 z36078 z36079 z36080 _ _ _ (by omega) (by omega) (by omega) (by omega) (by omega) hT qz36078 qz36079 qz36080 (lv_sub hl [2, 3, 0] rfl)
          · have w36098 := cv_ne (rfl : z36093.toInt = z36093.toInt) (rfl : z36094.toInt = z36094.toInt) c36095
            refine lv_iconst (v := 0) hx hb dX8_isWord_66 (by decide) ?_
            exact t_zret hQ X hT (by decide) (⟨rfl, (by decide)⟩) (Nat.le_of_ble_eq_true rfl) (Nat.le_of_ble_eq_true rfl) dX8_isWord_67
  refine lv_aload_n hx hb dX8_isWord_0 rfl (lv_at hl 0 rfl) ?_
  refine t_get (C := RX8) (T := TX8) (N := 8) X hT m0 g0 rfl rfl 3 (by decide) qw_202 inlX8 rfl dX8_isWord_1 (fun v36099 hv36099 ov36099 => ?_)
  obtain ⟨z36100, rfl, rz36100⟩ := okV_i ov36099
  refine lv_iconst (v := 1) hx hb dX8_isWord_4 (by decide) ?_
  refine lv_icmp_ne (tgt := 24) hx hb dX8_isWord_5 (by decide) (fun c36101 => ?_) (fun c36101 => ?_)
  · have w36102 := cv_ne (rfl : z36100.toInt = z36100.toInt) (by decide : (1 : Int32).toInt = 1) c36101
    refine lv_iconst (v := 0) hx hb dX8_isWord_24 (by decide) ?_
    exact t_zret hQ X hT (by decide) (⟨rfl, (by decide)⟩) (Nat.le_of_ble_eq_true rfl) (Nat.le_of_ble_eq_true rfl) dX8_isWord_25
  · have w36103 := cv_eq (rfl : z36100.toInt = z36100.toInt) (by decide : (1 : Int32).toInt = 1) c36101
    refine lv_aload_n hx hb dX8_isWord_8 rfl (lv_at hl 0 rfl) ?_
    refine t_get (C := RX8) (T := TX8) (N := 8) X hT m0 g0 rfl rfl 2 (by decide) qw_195 inlX8 rfl dX8_isWord_9 (fun v36104 hv36104 ov36104 => ?_)
    obtain ⟨z36105, rfl, rz36105⟩ := okV_i ov36104
    refine lv_aload_n hx hb dX8_isWord_12 rfl (lv_at hl 0 rfl) ?_
    refine t_get (C := RX8) (T := TX8) (N := 8) X hT m0 g0 rfl rfl 4 (by decide) qw_200 inlX8 rfl dX8_isWord_13 (fun v36106 hv36106 ov36106 => ?_)
    obtain ⟨z36107, rfl, rz36107⟩ := okV_i ov36106
    refine lv_isub hx hb dX8_isWord_16 ?_
    refine lv_topi (fun z36108 ez36108 => ?_)
    have hz36108 : z36108.toInt = z36105.toInt - z36107.toInt := ar_sub ez36108 (rfl : z36105.toInt = z36105.toInt) (rfl : z36107.toInt = z36107.toInt) (by omega) (by omega)
    have rz36108 : (-1000) ≤ z36108.toInt ∧ z36108.toInt ≤ 1000 := by omega
    refine lv_aload_n hx hb dX8_isWord_17 rfl (lv_at hl 1 rfl) ?_
    refine t_cKi (n := 0) (As := []) (rest := [.int z36108]) X hT (kt101_J0_length_8abf5 l G tag L F hT.2.2.2 p1 h1) h1 qw_238 qw_239 qw_240 qw_241 qw_242 ⟨rfl, by decide +kernel, by decide +kernel, by decide +kernel⟩ ⟨Nat.le_of_ble_eq_true rfl, Nat.le_of_ble_eq_true rfl⟩ hl rfl rfl (Nat.le_of_ble_eq_true rfl) dX8_isWord_18 ⟨Nat.le_of_ble_eq_true rfl, Nat.le_of_ble_eq_true rfl⟩ (fun z36109 F9 H locs hT hz36109 => ?_)
    obtain ⟨fz36109, hz36109, xz36109_0⟩ := hz36109
    rw [fz36109] at hT
    refine lv_icmp_eq (tgt := 26) hx hb dX8_isWord_21 (by decide) (fun c36110 => ?_) (fun c36110 => ?_)
    · have w36111 := cv_eq (rfl : z36108.toInt = z36108.toInt) (rfl : z36109.toInt = z36109.toInt) c36110
      refine lv_iconst (v := 0) hx hb dX8_isWord_26 (by decide) ?_
      refine lv_istore_n (lv' := [(2, .int 0), (0, .ref p0), (1, .ref (G.2 (100 + p1)))]) hx hb dX8_isWord_27 rfl hl (by decide) rfl (fun ls hl => ?_)
      have kk36112 : (0 : Int32).toInt = 0 := by decide
      exact K28 9 0 z36100 z36105 z36107 _ _ _ (by omega) (by decide) (by omega) (by omega) (by omega) hT hv36099 hv36104 hv36106 (lv_sub hl [1, 2, 0] rfl)
    · have w36113 := cv_ne (rfl : z36108.toInt = z36108.toInt) (rfl : z36109.toInt = z36109.toInt) c36110
      refine lv_iconst (v := 0) hx hb dX8_isWord_24 (by decide) ?_
      exact t_zret hQ X hT (by decide) (⟨rfl, (by decide)⟩) (Nat.le_of_ble_eq_true rfl) (Nat.le_of_ble_eq_true rfl) dX8_isWord_25
set_option maxHeartbeats 4000000 in
set_option maxRecDepth 100000 in
theorem kt108_X3_lineSort (l : Launch) (G : KG) (tag : Nat → Nat) (L : List Nat) (F : Nat → va_E) (ho : okT G ttC tag L F) (p0 : Nat) (x0 : Nat) (x1 : Nat) (x2 : Nat) (x3 : Nat) (x4 : Nat) (x5 : Nat) (m0 : p0 ∈ L) (g0 : tag p0 = 25) (mx0 : x0 ∈ L) (gx0 : tag x0 = 24) (pf0 : fld F p0 0 = .ref x0) (mx1 : x1 ∈ L) (gx1 : tag x1 = 18) (pf1 : fld F p0 1 = .ref x1) (mx2 : x2 ∈ L) (gx2 : tag x2 = 19) (pf2 : fld F p0 2 = .ref x2) (mx3 : x3 ∈ L) (gx3 : tag x3 = 1) (pf3 : fld F x0 0 = .ref x3) (mx4 : x4 ∈ L) (gx4 : tag x4 = 14) (pf4 : fld F p0 10 = .ref x4) (mx5 : x5 ∈ L) (gx5 : tag x5 = 15) (pf5 : fld F p0 11 = .ref x5) : TMi l yX3_lineSort cX3_lineSort 1 (some .int) { frames := 5, cells := 0, slots := 0, locals := 108 } G ttC tag L F [.ref p0] (fun r F1 => F1 = F ∧ ((-1) ≤ r.toInt ∧ r.toInt ≤ 10)) := by
  refine t_bodyi (y := yX3_lineSort) (cd := cX3_lineSort) (mL := 1) (rt := (some .int)) (rm := { frames := 5, cells := 0, slots := 0, locals := 108 }) (av := [.ref p0]) (by decide) (Nat.le_of_ble_eq_true rfl) ho ?_
  intro p e s m args below meth c ls A Q hQ X hT hl
  have hx := X.1.1
  have hb := X.1.2.1
  have hl : lv_has ls 1 [(0, .ref p0)] := hl
  refine lv_aload_n hx hb dX3_lineSort_0 rfl (lv_at hl 0 rfl) ?_
  refine t_get (C := RX3) (T := TX3) (N := 13) X hT m0 g0 rfl rfl 0 (by decide) qw_73 inlX3 rfl dX3_lineSort_1 (fun v36718 hv36718 ov36718 => ?_)
  obtain rfl : v36718 = .ref x0 := hv36718.symm.trans pf0
  refine m_ldcK X 0 rfl dX3_lineSort_4 ?_
  refine t_cVi (n := 1) (C := RX8) (T := TX8) (N := 8) (As := [.ref (G.2 (100 + 0))]) (rest := []) X hT (kt107_X8_isWord l G tag L F hT.2.2.2 x0 0 x3 mx0 gx0 (by decide) mx3 gx3 pf3) mx0 gx0 rfl rfl qw_234 qw_235 qw_236 qw_72 qw_237 ⟨rfl, by decide +kernel, by decide +kernel, by decide +kernel⟩ ⟨Nat.le_of_ble_eq_true rfl, Nat.le_of_ble_eq_true rfl⟩ hl rfl rfl (Nat.le_of_ble_eq_true rfl) dX3_lineSort_6 ⟨Nat.le_of_ble_eq_true rfl, Nat.le_of_ble_eq_true rfl⟩ (fun z36719 F9 H locs hT hz36719 => ?_)
  obtain ⟨fz36719, hz36719⟩ := hz36719
  rw [fz36719] at hT
  refine lv_if_eq (tgt := 14) hx hb dX3_lineSort_9 (by decide) (fun c36720 => ?_) (fun c36720 => ?_)
  · have w36721 := cv_eq (rfl : z36719.toInt = z36719.toInt) (by decide : (0 : Int32).toInt = 0) c36720
    refine lv_aload_n hx hb dX3_lineSort_14 rfl (lv_at hl 0 rfl) ?_
    refine t_get (C := RX3) (T := TX3) (N := 13) X hT m0 g0 rfl rfl 0 (by decide) qw_73 inlX3 rfl dX3_lineSort_15 (fun v36722 hv36722 ov36722 => ?_)
    obtain rfl : v36722 = .ref x0 := hv36722.symm.trans pf0
    refine m_ldcK X 1 rfl dX3_lineSort_18 ?_
    refine t_cVi (n := 1) (C := RX8) (T := TX8) (N := 8) (As := [.ref (G.2 (100 + 1))]) (rest := []) X hT (kt107_X8_isWord l G tag L F hT.2.2.2 x0 1 x3 mx0 gx0 (by decide) mx3 gx3 pf3) mx0 gx0 rfl rfl qw_234 qw_235 qw_236 qw_72 qw_237 ⟨rfl, by decide +kernel, by decide +kernel, by decide +kernel⟩ ⟨Nat.le_of_ble_eq_true rfl, Nat.le_of_ble_eq_true rfl⟩ hl rfl rfl (Nat.le_of_ble_eq_true rfl) dX3_lineSort_20 ⟨Nat.le_of_ble_eq_true rfl, Nat.le_of_ble_eq_true rfl⟩ (fun z36723 F9 H locs hT hz36723 => ?_)
    obtain ⟨fz36723, hz36723⟩ := hz36723
    rw [fz36723] at hT
    refine lv_if_eq (tgt := 28) hx hb dX3_lineSort_23 (by decide) (fun c36724 => ?_) (fun c36724 => ?_)
    · have w36725 := cv_eq (rfl : z36723.toInt = z36723.toInt) (by decide : (0 : Int32).toInt = 0) c36724
      refine lv_aload_n hx hb dX3_lineSort_28 rfl (lv_at hl 0 rfl) ?_
      refine t_get (C := RX3) (T := TX3) (N := 13) X hT m0 g0 rfl rfl 0 (by decide) qw_73 inlX3 rfl dX3_lineSort_29 (fun v36726 hv36726 ov36726 => ?_)
      obtain rfl : v36726 = .ref x0 := hv36726.symm.trans pf0
      refine m_ldcK X 2 rfl dX3_lineSort_32 ?_
      refine t_cVi (n := 1) (C := RX8) (T := TX8) (N := 8) (As := [.ref (G.2 (100 + 2))]) (rest := []) X hT (kt107_X8_isWord l G tag L F hT.2.2.2 x0 2 x3 mx0 gx0 (by decide) mx3 gx3 pf3) mx0 gx0 rfl rfl qw_234 qw_235 qw_236 qw_72 qw_237 ⟨rfl, by decide +kernel, by decide +kernel, by decide +kernel⟩ ⟨Nat.le_of_ble_eq_true rfl, Nat.le_of_ble_eq_true rfl⟩ hl rfl rfl (Nat.le_of_ble_eq_true rfl) dX3_lineSort_34 ⟨Nat.le_of_ble_eq_true rfl, Nat.le_of_ble_eq_true rfl⟩ (fun z36727 F9 H locs hT hz36727 => ?_)
      obtain ⟨fz36727, hz36727⟩ := hz36727
      rw [fz36727] at hT
      refine lv_if_eq (tgt := 42) hx hb dX3_lineSort_37 (by decide) (fun c36728 => ?_) (fun c36728 => ?_)
      · have w36729 := cv_eq (rfl : z36727.toInt = z36727.toInt) (by decide : (0 : Int32).toInt = 0) c36728
        refine lv_aload_n hx hb dX3_lineSort_42 rfl (lv_at hl 0 rfl) ?_
        refine t_get (C := RX3) (T := TX3) (N := 13) X hT m0 g0 rfl rfl 0 (by decide) qw_73 inlX3 rfl dX3_lineSort_43 (fun v36730 hv36730 ov36730 => ?_)
        obtain rfl : v36730 = .ref x0 := hv36730.symm.trans pf0
        refine m_ldcK X 3 rfl dX3_lineSort_46 ?_
        refine t_cVi (n := 1) (C := RX8) (T := TX8) (N := 8) (As := [.ref (G.2 (100 + 3))]) (rest := []) X hT (kt107_X8_isWord l G tag L F hT.2.2.2 x0 3 x3 mx0 gx0 (by decide) mx3 gx3 pf3) mx0 gx0 rfl rfl qw_234 qw_235 qw_236 qw_72 qw_237 ⟨rfl, by decide +kernel, by decide +kernel, by decide +kernel⟩ ⟨Nat.le_of_ble_eq_true rfl, Nat.le_of_ble_eq_true rfl⟩ hl rfl rfl (Nat.le_of_ble_eq_true rfl) dX3_lineSort_48 ⟨Nat.le_of_ble_eq_true rfl, Nat.le_of_ble_eq_true rfl⟩ (fun z36731 F9 H locs hT hz36731 => ?_)
        obtain ⟨fz36731, hz36731⟩ := hz36731
        rw [fz36731] at hT
        refine lv_if_eq (tgt := 56) hx hb dX3_lineSort_51 (by decide) (fun c36732 => ?_) (fun c36732 => ?_)
        · have w36733 := cv_eq (rfl : z36731.toInt = z36731.toInt) (by decide : (0 : Int32).toInt = 0) c36732
          refine lv_aload_n hx hb dX3_lineSort_56 rfl (lv_at hl 0 rfl) ?_
          refine t_get (C := RX3) (T := TX3) (N := 13) X hT m0 g0 rfl rfl 0 (by decide) qw_73 inlX3 rfl dX3_lineSort_57 (fun v36734 hv36734 ov36734 => ?_)
          obtain rfl : v36734 = .ref x0 := hv36734.symm.trans pf0
          refine m_ldcK X 4 rfl dX3_lineSort_60 ?_
          refine t_cVi (n := 1) (C := RX8) (T := TX8) (N := 8) (As := [.ref (G.2 (100 + 4))]) (rest := []) X hT (kt107_X8_isWord l G tag L F hT.2.2.2 x0 4 x3 mx0 gx0 (by decide) mx3 gx3 pf3) mx0 gx0 rfl rfl qw_234 qw_235 qw_236 qw_72 qw_237 ⟨rfl, by decide +kernel, by decide +kernel, by decide +kernel⟩ ⟨Nat.le_of_ble_eq_true rfl, Nat.le_of_ble_eq_true rfl⟩ hl rfl rfl (Nat.le_of_ble_eq_true rfl) dX3_lineSort_62 ⟨Nat.le_of_ble_eq_true rfl, Nat.le_of_ble_eq_true rfl⟩ (fun z36735 F9 H locs hT hz36735 => ?_)
          obtain ⟨fz36735, hz36735⟩ := hz36735
          rw [fz36735] at hT
          refine lv_if_eq (tgt := 70) hx hb dX3_lineSort_65 (by decide) (fun c36736 => ?_) (fun c36736 => ?_)
          · have w36737 := cv_eq (rfl : z36735.toInt = z36735.toInt) (by decide : (0 : Int32).toInt = 0) c36736
            refine lv_aload_n hx hb dX3_lineSort_70 rfl (lv_at hl 0 rfl) ?_
            refine t_get (C := RX3) (T := TX3) (N := 13) X hT m0 g0 rfl rfl 0 (by decide) qw_73 inlX3 rfl dX3_lineSort_71 (fun v36738 hv36738 ov36738 => ?_)
            obtain rfl : v36738 = .ref x0 := hv36738.symm.trans pf0
            refine m_ldcK X 5 rfl dX3_lineSort_74 ?_
            refine t_cVi (n := 1) (C := RX8) (T := TX8) (N := 8) (As := [.ref (G.2 (100 + 5))]) (rest := []) X hT (kt107_X8_isWord l G tag L F hT.2.2.2 x0 5 x3 mx0 gx0 (by decide) mx3 gx3 pf3) mx0 gx0 rfl rfl qw_234 qw_235 qw_236 qw_72 qw_237 ⟨rfl, by decide +kernel, by decide +kernel, by decide +kernel⟩ ⟨Nat.le_of_ble_eq_true rfl, Nat.le_of_ble_eq_true rfl⟩ hl rfl rfl (Nat.le_of_ble_eq_true rfl) dX3_lineSort_76 ⟨Nat.le_of_ble_eq_true rfl, Nat.le_of_ble_eq_true rfl⟩ (fun z36739 F9 H locs hT hz36739 => ?_)
            obtain ⟨fz36739, hz36739⟩ := hz36739
            rw [fz36739] at hT
            refine lv_if_eq (tgt := 84) hx hb dX3_lineSort_79 (by decide) (fun c36740 => ?_) (fun c36740 => ?_)
            · have w36741 := cv_eq (rfl : z36739.toInt = z36739.toInt) (by decide : (0 : Int32).toInt = 0) c36740
              refine lv_aload_n hx hb dX3_lineSort_84 rfl (lv_at hl 0 rfl) ?_
              refine t_get (C := RX3) (T := TX3) (N := 13) X hT m0 g0 rfl rfl 0 (by decide) qw_73 inlX3 rfl dX3_lineSort_85 (fun v36742 hv36742 ov36742 => ?_)
              obtain rfl : v36742 = .ref x0 := hv36742.symm.trans pf0
              refine m_ldcK X 6 rfl dX3_lineSort_88 ?_
              refine t_cVi (n := 1) (C := RX8) (T := TX8) (N := 8) (As := [.ref (G.2 (100 + 6))]) (rest := []) X hT (kt107_X8_isWord l G tag L F hT.2.2.2 x0 6 x3 mx0 gx0 (by decide) mx3 gx3 pf3) mx0 gx0 rfl rfl qw_234 qw_235 qw_236 qw_72 qw_237 ⟨rfl, by decide +kernel, by decide +kernel, by decide +kernel⟩ ⟨Nat.le_of_ble_eq_true rfl, Nat.le_of_ble_eq_true rfl⟩ hl rfl rfl (Nat.le_of_ble_eq_true rfl) dX3_lineSort_90 ⟨Nat.le_of_ble_eq_true rfl, Nat.le_of_ble_eq_true rfl⟩ (fun z36743 F9 H locs hT hz36743 => ?_)
              obtain ⟨fz36743, hz36743⟩ := hz36743
              rw [fz36743] at hT
              refine lv_if_eq (tgt := 99) hx hb dX3_lineSort_93 (by decide) (fun c36744 => ?_) (fun c36744 => ?_)
              · have w36745 := cv_eq (rfl : z36743.toInt = z36743.toInt) (by decide : (0 : Int32).toInt = 0) c36744
                refine lv_aload_n hx hb dX3_lineSort_99 rfl (lv_at hl 0 rfl) ?_
                refine t_get (C := RX3) (T := TX3) (N := 13) X hT m0 g0 rfl rfl 0 (by decide) qw_73 inlX3 rfl dX3_lineSort_100 (fun v36746 hv36746 ov36746 => ?_)
                obtain rfl : v36746 = .ref x0 := hv36746.symm.trans pf0
                refine m_ldcK X 7 rfl dX3_lineSort_103 ?_
                refine t_cVi (n := 1) (C := RX8) (T := TX8) (N := 8) (As := [.ref (G.2 (100 + 7))]) (rest := []) X hT (kt107_X8_isWord l G tag L F hT.2.2.2 x0 7 x3 mx0 gx0 (by decide) mx3 gx3 pf3) mx0 gx0 rfl rfl qw_234 qw_235 qw_236 qw_72 qw_237 ⟨rfl, by decide +kernel, by decide +kernel, by decide +kernel⟩ ⟨Nat.le_of_ble_eq_true rfl, Nat.le_of_ble_eq_true rfl⟩ hl rfl rfl (Nat.le_of_ble_eq_true rfl) dX3_lineSort_105 ⟨Nat.le_of_ble_eq_true rfl, Nat.le_of_ble_eq_true rfl⟩ (fun z36747 F9 H locs hT hz36747 => ?_)
                obtain ⟨fz36747, hz36747⟩ := hz36747
                rw [fz36747] at hT
                refine lv_if_eq (tgt := 114) hx hb dX3_lineSort_108 (by decide) (fun c36748 => ?_) (fun c36748 => ?_)
                · have w36749 := cv_eq (rfl : z36747.toInt = z36747.toInt) (by decide : (0 : Int32).toInt = 0) c36748
                  refine lv_aload_n hx hb dX3_lineSort_114 rfl (lv_at hl 0 rfl) ?_
                  refine t_get (C := RX3) (T := TX3) (N := 13) X hT m0 g0 rfl rfl 0 (by decide) qw_73 inlX3 rfl dX3_lineSort_115 (fun v36750 hv36750 ov36750 => ?_)
                  obtain rfl : v36750 = .ref x0 := hv36750.symm.trans pf0
                  refine m_ldcK X 8 rfl dX3_lineSort_118 ?_
                  refine t_cVi (n := 1) (C := RX8) (T := TX8) (N := 8) (As := [.ref (G.2 (100 + 8))]) (rest := []) X hT (kt107_X8_isWord l G tag L F hT.2.2.2 x0 8 x3 mx0 gx0 (by decide) mx3 gx3 pf3) mx0 gx0 rfl rfl qw_234 qw_235 qw_236 qw_72 qw_237 ⟨rfl, by decide +kernel, by decide +kernel, by decide +kernel⟩ ⟨Nat.le_of_ble_eq_true rfl, Nat.le_of_ble_eq_true rfl⟩ hl rfl rfl (Nat.le_of_ble_eq_true rfl) dX3_lineSort_120 ⟨Nat.le_of_ble_eq_true rfl, Nat.le_of_ble_eq_true rfl⟩ (fun z36751 F9 H locs hT hz36751 => ?_)
                  obtain ⟨fz36751, hz36751⟩ := hz36751
                  rw [fz36751] at hT
                  refine lv_if_eq (tgt := 129) hx hb dX3_lineSort_123 (by decide) (fun c36752 => ?_) (fun c36752 => ?_)
                  · have w36753 := cv_eq (rfl : z36751.toInt = z36751.toInt) (by decide : (0 : Int32).toInt = 0) c36752
                    refine lv_aload_n hx hb dX3_lineSort_129 rfl (lv_at hl 0 rfl) ?_
                    refine t_get (C := RX3) (T := TX3) (N := 13) X hT m0 g0 rfl rfl 0 (by decide) qw_73 inlX3 rfl dX3_lineSort_130 (fun v36754 hv36754 ov36754 => ?_)
                    obtain rfl : v36754 = .ref x0 := hv36754.symm.trans pf0
                    refine m_ldcK X 9 rfl dX3_lineSort_133 ?_
                    refine t_cVi (n := 1) (C := RX8) (T := TX8) (N := 8) (As := [.ref (G.2 (100 + 9))]) (rest := []) X hT (kt107_X8_isWord l G tag L F hT.2.2.2 x0 9 x3 mx0 gx0 (by decide) mx3 gx3 pf3) mx0 gx0 rfl rfl qw_234 qw_235 qw_236 qw_72 qw_237 ⟨rfl, by decide +kernel, by decide +kernel, by decide +kernel⟩ ⟨Nat.le_of_ble_eq_true rfl, Nat.le_of_ble_eq_true rfl⟩ hl rfl rfl (Nat.le_of_ble_eq_true rfl) dX3_lineSort_135 ⟨Nat.le_of_ble_eq_true rfl, Nat.le_of_ble_eq_true rfl⟩ (fun z36755 F9 H locs hT hz36755 => ?_)
                    obtain ⟨fz36755, hz36755⟩ := hz36755
                    rw [fz36755] at hT
                    refine lv_if_eq (tgt := 144) hx hb dX3_lineSort_138 (by decide) (fun c36756 => ?_) (fun c36756 => ?_)
                    · have w36757 := cv_eq (rfl : z36755.toInt = z36755.toInt) (by decide : (0 : Int32).toInt = 0) c36756
                      refine lv_aload_n hx hb dX3_lineSort_144 rfl (lv_at hl 0 rfl) ?_
                      refine t_get (C := RX3) (T := TX3) (N := 13) X hT m0 g0 rfl rfl 0 (by decide) qw_73 inlX3 rfl dX3_lineSort_145 (fun v36758 hv36758 ov36758 => ?_)
                      obtain rfl : v36758 = .ref x0 := hv36758.symm.trans pf0
                      refine m_ldcK X 10 rfl dX3_lineSort_148 ?_
                      refine t_cVi (n := 1) (C := RX8) (T := TX8) (N := 8) (As := [.ref (G.2 (100 + 10))]) (rest := []) X hT (kt107_X8_isWord l G tag L F hT.2.2.2 x0 10 x3 mx0 gx0 (by decide) mx3 gx3 pf3) mx0 gx0 rfl rfl qw_234 qw_235 qw_236 qw_72 qw_237 ⟨rfl, by decide +kernel, by decide +kernel, by decide +kernel⟩ ⟨Nat.le_of_ble_eq_true rfl, Nat.le_of_ble_eq_true rfl⟩ hl rfl rfl (Nat.le_of_ble_eq_true rfl) dX3_lineSort_150 ⟨Nat.le_of_ble_eq_true rfl, Nat.le_of_ble_eq_true rfl⟩ (fun z36759 F9 H locs hT hz36759 => ?_)
                      obtain ⟨fz36759, hz36759⟩ := hz36759
                      rw [fz36759] at hT
                      refine lv_if_eq (tgt := 161) hx hb dX3_lineSort_153 (by decide) (fun c36760 => ?_) (fun c36760 => ?_)
                      · have w36761 := cv_eq (rfl : z36759.toInt = z36759.toInt) (by decide : (0 : Int32).toInt = 0) c36760
                        refine lv_iconst (v := (-1)) hx hb dX3_lineSort_161 (by decide) ?_
                        exact t_iret hQ X hT (⟨rfl, (by decide)⟩) (Nat.le_of_ble_eq_true rfl) (Nat.le_of_ble_eq_true rfl) dX3_lineSort_162
                      · have w36762 := cv_ne (rfl : z36759.toInt = z36759.toInt) (by decide : (0 : Int32).toInt = 0) c36760
                        refine lv_bipush (v := 10) hx hb dX3_lineSort_156 (by decide) ?_
                        refine lv_goto (tgt := 162) hx hb dX3_lineSort_158 (by decide) ?_
                        exact t_iret hQ X hT (⟨rfl, (by decide)⟩) (Nat.le_of_ble_eq_true rfl) (Nat.le_of_ble_eq_true rfl) dX3_lineSort_162
                    · have w36763 := cv_ne (rfl : z36755.toInt = z36755.toInt) (by decide : (0 : Int32).toInt = 0) c36756
                      refine lv_bipush (v := 9) hx hb dX3_lineSort_141 (by decide) ?_
                      exact t_iret hQ X hT (⟨rfl, (by decide)⟩) (Nat.le_of_ble_eq_true rfl) (Nat.le_of_ble_eq_true rfl) dX3_lineSort_143
                  · have w36764 := cv_ne (rfl : z36751.toInt = z36751.toInt) (by decide : (0 : Int32).toInt = 0) c36752
                    refine lv_bipush (v := 8) hx hb dX3_lineSort_126 (by decide) ?_
                    exact t_iret hQ X hT (⟨rfl, (by decide)⟩) (Nat.le_of_ble_eq_true rfl) (Nat.le_of_ble_eq_true rfl) dX3_lineSort_128
                · have w36765 := cv_ne (rfl : z36747.toInt = z36747.toInt) (by decide : (0 : Int32).toInt = 0) c36748
                  refine lv_bipush (v := 7) hx hb dX3_lineSort_111 (by decide) ?_
                  exact t_iret hQ X hT (⟨rfl, (by decide)⟩) (Nat.le_of_ble_eq_true rfl) (Nat.le_of_ble_eq_true rfl) dX3_lineSort_113
              · have w36766 := cv_ne (rfl : z36743.toInt = z36743.toInt) (by decide : (0 : Int32).toInt = 0) c36744
                refine lv_bipush (v := 6) hx hb dX3_lineSort_96 (by decide) ?_
                exact t_iret hQ X hT (⟨rfl, (by decide)⟩) (Nat.le_of_ble_eq_true rfl) (Nat.le_of_ble_eq_true rfl) dX3_lineSort_98
            · have w36767 := cv_ne (rfl : z36739.toInt = z36739.toInt) (by decide : (0 : Int32).toInt = 0) c36740
              refine lv_iconst (v := 5) hx hb dX3_lineSort_82 (by decide) ?_
              exact t_iret hQ X hT (⟨rfl, (by decide)⟩) (Nat.le_of_ble_eq_true rfl) (Nat.le_of_ble_eq_true rfl) dX3_lineSort_83
          · have w36768 := cv_ne (rfl : z36735.toInt = z36735.toInt) (by decide : (0 : Int32).toInt = 0) c36736
            refine lv_iconst (v := 4) hx hb dX3_lineSort_68 (by decide) ?_
            exact t_iret hQ X hT (⟨rfl, (by decide)⟩) (Nat.le_of_ble_eq_true rfl) (Nat.le_of_ble_eq_true rfl) dX3_lineSort_69
        · have w36769 := cv_ne (rfl : z36731.toInt = z36731.toInt) (by decide : (0 : Int32).toInt = 0) c36732
          refine lv_iconst (v := 3) hx hb dX3_lineSort_54 (by decide) ?_
          exact t_iret hQ X hT (⟨rfl, (by decide)⟩) (Nat.le_of_ble_eq_true rfl) (Nat.le_of_ble_eq_true rfl) dX3_lineSort_55
      · have w36770 := cv_ne (rfl : z36727.toInt = z36727.toInt) (by decide : (0 : Int32).toInt = 0) c36728
        refine lv_iconst (v := 2) hx hb dX3_lineSort_40 (by decide) ?_
        exact t_iret hQ X hT (⟨rfl, (by decide)⟩) (Nat.le_of_ble_eq_true rfl) (Nat.le_of_ble_eq_true rfl) dX3_lineSort_41
    · have w36771 := cv_ne (rfl : z36723.toInt = z36723.toInt) (by decide : (0 : Int32).toInt = 0) c36724
      refine lv_iconst (v := 1) hx hb dX3_lineSort_26 (by decide) ?_
      exact t_iret hQ X hT (⟨rfl, (by decide)⟩) (Nat.le_of_ble_eq_true rfl) (Nat.le_of_ble_eq_true rfl) dX3_lineSort_27
  · have w36772 := cv_ne (rfl : z36719.toInt = z36719.toInt) (by decide : (0 : Int32).toInt = 0) c36720
    refine lv_iconst (v := 0) hx hb dX3_lineSort_12 (by decide) ?_
    exact t_iret hQ X hT (⟨rfl, (by decide)⟩) (Nat.le_of_ble_eq_true rfl) (Nat.le_of_ble_eq_true rfl) dX3_lineSort_13
set_option maxHeartbeats 4000000 in
set_option maxRecDepth 100000 in
theorem kt109_X3_isLineAgain (l : Launch) (G : KG) (tag : Nat → Nat) (L : List Nat) (F : Nat → va_E) (ho : okT G ttC tag L F) (p0 : Nat) (p1 : Int32) (m0 : p0 ∈ L) (g0 : tag p0 = 25) : TMi l yX3_isLineAgain cX3_isLineAgain 2 (some .boolean) { frames := 0, cells := 0, slots := 0, locals := 0 } G ttC tag L F [.ref p0, .int p1] (fun r F1 => F1 = F ∧ (0 ≤ r.toInt ∧ r.toInt ≤ 1)) := by
  refine t_bodyi (y := yX3_isLineAgain) (cd := cX3_isLineAgain) (mL := 2) (rt := (some .boolean)) (rm := { frames := 0, cells := 0, slots := 0, locals := 0 }) (av := [.ref p0, .int p1]) (by decide) (Nat.le_of_ble_eq_true rfl) ho ?_
  intro p e s m args below meth c ls A Q hQ X hT hl
  have hx := X.1.1
  have hb := X.1.2.1
  have hl : lv_has ls 2 [(0, .ref p0), (1, .int p1)] := hl
  have rp1 := rg_all p1
  have K23 : ∀  (H : Heap) (locs : List Loc) (ls : Array Slot), (0 ≤ p1.toInt ∧ p1.toInt ≤ 1) → TH G ttC A s tag L F H locs → lv_has ls 2 [(0, .ref p0), (1, .int p1)] → W p l e { frames := 0, cells := 0, slots := 0, locals := 0 } s m args below meth c H locs 0 0 Q (F0 m 23 ls []) := by
    intro H locs ls r9s36985 hT hl
    refine lv_iconst (v := 1) hx hb dX3_isLineAgain_23 (by decide) ?_
    refine lv_goto (tgt := 28) hx hb dX3_isLineAgain_24 (by decide) ?_
    exact t_zret hQ X hT (by decide) (⟨rfl, (by decide)⟩) (Nat.le_of_ble_eq_true rfl) (Nat.le_of_ble_eq_true rfl) dX3_isLineAgain_28
  have K11 : ∀  (H : Heap) (locs : List Loc) (ls : Array Slot), TH G ttC A s tag L F H locs → lv_has ls 2 [(0, .ref p0), (1, .int p1)] → W p l e { frames := 0, cells := 0, slots := 0, locals := 0 } s m args below meth c H locs 0 0 Q (F0 m 11 ls []) := by
    intro H locs ls hT hl
    refine lv_iload_n hx hb dX3_isLineAgain_11 rfl (lv_at hl 1 rfl) ?_
    refine lv_iconst (v := 1) hx hb dX3_isLineAgain_12 (by decide) ?_
    refine lv_icmp_ne (tgt := 27) hx hb dX3_isLineAgain_13 (by decide) (fun c36986 => ?_) (fun c36986 => ?_)
    · have w36987 := cv_ne (rfl : p1.toInt = p1.toInt) (by decide : (1 : Int32).toInt = 1) c36986
      refine lv_iconst (v := 0) hx hb dX3_isLineAgain_27 (by decide) ?_
      exact t_zret hQ X hT (by decide) (⟨rfl, (by decide)⟩) (Nat.le_of_ble_eq_true rfl) (Nat.le_of_ble_eq_true rfl) dX3_isLineAgain_28
    · have w36988 := cv_eq (rfl : p1.toInt = p1.toInt) (by decide : (1 : Int32).toInt = 1) c36986
      refine lv_aload_n hx hb dX3_isLineAgain_16 rfl (lv_at hl 0 rfl) ?_
      refine t_get (C := RX3) (T := TX3) (N := 13) X hT m0 g0 rfl rfl 6 (by decide) qw_166 inlX3 rfl dX3_isLineAgain_17 (fun v36989 hv36989 ov36989 => ?_)
      obtain ⟨z36990, rfl, rz36990⟩ := okV_i ov36989
      refine lv_if_eq (tgt := 27) hx hb dX3_isLineAgain_20 (by decide) (fun c36991 => ?_) (fun c36991 => ?_)
      · have w36992 := cv_eq (rfl : z36990.toInt = z36990.toInt) (by decide : (0 : Int32).toInt = 0) c36991
        refine lv_iconst (v := 0) hx hb dX3_isLineAgain_27 (by decide) ?_
        exact t_zret hQ X hT (by decide) (⟨rfl, (by decide)⟩) (Nat.le_of_ble_eq_true rfl) (Nat.le_of_ble_eq_true rfl) dX3_isLineAgain_28
      · have w36993 := cv_ne (rfl : z36990.toInt = z36990.toInt) (by decide : (0 : Int32).toInt = 0) c36991
        exact K23  _ _ _ (by omega) hT  (lv_sub hl [0, 1] rfl)
  refine lv_iload_n hx hb dX3_isLineAgain_0 rfl (lv_at hl 1 rfl) ?_
  refine lv_if_ne (tgt := 11) hx hb dX3_isLineAgain_1 (by decide) (fun c36994 => ?_) (fun c36994 => ?_)
  · have w36995 := cv_ne (rfl : p1.toInt = p1.toInt) (by decide : (0 : Int32).toInt = 0) c36994
    exact K11  _ _ _  hT  (lv_sub hl [0, 1] rfl)
  · have w36996 := cv_eq (rfl : p1.toInt = p1.toInt) (by decide : (0 : Int32).toInt = 0) c36994
    refine lv_aload_n hx hb dX3_isLineAgain_4 rfl (lv_at hl 0 rfl) ?_
    refine t_get (C := RX3) (T := TX3) (N := 13) X hT m0 g0 rfl rfl 5 (by decide) qw_165 inlX3 rfl dX3_isLineAgain_5 (fun v36997 hv36997 ov36997 => ?_)
    obtain ⟨z36998, rfl, rz36998⟩ := okV_i ov36997
    refine lv_if_ne (tgt := 23) hx hb dX3_isLineAgain_8 (by decide) (fun c36999 => ?_) (fun c36999 => ?_)
    · have w37000 := cv_ne (rfl : z36998.toInt = z36998.toInt) (by decide : (0 : Int32).toInt = 0) c36999
      exact K23  _ _ _ (by omega) hT  (lv_sub hl [0, 1] rfl)
    · have w37001 := cv_eq (rfl : z36998.toInt = z36998.toInt) (by decide : (0 : Int32).toInt = 0) c36999
      exact K11  _ _ _  hT  (lv_sub hl [0, 1] rfl)
set_option maxHeartbeats 4000000 in
set_option maxRecDepth 100000 in
theorem kt110_X3_isLineTooMany (l : Launch) (G : KG) (tag : Nat → Nat) (L : List Nat) (F : Nat → va_E) (ho : okT G ttC tag L F) (p0 : Nat) (p1 : Int32) (x0 : Nat) (x1 : Nat) (x2 : Nat) (x3 : Nat) (x4 : Nat) (x5 : Nat) (m0 : p0 ∈ L) (g0 : tag p0 = 25) (h1 : 4 ≤ p1.toInt ∧ p1.toInt ≤ 4) (mx0 : x0 ∈ L) (gx0 : tag x0 = 24) (pf0 : fld F p0 0 = .ref x0) (mx1 : x1 ∈ L) (gx1 : tag x1 = 18) (pf1 : fld F p0 1 = .ref x1) (mx2 : x2 ∈ L) (gx2 : tag x2 = 19) (pf2 : fld F p0 2 = .ref x2) (mx3 : x3 ∈ L) (gx3 : tag x3 = 1) (pf3 : fld F x0 0 = .ref x3) (mx4 : x4 ∈ L) (gx4 : tag x4 = 14) (pf4 : fld F p0 10 = .ref x4) (mx5 : x5 ∈ L) (gx5 : tag x5 = 15) (pf5 : fld F p0 11 = .ref x5) : TMi l yX3_isLineTooMany cX3_isLineTooMany 2 (some .boolean) { frames := 0, cells := 0, slots := 0, locals := 0 } G ttC tag L F [.ref p0, .int p1] (fun r F1 => F1 = F ∧ (0 ≤ r.toInt ∧ r.toInt ≤ 1) ∧ (((1 ≤ r.toInt ∧ r.toInt ≤ 1)) ∨ ((∃ z : Int32, fld F1 x1 10 = .int z ∧ 0 ≤ z.toInt ∧ z.toInt ≤ 3)))) := by
  refine t_bodyi (y := yX3_isLineTooMany) (cd := cX3_isLineTooMany) (mL := 2) (rt := (some .boolean)) (rm := { frames := 0, cells := 0, slots := 0, locals := 0 }) (av := [.ref p0, .int p1]) (by decide) (Nat.le_of_ble_eq_true rfl) ho ?_
  intro p e s m args below meth c ls A Q hQ X hT hl
  have hx := X.1.1
  have hb := X.1.2.1
  have hl : lv_has ls 2 [(0, .ref p0), (1, .int p1)] := hl
  refine lv_iload_n hx hb dX3_isLineTooMany_0 rfl (lv_at hl 1 rfl) ?_
  by_cases c37170 : p1 = 2
  · have w37171 := cv_eq (rfl : p1.toInt = p1.toInt) (by decide : (2 : Int32).toInt = 2) c37170
    exfalso
    omega
  have w37172 := cv_ne (rfl : p1.toInt = p1.toInt) (by decide : (2 : Int32).toInt = 2) c37170
  by_cases c37173 : p1 = 3
  · have w37174 := cv_eq (rfl : p1.toInt = p1.toInt) (by decide : (3 : Int32).toInt = 3) c37173
    exfalso
    omega
  have w37175 := cv_ne (rfl : p1.toInt = p1.toInt) (by decide : (3 : Int32).toInt = 3) c37173
  by_cases c37176 : p1 = 4
  · have w37177 := cv_eq (rfl : p1.toInt = p1.toInt) (by decide : (4 : Int32).toInt = 4) c37176
    refine lv_tableIn (off := 75) (tgt := 76) hx hb dX3_isLineTooMany_1 (by rw [c37176]; decide) (by rw [c37176]; decide) (by rw [c37176]; decide) (by decide) ?_
    refine lv_aload_n hx hb dX3_isLineTooMany_76 rfl (lv_at hl 0 rfl) ?_
    refine t_get (C := RX3) (T := TX3) (N := 13) X hT m0 g0 rfl rfl 1 (by decide) qw_161 inlX3 rfl dX3_isLineTooMany_77 (fun v37178 hv37178 ov37178 => ?_)
    obtain rfl : v37178 = .ref x1 := hv37178.symm.trans pf1
    refine t_get (C := RX1) (T := TX1) (N := 20) X hT mx1 gx1 rfl rfl 10 (by decide) qw_172 inlX1 rfl dX3_isLineTooMany_80 (fun v37179 hv37179 ov37179 => ?_)
    obtain ⟨z37180, rfl, rz37180⟩ := okV_i ov37179
    refine lv_iconst (v := 4) hx hb dX3_isLineTooMany_83 (by decide) ?_
    refine lv_icmp_lt (tgt := 91) hx hb dX3_isLineTooMany_84 (by decide) (fun c37181 => ?_) (fun c37181 => ?_)
    · have w37182 := cv_lt (rfl : z37180.toInt = z37180.toInt) (by decide : (4 : Int32).toInt = 4) c37181
      refine lv_iconst (v := 0) hx hb dX3_isLineTooMany_91 (by decide) ?_
      exact t_zret hQ X hT (by decide) (⟨rfl, (by decide), (Or.inr (⟨_, hv37179, (by omega), (by omega)⟩))⟩) (Nat.le_of_ble_eq_true rfl) (Nat.le_of_ble_eq_true rfl) dX3_isLineTooMany_92
    · have w37183 := cv_nlt (rfl : z37180.toInt = z37180.toInt) (by decide : (4 : Int32).toInt = 4) c37181
      refine lv_iconst (v := 1) hx hb dX3_isLineTooMany_87 (by decide) ?_
      refine lv_goto (tgt := 92) hx hb dX3_isLineTooMany_88 (by decide) ?_
      exact t_zret hQ X hT (by decide) (⟨rfl, (by decide), (Or.inl (⟨(by decide), (by decide)⟩))⟩) (Nat.le_of_ble_eq_true rfl) (Nat.le_of_ble_eq_true rfl) dX3_isLineTooMany_92
  have w37184 := cv_ne (rfl : p1.toInt = p1.toInt) (by decide : (4 : Int32).toInt = 4) c37176
  exfalso
  omega
set_option maxHeartbeats 4000000 in
set_option maxRecDepth 100000 in
theorem kt111_X3_fail (l : Launch) (G : KG) (tag : Nat → Nat) (L : List Nat) (Fo : Nat → va_E) (ho : okT G ttC tag L Fo) (p0 : Nat) (p1 : Int32) (p2 : Int32) (m0 : p0 ∈ L) (g0 : tag p0 = 25) (h1 : 1 ≤ p1.toInt ∧ p1.toInt ≤ 7) : TMv l yX3_fail cX3_fail 3 { frames := 0, cells := 0, slots := 0, locals := 0 } G ttC tag L Fo [.ref p0, .int p1, .int p2] (fun F1 => ((∀ b j : Nat, (tag b ≠ 25 ∨ j ≠ 3) → (tag b ≠ 25 ∨ j ≠ 4) → fld F1 b j = fld Fo b j) ∧ EF tag F1 Fo) ∧ (∃ z : Int32, fld F1 p0 3 = .int z ∧ 1 ≤ z.toInt ∧ z.toInt ≤ 7)) := by
  refine t_bodyv (y := yX3_fail) (cd := cX3_fail) (mL := 3) (rm := { frames := 0, cells := 0, slots := 0, locals := 0 }) (av := [.ref p0, .int p1, .int p2]) (by decide) (Nat.le_of_ble_eq_true rfl) ho ?_
  intro p e s m args below meth c ls A Q hQ X hT hl
  have hx := X.1.1
  have hb := X.1.2.1
  have hl : lv_has ls 3 [(0, .ref p0), (1, .int p1), (2, .int p2)] := hl
  have rp2 := rg_all p2
  obtain ⟨F, hFo⟩ : ∃ F : Nat → va_E, F = Fo := ⟨_, rfl⟩
  rw [← hFo] at hT
  have hfr : (∀ b j : Nat, (tag b ≠ 25 ∨ j ≠ 3) → (tag b ≠ 25 ∨ j ≠ 4) → fld F b j = fld Fo b j) ∧ EF tag F Fo := by
    rw [hFo]
    exact ⟨by intros; rfl, fun _ _ _ => rfl⟩
  refine lv_aload_n hx hb dX3_fail_0 rfl (lv_at hl 0 rfl) ?_
  refine t_get (C := RX3) (T := TX3) (N := 13) X hT m0 g0 rfl rfl 3 (by decide) qw_163 inlX3 rfl dX3_fail_1 (fun v37269 hv37269 ov37269 => ?_)
  obtain ⟨z37270, rfl, rz37270⟩ := okV_i ov37269
  refine lv_if_ne (tgt := 17) hx hb dX3_fail_4 (by decide) (fun c37271 => ?_) (fun c37271 => ?_)
  · have w37272 := cv_ne (rfl : z37270.toInt = z37270.toInt) (by decide : (0 : Int32).toInt = 0) c37271
    exact t_vret hQ X hT ⟨hfr, ⟨_, hv37269, (by omega), (by omega)⟩⟩ (Nat.le_of_ble_eq_true rfl) (Nat.le_of_ble_eq_true rfl) dX3_fail_17
  · have w37273 := cv_eq (rfl : z37270.toInt = z37270.toInt) (by decide : (0 : Int32).toInt = 0) c37271
    refine lv_aload_n hx hb dX3_fail_7 rfl (lv_at hl 0 rfl) ?_
    refine lv_iload_n hx hb dX3_fail_8 rfl (lv_at hl 1 rfl) ?_
    refine t_put (C := RX3) (T := TX3) (N := 13) (v := .int p1) X hT m0 g0 rfl tyX3 tyX3_ok nmX3 rfl 3 (by decide) qw_163 inlX3 rfl (by first | rfl | decide) (by first | rfl | decide) rfl (⟨_, rfl, (show 0 ≤ (p1 : Int32).toInt from (by omega)), (show (p1 : Int32).toInt ≤ 7 from (by omega))⟩) dX3_fail_9 (fun F H locs hT v37274 h1v37274 h2v37274 => ?_)
    have hfr : (∀ b j : Nat, (tag b ≠ 25 ∨ j ≠ 3) → (tag b ≠ 25 ∨ j ≠ 4) → fld F b j = fld Fo b j) ∧ EF tag F Fo := ⟨fun b j n25_3 n25_4 => (h1v37274 b j (fr_ne g0 n25_3)).trans (hfr.1 b j n25_3 n25_4), fun b j hb => (h2v37274 b j).trans (hfr.2 b j hb)⟩
    refine lv_aload_n hx hb dX3_fail_12 rfl (lv_at hl 0 rfl) ?_
    refine lv_iload_n hx hb dX3_fail_13 rfl (lv_at hl 2 rfl) ?_
    refine t_put (C := RX3) (T := TX3) (N := 13) (v := .int p2) X hT m0 g0 rfl tyX3 tyX3_ok nmX3 rfl 4 (by decide) qw_164 inlX3 rfl (by first | rfl | decide) (by first | rfl | decide) rfl (⟨_, rfl, (show (-2147483648) ≤ (p2 : Int32).toInt from (by omega)), (show (p2 : Int32).toInt ≤ 2147483647 from (by omega))⟩) dX3_fail_14 (fun F H locs hT v37275 h1v37275 h2v37275 => ?_)
    have v37274 := (h1v37275 _ _ (Or.inr (by decide))).trans v37274
    have hfr : (∀ b j : Nat, (tag b ≠ 25 ∨ j ≠ 3) → (tag b ≠ 25 ∨ j ≠ 4) → fld F b j = fld Fo b j) ∧ EF tag F Fo := ⟨fun b j n25_3 n25_4 => (h1v37275 b j (fr_ne g0 n25_4)).trans (hfr.1 b j n25_3 n25_4), fun b j hb => (h2v37275 b j).trans (hfr.2 b j hb)⟩
    exact t_vret hQ X hT ⟨hfr, ⟨_, v37274, (by omega), (by omega)⟩⟩ (Nat.le_of_ble_eq_true rfl) (Nat.le_of_ble_eq_true rfl) dX3_fail_17
set_option maxHeartbeats 4000000 in
set_option maxRecDepth 100000 in
theorem kt112_X3_checkLine (l : Launch) (G : KG) (tag : Nat → Nat) (L : List Nat) (Fo : Nat → va_E) (ho : okT G ttC tag L Fo) (p0 : Nat) (p1 : Int32) (x0 : Nat) (x1 : Nat) (x2 : Nat) (x3 : Nat) (x4 : Nat) (x5 : Nat) (m0 : p0 ∈ L) (g0 : tag p0 = 25) (h1 : 4 ≤ p1.toInt ∧ p1.toInt ≤ 4) (mx0 : x0 ∈ L) (gx0 : tag x0 = 24) (pf0 : fld Fo p0 0 = .ref x0) (mx1 : x1 ∈ L) (gx1 : tag x1 = 18) (pf1 : fld Fo p0 1 = .ref x1) (mx2 : x2 ∈ L) (gx2 : tag x2 = 19) (pf2 : fld Fo p0 2 = .ref x2) (mx3 : x3 ∈ L) (gx3 : tag x3 = 1) (pf3 : fld Fo x0 0 = .ref x3) (mx4 : x4 ∈ L) (gx4 : tag x4 = 14) (pf4 : fld Fo p0 10 = .ref x4) (mx5 : x5 ∈ L) (gx5 : tag x5 = 15) (pf5 : fld Fo p0 11 = .ref x5) : TMv l yX3_checkLine cX3_checkLine 2 { frames := 1, cells := 0, slots := 0, locals := 22 } G ttC tag L Fo [.ref p0, .int p1] (fun F1 => ((∀ b j : Nat, (tag b ≠ 25 ∨ j ≠ 3) → (tag b ≠ 25 ∨ j ≠ 4) → fld F1 b j = fld Fo b j) ∧ EF tag F1 Fo) ∧ (((∃ z : Int32, fld F1 p0 3 = .int z ∧ 1 ≤ z.toInt ∧ z.toInt ≤ 7)) ∨ ((∃ z : Int32, fld F1 x1 10 = .int z ∧ 0 ≤ z.toInt ∧ z.toInt ≤ 3)))) := by
  refine t_bodyv (y := yX3_checkLine) (cd := cX3_checkLine) (mL := 2) (rm := { frames := 1, cells := 0, slots := 0, locals := 22 }) (av := [.ref p0, .int p1]) (by decide) (Nat.le_of_ble_eq_true rfl) ho ?_
  intro p e s m args below meth c ls A Q hQ X hT hl
  have hx := X.1.1
  have hb := X.1.2.1
  have hl : lv_has ls 2 [(0, .ref p0), (1, .int p1)] := hl
  obtain ⟨F, hFo⟩ : ∃ F : Nat → va_E, F = Fo := ⟨_, rfl⟩
  rw [← hFo] at hT pf0 pf1 pf2 pf3 pf4 pf5
  have hfr : (∀ b j : Nat, (tag b ≠ 25 ∨ j ≠ 3) → (tag b ≠ 25 ∨ j ≠ 4) → fld F b j = fld Fo b j) ∧ EF tag F Fo := by
    rw [hFo]
    exact ⟨by intros; rfl, fun _ _ _ => rfl⟩
  refine lv_aload_n hx hb dX3_checkLine_0 rfl (lv_at hl 0 rfl) ?_
  refine lv_iload_n hx hb dX3_checkLine_1 rfl (lv_at hl 1 rfl) ?_
  refine t_cVi (n := 1) (C := RX3) (T := TX3) (N := 13) (As := [.int p1]) (rest := []) X hT (kt109_X3_isLineAgain l G tag L F hT.2.2.2 p0 p1 m0 g0) m0 g0 rfl rfl qw_295 qw_296 qw_297 qw_28 qw_298 ⟨rfl, by decide +kernel, by decide +kernel, by decide +kernel⟩ ⟨Nat.le_of_ble_eq_true rfl, Nat.le_of_ble_eq_true rfl⟩ hl rfl rfl (Nat.le_of_ble_eq_true rfl) dX3_checkLine_2 ⟨Nat.le_of_ble_eq_true rfl, Nat.le_of_ble_eq_true rfl⟩ (fun z37739 F9 H locs hT hz37739 => ?_)
  obtain ⟨fz37739, hz37739⟩ := hz37739
  rw [fz37739] at hT
  refine lv_if_eq (tgt := 23) hx hb dX3_checkLine_5 (by decide) (fun c37740 => ?_) (fun c37740 => ?_)
  · have w37741 := cv_eq (rfl : z37739.toInt = z37739.toInt) (by decide : (0 : Int32).toInt = 0) c37740
    refine lv_aload_n hx hb dX3_checkLine_23 rfl (lv_at hl 0 rfl) ?_
    refine lv_iload_n hx hb dX3_checkLine_24 rfl (lv_at hl 1 rfl) ?_
    refine t_cVi (n := 1) (C := RX3) (T := TX3) (N := 13) (As := [.int p1]) (rest := []) X hT (kt110_X3_isLineTooMany l G tag L F hT.2.2.2 p0 p1 x0 x1 x2 x3 x4 x5 m0 g0 (by omega) mx0 gx0 pf0 mx1 gx1 pf1 mx2 gx2 pf2 mx3 gx3 pf3 mx4 gx4 pf4 mx5 gx5 pf5) m0 g0 rfl rfl qw_299 qw_300 qw_301 qw_28 qw_302 ⟨rfl, by decide +kernel, by decide +kernel, by decide +kernel⟩ ⟨Nat.le_of_ble_eq_true rfl, Nat.le_of_ble_eq_true rfl⟩ hl rfl rfl (Nat.le_of_ble_eq_true rfl) dX3_checkLine_25 ⟨Nat.le_of_ble_eq_true rfl, Nat.le_of_ble_eq_true rfl⟩ (fun z37742 F9 H locs hT hz37742 => ?_)
    obtain ⟨fz37742, hz37742, xz37742_0⟩ := hz37742
    rw [fz37742] at hT xz37742_0
    rcases xz37742_0 with xz37742_0 | xz37742_0
    · refine lv_if_eq (tgt := 46) hx hb dX3_checkLine_28 (by decide) (fun c37743 => ?_) (fun c37743 => ?_)
      · have w37744 := cv_eq (rfl : z37742.toInt = z37742.toInt) (by decide : (0 : Int32).toInt = 0) c37743
        exfalso
        omega
      · have w37745 := cv_ne (rfl : z37742.toInt = z37742.toInt) (by decide : (0 : Int32).toInt = 0) c37743
        refine lv_aload_n hx hb dX3_checkLine_31 rfl (lv_at hl 0 rfl) ?_
        refine lv_iconst (v := 5) hx hb dX3_checkLine_32 (by decide) ?_
        refine lv_aload_n hx hb dX3_checkLine_33 rfl (lv_at hl 0 rfl) ?_
        refine t_get (C := RX3) (T := TX3) (N := 13) X hT m0 g0 rfl rfl 0 (by decide) qw_73 inlX3 rfl dX3_checkLine_34 (fun v37746 hv37746 ov37746 => ?_)
        obtain rfl : v37746 = .ref x0 := hv37746.symm.trans pf0
        refine t_get (C := RX8) (T := TX8) (N := 8) X hT mx0 gx0 rfl rfl 4 (by decide) qw_227 inlX8 rfl dX3_checkLine_37 (fun v37747 hv37747 ov37747 => ?_)
        obtain ⟨z37748, rfl, rz37748⟩ := okV_i ov37747
        refine t_cVv (n := 2) (C := RX3) (T := TX3) (N := 13) (As := [.int 5, .int z37748]) (rest := []) X hT (kt111_X3_fail l G tag L F hT.2.2.2 p0 5 z37748 m0 g0 (by decide)) m0 g0 rfl rfl qw_287 qw_288 qw_289 qw_28 qw_290 ⟨rfl, by decide +kernel, by decide +kernel, by decide +kernel⟩ ⟨Nat.le_of_ble_eq_true rfl, Nat.le_of_ble_eq_true rfl⟩ hl rfl rfl (Nat.le_of_ble_eq_true rfl) dX3_checkLine_40 ⟨Nat.le_of_ble_eq_true rfl, Nat.le_of_ble_eq_true rfl⟩ (fun F H locs hT hz37749 => ?_)
        obtain ⟨yz37749, xz37749_0⟩ := hz37749
        have pf0 := (yz37749.1 _ 0 (Or.inr (by decide)) (Or.inr (by decide))).trans pf0
        have pf1 := (yz37749.1 _ 1 (Or.inr (by decide)) (Or.inr (by decide))).trans pf1
        have pf2 := (yz37749.1 _ 2 (Or.inr (by decide)) (Or.inr (by decide))).trans pf2
        have pf3 := (yz37749.1 _ 0 (Or.inr (by decide)) (Or.inr (by decide))).trans pf3
        have pf4 := (yz37749.1 _ 10 (Or.inr (by decide)) (Or.inr (by decide))).trans pf4
        have pf5 := (yz37749.1 _ 11 (Or.inr (by decide)) (Or.inr (by decide))).trans pf5
        have hv37747 := (yz37749.1 _ 4 (Or.inr (by decide)) (Or.inl (by rw [gx0]; decide))).trans hv37747
        have hfr : (∀ b j : Nat, (tag b ≠ 25 ∨ j ≠ 3) → (tag b ≠ 25 ∨ j ≠ 4) → fld F b j = fld Fo b j) ∧ EF tag F Fo := ⟨fun b j n25_3 n25_4 => (yz37749.1 b j n25_3 n25_4).trans (hfr.1 b j n25_3 n25_4), fun b j hb => (yz37749.2 b j hb).trans (hfr.2 b j hb)⟩
        obtain ⟨z37750, qz37750, rz37750⟩ := xz37749_0
        refine lv_goto (tgt := 85) hx hb dX3_checkLine_43 (by decide) ?_
        exact t_vret hQ X hT ⟨hfr, (Or.inl (⟨_, qz37750, (by omega), (by omega)⟩))⟩ (Nat.le_of_ble_eq_true rfl) (Nat.le_of_ble_eq_true rfl) dX3_checkLine_85
    · obtain ⟨z37751, qz37751, rz37751⟩ := xz37742_0
      refine lv_if_eq (tgt := 46) hx hb dX3_checkLine_28 (by decide) (fun c37752 => ?_) (fun c37752 => ?_)
      · have w37753 := cv_eq (rfl : z37742.toInt = z37742.toInt) (by decide : (0 : Int32).toInt = 0) c37752
        refine lv_iload_n hx hb dX3_checkLine_46 rfl (lv_at hl 1 rfl) ?_
        refine lv_if_eq (tgt := 57) hx hb dX3_checkLine_47 (by decide) (fun c37754 => ?_) (fun c37754 => ?_)
        · have w37755 := cv_eq (rfl : p1.toInt = p1.toInt) (by decide : (0 : Int32).toInt = 0) c37754
          exfalso
          omega
        · have w37756 := cv_ne (rfl : p1.toInt = p1.toInt) (by decide : (0 : Int32).toInt = 0) c37754
          refine lv_aload_n hx hb dX3_checkLine_50 rfl (lv_at hl 0 rfl) ?_
          refine t_get (C := RX3) (T := TX3) (N := 13) X hT m0 g0 rfl rfl 5 (by decide) qw_165 inlX3 rfl dX3_checkLine_51 (fun v37757 hv37757 ov37757 => ?_)
          obtain ⟨z37758, rfl, rz37758⟩ := okV_i ov37757
          refine lv_if_eq (tgt := 72) hx hb dX3_checkLine_54 (by decide) (fun c37759 => ?_) (fun c37759 => ?_)
          · have w37760 := cv_eq (rfl : z37758.toInt = z37758.toInt) (by decide : (0 : Int32).toInt = 0) c37759
            refine lv_aload_n hx hb dX3_checkLine_72 rfl (lv_at hl 0 rfl) ?_
            refine lv_bipush (v := 6) hx hb dX3_checkLine_73 (by decide) ?_
            refine lv_aload_n hx hb dX3_checkLine_75 rfl (lv_at hl 0 rfl) ?_
            refine t_get (C := RX3) (T := TX3) (N := 13) X hT m0 g0 rfl rfl 0 (by decide) qw_73 inlX3 rfl dX3_checkLine_76 (fun v37761 hv37761 ov37761 => ?_)
            obtain rfl : v37761 = .ref x0 := hv37761.symm.trans pf0
            refine t_get (C := RX8) (T := TX8) (N := 8) X hT mx0 gx0 rfl rfl 4 (by decide) qw_227 inlX8 rfl dX3_checkLine_79 (fun v37762 hv37762 ov37762 => ?_)
            obtain ⟨z37763, rfl, rz37763⟩ := okV_i ov37762
            refine t_cVv (n := 2) (C := RX3) (T := TX3) (N := 13) (As := [.int 6, .int z37763]) (rest := []) X hT (kt111_X3_fail l G tag L F hT.2.2.2 p0 6 z37763 m0 g0 (by decide)) m0 g0 rfl rfl qw_287 qw_288 qw_289 qw_28 qw_290 ⟨rfl, by decide +kernel, by decide +kernel, by decide +kernel⟩ ⟨Nat.le_of_ble_eq_true rfl, Nat.le_of_ble_eq_true rfl⟩ hl rfl rfl (Nat.le_of_ble_eq_true rfl) dX3_checkLine_82 ⟨Nat.le_of_ble_eq_true rfl, Nat.le_of_ble_eq_true rfl⟩ (fun F H locs hT hz37764 => ?_)
            obtain ⟨yz37764, xz37764_0⟩ := hz37764
            have pf0 := (yz37764.1 _ 0 (Or.inr (by decide)) (Or.inr (by decide))).trans pf0
            have pf1 := (yz37764.1 _ 1 (Or.inr (by decide)) (Or.inr (by decide))).trans pf1
            have pf2 := (yz37764.1 _ 2 (Or.inr (by decide)) (Or.inr (by decide))).trans pf2
            have pf3 := (yz37764.1 _ 0 (Or.inr (by decide)) (Or.inr (by decide))).trans pf3
            have pf4 := (yz37764.1 _ 10 (Or.inr (by decide)) (Or.inr (by decide))).trans pf4
            have pf5 := (yz37764.1 _ 11 (Or.inr (by decide)) (Or.inr (by decide))).trans pf5
            have qz37751 := (yz37764.1 _ 10 (Or.inr (by decide)) (Or.inr (by decide))).trans qz37751
            have hv37757 := (yz37764.1 _ 5 (Or.inr (by decide)) (Or.inr (by decide))).trans hv37757
            have hv37762 := (yz37764.1 _ 4 (Or.inr (by decide)) (Or.inl (by rw [gx0]; decide))).trans hv37762
            have hfr : (∀ b j : Nat, (tag b ≠ 25 ∨ j ≠ 3) → (tag b ≠ 25 ∨ j ≠ 4) → fld F b j = fld Fo b j) ∧ EF tag F Fo := ⟨fun b j n25_3 n25_4 => (yz37764.1 b j n25_3 n25_4).trans (hfr.1 b j n25_3 n25_4), fun b j hb => (yz37764.2 b j hb).trans (hfr.2 b j hb)⟩
            obtain ⟨z37765, qz37765, rz37765⟩ := xz37764_0
            exact t_vret hQ X hT ⟨hfr, (Or.inl (⟨_, qz37765, (by omega), (by omega)⟩))⟩ (Nat.le_of_ble_eq_true rfl) (Nat.le_of_ble_eq_true rfl) dX3_checkLine_85
          · have w37766 := cv_ne (rfl : z37758.toInt = z37758.toInt) (by decide : (0 : Int32).toInt = 0) c37759
            refine lv_iload_n hx hb dX3_checkLine_57 rfl (lv_at hl 1 rfl) ?_
            refine lv_iconst (v := 2) hx hb dX3_checkLine_58 (by decide) ?_
            refine lv_icmp_ne (tgt := 85) hx hb dX3_checkLine_59 (by decide) (fun c37767 => ?_) (fun c37767 => ?_)
            · have w37768 := cv_ne (rfl : p1.toInt = p1.toInt) (by decide : (2 : Int32).toInt = 2) c37767
              exact t_vret hQ X hT ⟨hfr, (Or.inr (⟨_, qz37751, (by omega), (by omega)⟩))⟩ (Nat.le_of_ble_eq_true rfl) (Nat.le_of_ble_eq_true rfl) dX3_checkLine_85
            · have w37769 := cv_eq (rfl : p1.toInt = p1.toInt) (by decide : (2 : Int32).toInt = 2) c37767
              exfalso
              omega
      · have w37770 := cv_ne (rfl : z37742.toInt = z37742.toInt) (by decide : (0 : Int32).toInt = 0) c37752
        refine lv_aload_n hx hb dX3_checkLine_31 rfl (lv_at hl 0 rfl) ?_
        refine lv_iconst (v := 5) hx hb dX3_checkLine_32 (by decide) ?_
        refine lv_aload_n hx hb dX3_checkLine_33 rfl (lv_at hl 0 rfl) ?_
        refine t_get (C := RX3) (T := TX3) (N := 13) X hT m0 g0 rfl rfl 0 (by decide) qw_73 inlX3 rfl dX3_checkLine_34 (fun v37771 hv37771 ov37771 => ?_)
        obtain rfl : v37771 = .ref x0 := hv37771.symm.trans pf0
        refine t_get (C := RX8) (T := TX8) (N := 8) X hT mx0 gx0 rfl rfl 4 (by decide) qw_227 inlX8 rfl dX3_checkLine_37 (fun v37772 hv37772 ov37772 => ?_)
        obtain ⟨z37773, rfl, rz37773⟩ := okV_i ov37772
        refine t_cVv (n := 2) (C := RX3) (T := TX3) (N := 13) (As := [.int 5, .int z37773]) (rest := []) X hT (kt111_X3_fail l G tag L F hT.2.2.2 p0 5 z37773 m0 g0 (by decide)) m0 g0 rfl rfl qw_287 qw_288 qw_289 qw_28 qw_290 ⟨rfl, by decide +kernel, by decide +kernel, by decide +kernel⟩ ⟨Nat.le_of_ble_eq_true rfl, Nat.le_of_ble_eq_true rfl⟩ hl rfl rfl (Nat.le_of_ble_eq_true rfl) dX3_checkLine_40 ⟨Nat.le_of_ble_eq_true rfl, Nat.le_of_ble_eq_true rfl⟩ (fun F H locs hT hz37774 => ?_)
        obtain ⟨yz37774, xz37774_0⟩ := hz37774
        have pf0 := (yz37774.1 _ 0 (Or.inr (by decide)) (Or.inr (by decide))).trans pf0
        have pf1 := (yz37774.1 _ 1 (Or.inr (by decide)) (Or.inr (by decide))).trans pf1
        have pf2 := (yz37774.1 _ 2 (Or.inr (by decide)) (Or.inr (by decide))).trans pf2
        have pf3 := (yz37774.1 _ 0 (Or.inr (by decide)) (Or.inr (by decide))).trans pf3
        have pf4 := (yz37774.1 _ 10 (Or.inr (by decide)) (Or.inr (by decide))).trans pf4
        have pf5 := (yz37774.1 _ 11 (Or.inr (by decide)) (Or.inr (by decide))).trans pf5
        have qz37751 := (yz37774.1 _ 10 (Or.inr (by decide)) (Or.inr (by decide))).trans qz37751
        have hv37772 := (yz37774.1 _ 4 (Or.inr (by decide)) (Or.inl (by rw [gx0]; decide))).trans hv37772
        have hfr : (∀ b j : Nat, (tag b ≠ 25 ∨ j ≠ 3) → (tag b ≠ 25 ∨ j ≠ 4) → fld F b j = fld Fo b j) ∧ EF tag F Fo := ⟨fun b j n25_3 n25_4 => (yz37774.1 b j n25_3 n25_4).trans (hfr.1 b j n25_3 n25_4), fun b j hb => (yz37774.2 b j hb).trans (hfr.2 b j hb)⟩
        obtain ⟨z37775, qz37775, rz37775⟩ := xz37774_0
        refine lv_goto (tgt := 85) hx hb dX3_checkLine_43 (by decide) ?_
        exact t_vret hQ X hT ⟨hfr, (Or.inl (⟨_, qz37775, (by omega), (by omega)⟩))⟩ (Nat.le_of_ble_eq_true rfl) (Nat.le_of_ble_eq_true rfl) dX3_checkLine_85
  · have w37776 := cv_ne (rfl : z37739.toInt = z37739.toInt) (by decide : (0 : Int32).toInt = 0) c37740
    refine lv_aload_n hx hb dX3_checkLine_8 rfl (lv_at hl 0 rfl) ?_
    refine lv_iconst (v := 3) hx hb dX3_checkLine_9 (by decide) ?_
    refine lv_aload_n hx hb dX3_checkLine_10 rfl (lv_at hl 0 rfl) ?_
    refine t_get (C := RX3) (T := TX3) (N := 13) X hT m0 g0 rfl rfl 0 (by decide) qw_73 inlX3 rfl dX3_checkLine_11 (fun v37777 hv37777 ov37777 => ?_)
    obtain rfl : v37777 = .ref x0 := hv37777.symm.trans pf0
    refine t_get (C := RX8) (T := TX8) (N := 8) X hT mx0 gx0 rfl rfl 4 (by decide) qw_227 inlX8 rfl dX3_checkLine_14 (fun v37778 hv37778 ov37778 => ?_)
    obtain ⟨z37779, rfl, rz37779⟩ := okV_i ov37778
    refine t_cVv (n := 2) (C := RX3) (T := TX3) (N := 13) (As := [.int 3, .int z37779]) (rest := []) X hT (kt111_X3_fail l G tag L F hT.2.2.2 p0 3 z37779 m0 g0 (by decide)) m0 g0 rfl rfl qw_287 qw_288 qw_289 qw_28 qw_290 ⟨rfl, by decide +kernel, by decide +kernel, by decide +kernel⟩ ⟨Nat.le_of_ble_eq_true rfl, Nat.le_of_ble_eq_true rfl⟩ hl rfl rfl (Nat.le_of_ble_eq_true rfl) dX3_checkLine_17 ⟨Nat.le_of_ble_eq_true rfl, Nat.le_of_ble_eq_true rfl⟩ (fun F H locs hT hz37780 => ?_)
    obtain ⟨yz37780, xz37780_0⟩ := hz37780
    have pf0 := (yz37780.1 _ 0 (Or.inr (by decide)) (Or.inr (by decide))).trans pf0
    have pf1 := (yz37780.1 _ 1 (Or.inr (by decide)) (Or.inr (by decide))).trans pf1
    have pf2 := (yz37780.1 _ 2 (Or.inr (by decide)) (Or.inr (by decide))).trans pf2
    have pf3 := (yz37780.1 _ 0 (Or.inr (by decide)) (Or.inr (by decide))).trans pf3
    have pf4 := (yz37780.1 _ 10 (Or.inr (by decide)) (Or.inr (by decide))).trans pf4
    have pf5 := (yz37780.1 _ 11 (Or.inr (by decide)) (Or.inr (by decide))).trans pf5
    have hv37778 := (yz37780.1 _ 4 (Or.inr (by decide)) (Or.inl (by rw [gx0]; decide))).trans hv37778
    have hfr : (∀ b j : Nat, (tag b ≠ 25 ∨ j ≠ 3) → (tag b ≠ 25 ∨ j ≠ 4) → fld F b j = fld Fo b j) ∧ EF tag F Fo := ⟨fun b j n25_3 n25_4 => (yz37780.1 b j n25_3 n25_4).trans (hfr.1 b j n25_3 n25_4), fun b j hb => (yz37780.2 b j hb).trans (hfr.2 b j hb)⟩
    obtain ⟨z37781, qz37781, rz37781⟩ := xz37780_0
    refine lv_goto (tgt := 85) hx hb dX3_checkLine_20 (by decide) ?_
    exact t_vret hQ X hT ⟨hfr, (Or.inl (⟨_, qz37781, (by omega), (by omega)⟩))⟩ (Nat.le_of_ble_eq_true rfl) (Nat.le_of_ble_eq_true rfl) dX3_checkLine_85
