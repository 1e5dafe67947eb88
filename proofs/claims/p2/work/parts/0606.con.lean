set_option maxHeartbeats 4000000 in
set_option maxRecDepth 100000 in
theorem kt339_X10_grow (l : Launch) (G : KG) (tag : Nat → Nat) (L : List Nat) (Fo : Nat → va_E) (ho : okT G ttC tag L Fo) (p0 : Nat) (p1 : Nat) (p2 : Int32) (m0 : p0 ∈ L) (g0 : tag p0 = 18) (m1 : p1 ∈ L) (g1 : tag p1 = 19) (h2 : 0 ≤ p2.toInt ∧ p2.toInt ≤ 3) : TMv l yX10_grow cX10_grow 6 { frames := 4, cells := 0, slots := 0, locals := 108 } G ttC tag L Fo [.ref p0, .ref p1, .int p2] (fun F1 => ((∀ b j : Nat, fld F1 b j = fld Fo b j) ∧ EF tag F1 Fo)) := by
  refine t_bodyv (y := yX10_grow) (cd := cX10_grow) (mL := 6) (rm := { frames := 4, cells := 0, slots := 0, locals := 108 }) (av := [.ref p0, .ref p1, .int p2]) (by decide) (Nat.le_of_ble_eq_true rfl) ho ?_
  intro p e s m args below meth c ls A Q hQ X hT hl
  have hx := X.1.1
  have hb := X.1.2.1
  have hl : lv_has ls 6 [(0, .ref p0), (1, .ref p1), (2, .int p2)] := hl
  obtain ⟨F, hFo⟩ : ∃ F : Nat → va_E, F = Fo := ⟨_, rfl⟩
  rw [← hFo] at hT
  have hfr : (∀ b j : Nat, fld F b j = fld Fo b j) ∧ EF tag F Fo := by
    rw [hFo]
    exact ⟨by intros; rfl, fun _ _ _ => rfl⟩
  refine lv_aload_n hx hb dX10_grow_0 rfl (lv_at hl 0 rfl) ?_
  refine t_get (C := RX1) (T := TX1) (N := 20) X hT m0 g0 rfl rfl 13 (by decide) qw_1131 inlX1 rfl dX10_grow_1 (fun v101185 hv101185 ov101185 => ?_)
  obtain ⟨b101186, rfl, mb101186, gb101186⟩ := okV_r ov101185
  have gb101186 : tag b101186 = 5 := tg_of gb101186
  refine lv_iload_n hx hb dX10_grow_4 rfl (lv_at hl 2 rfl) ?_
  refine t_ild X hT mb101186 gb101186 rfl (by omega) dX10_grow_5 (fun z101187 vz101187 rz101187 => ?_)
  have rz101187 : (-2147483648) ≤ z101187.toInt ∧ z101187.toInt ≤ 2147483647 := rz101187
  refine lv_istore_n (lv' := [(3, .int z101187), (0, .ref p0), (1, .ref p1), (2, .int p2)]) hx hb dX10_grow_6 rfl hl (by decide) rfl (fun ls hl => ?_)
  refine lv_aload_n hx hb dX10_grow_7 rfl (lv_at hl 1 rfl) ?_
  refine lv_aload_n hx hb dX10_grow_8 rfl (lv_at hl 2 rfl) ?_
  refine lv_iload_n hx hb dX10_grow_9 rfl (lv_at hl 3 rfl) ?_
  refine lv_iload_n hx hb dX10_grow_10 rfl (lv_at hl 0 rfl) ?_
  refine t_cSi (n := 4) (As := [.ref p0, .ref p1, .int p2, .int z101187]) (rest := []) X hT (kt327_X6_priceOf l G tag L F hT.2.2.2 p0 p1 p2 z101187 m0 g0 m1 g1 (by omega)) qw_1132 qw_960 qw_380 qw_961 ⟨by decide +kernel, by decide +kernel, by decide +kernel⟩ ⟨Nat.le_of_ble_eq_true rfl, Nat.le_of_ble_eq_true rfl⟩ hl rfl rfl (Nat.le_of_ble_eq_true rfl) dX10_grow_11 ⟨Nat.le_of_ble_eq_true rfl, Nat.le_of_ble_eq_true rfl⟩ (fun z101188 F9 H locs hT hz101188 => ?_)
  obtain ⟨fz101188, hz101188⟩ := hz101188
  rw [fz101188] at hT
  refine lv_istore (lv' := [(4, .int z101188), (3, .int z101187), (0, .ref p0), (1, .ref p1), (2, .int p2)]) hx hb dX10_grow_14 hl (by decide) rfl (fun ls hl => ?_)
  refine lv_iload hx hb dX10_grow_16 (lv_at hl 0 rfl) ?_
  refine lv_aload_n hx hb dX10_grow_18 rfl (lv_at hl 3 rfl) ?_
  refine t_get (C := RX7) (T := TX7) (N := 7) X hT m1 g1 rfl rfl 4 (by decide) qw_1106 inlX7 rfl dX10_grow_19 (fun v101189 hv101189 ov101189 => ?_)
  obtain ⟨b101190, rfl, mb101190, gb101190⟩ := okV_r ov101189
  have gb101190 : tag b101190 = 5 := tg_of gb101190
  refine lv_iload_n hx hb dX10_grow_22 rfl (lv_at hl 4 rfl) ?_
  refine t_ild X hT mb101190 gb101190 rfl (by omega) dX10_grow_23 (fun z101191 vz101191 rz101191 => ?_)
  have rz101191 : (-2147483648) ≤ z101191.toInt ∧ z101191.toInt ≤ 2147483647 := rz101191
  refine lv_icmp_gt (tgt := 36) hx hb dX10_grow_24 (by decide) (fun c101192 => ?_) (fun c101192 => ?_)
  · have w101193 := cv_lt (rfl : z101191.toInt = z101191.toInt) (rfl : z101188.toInt = z101188.toInt) c101192
    exact t_vret hQ X hT hfr (Nat.le_of_ble_eq_true rfl) (Nat.le_of_ble_eq_true rfl) dX10_grow_36
  · have w101194 := cv_nlt (rfl : z101191.toInt = z101191.toInt) (rfl : z101188.toInt = z101188.toInt) c101192
    refine lv_aload_n hx hb dX10_grow_27 rfl (lv_at hl 2 rfl) ?_
    refine lv_aload_n hx hb dX10_grow_28 rfl (lv_at hl 3 rfl) ?_
    refine lv_iload_n hx hb dX10_grow_29 rfl (lv_at hl 4 rfl) ?_
    refine t_cSi (n := 3) (As := [.ref p0, .ref p1, .int p2]) (rest := []) X hT (kt325_X6_isFit l G tag L F hT.2.2.2 p0 p1 p2 m0 g0 m1 g1 (by omega)) qw_1133 qw_403 qw_380 qw_404 ⟨by decide +kernel, by decide +kernel, by decide +kernel⟩ ⟨Nat.le_of_ble_eq_true rfl, Nat.le_of_ble_eq_true rfl⟩ hl rfl rfl (Nat.le_of_ble_eq_true rfl) dX10_grow_30 ⟨Nat.le_of_ble_eq_true rfl, Nat.le_of_ble_eq_true rfl⟩ (fun z101195 F9 H locs hT hz101195 => ?_)
    obtain ⟨fz101195, hz101195⟩ := hz101195
    rw [fz101195] at hT
    refine lv_if_ne (tgt := 37) hx hb dX10_grow_33 (by decide) (fun c101196 => ?_) (fun c101196 => ?_)
    · have w101197 := cv_ne (rfl : z101195.toInt = z101195.toInt) (by decide : (0 : Int32).toInt = 0) c101196
      refine lv_aload_n hx hb dX10_grow_37 rfl (lv_at hl 2 rfl) ?_
      refine lv_aload_n hx hb dX10_grow_38 rfl (lv_at hl 3 rfl) ?_
      refine lv_iload_n hx hb dX10_grow_39 rfl (lv_at hl 4 rfl) ?_
      refine t_cSi (n := 3) (As := [.ref p0, .ref p1, .int p2]) (rest := []) X hT (kt338_X6_lawDoor l G tag L F hT.2.2.2 p0 p1 p2 m0 g0 m1 g1 (by omega)) qw_1134 qw_914 qw_380 qw_915 ⟨by decide +kernel, by decide +kernel, by decide +kernel⟩ ⟨Nat.le_of_ble_eq_true rfl, Nat.le_of_ble_eq_true rfl⟩ hl rfl rfl (Nat.le_of_ble_eq_true rfl) dX10_grow_40 ⟨Nat.le_of_ble_eq_true rfl, Nat.le_of_ble_eq_true rfl⟩ (fun z101198 F9 H locs hT hz101198 => ?_)
      obtain ⟨fz101198, hz101198⟩ := hz101198
      rw [fz101198] at hT
      refine lv_istore (lv' := [(5, .int z101198), (4, .int z101188), (3, .int z101187), (0, .ref p0), (1, .ref p1), (2, .int p2)]) hx hb dX10_grow_43 hl (by decide) rfl (fun ls hl => ?_)
      refine lv_iload hx hb dX10_grow_45 (lv_at hl 0 rfl) ?_
      refine lv_bipush (v := (-2)) hx hb dX10_grow_47 (by decide) ?_
      refine lv_icmp_ne (tgt := 53) hx hb dX10_grow_49 (by decide) (fun c101199 => ?_) (fun c101199 => ?_)
      · have w101200 := cv_ne (rfl : z101198.toInt = z101198.toInt) (by decide : ((-2) : Int32).toInt = (-2)) c101199
        refine lv_aload_n hx hb dX10_grow_53 rfl (lv_at hl 4 rfl) ?_
        refine t_get (C := RX7) (T := TX7) (N := 7) X hT m1 g1 rfl rfl 4 (by decide) qw_1106 inlX7 rfl dX10_grow_54 (fun v101201 hv101201 ov101201 => ?_)
        obtain rfl : v101201 = .ref b101190 := hv101201.symm.trans hv101189
        refine lv_iload_n hx hb dX10_grow_57 rfl (lv_at hl 5 rfl) ?_
        refine lv_dup2_11 hx hb dX10_grow_58 rfl rfl ?_
        refine t_ild X hT mb101190 gb101190 rfl (by omega) dX10_grow_59 (fun z101202 vz101202 rz101202 => ?_)
        obtain rfl : z101191 = z101202 := vz101191.symm.trans vz101202
        refine lv_iload hx hb dX10_grow_60 (lv_at hl 1 rfl) ?_
        refine lv_isub hx hb dX10_grow_62 ?_
        refine lv_topi (fun z101203 ez101203 => ?_)
        have rz101203 := rg_all z101203
        refine t_ist X hT mb101190 gb101190 rfl (by omega) (show (-2147483648) ≤ (z101203 : Int32).toInt ∧ (z101203 : Int32).toInt ≤ 2147483647 from (by omega)) dX10_grow_63 (fun F H locs hT v101204 h1v101204 h2v101204 => ?_)
        have hv101185 := (h2v101204 _ _).trans hv101185
        have hv101189 := (h2v101204 _ _).trans hv101189
        have hfr : (∀ b j : Nat, fld F b j = fld Fo b j) ∧ EF tag F Fo := ⟨fun b j  => (h2v101204 b j).trans (hfr.1 b j ), fun b j hb => (h1v101204 b j (Or.inl (ns_ne hb gb101190 (by decide)))).trans (hfr.2 b j hb)⟩
        refine lv_aload_n hx hb dX10_grow_64 rfl (lv_at hl 4 rfl) ?_
        refine lv_iload_n hx hb dX10_grow_65 rfl (lv_at hl 5 rfl) ?_
        refine lv_iload_n hx hb dX10_grow_66 rfl (lv_at hl 2 rfl) ?_
        refine lv_iload hx hb dX10_grow_67 (lv_at hl 0 rfl) ?_
        refine lv_bipush (v := 100) hx hb dX10_grow_69 (by decide) ?_
        refine lv_idiv hx hb dX10_grow_71 (by decide) ?_
        refine lv_topi (fun z101205 ez101205 => ?_)
        have rz101205 := rg_all z101205
        refine lv_iload hx hb dX10_grow_72 (lv_at hl 0 rfl) ?_
        refine lv_bipush (v := 100) hx hb dX10_grow_74 (by decide) ?_
        refine lv_irem hx hb dX10_grow_76 (by decide) ?_
        refine lv_topi (fun z101206 ez101206 => ?_)
        have rz101206 := rg_all z101206
        refine lv_aload_n hx hb dX10_grow_77 rfl (lv_at hl 4 rfl) ?_
        refine t_get (C := RX7) (T := TX7) (N := 7) X hT m1 g1 rfl rfl 3 (by decide) qw_1101 inlX7 rfl dX10_grow_78 (fun v101207 hv101207 ov101207 => ?_)
        obtain ⟨b101208, rfl, mb101208, gb101208⟩ := okV_r ov101207
        have gb101208 : tag b101208 = 5 := tg_of gb101208
        refine lv_iload_n hx hb dX10_grow_81 rfl (lv_at hl 5 rfl) ?_
        refine t_ild X hT mb101208 gb101208 rfl (by omega) dX10_grow_82 (fun z101209 vz101209 rz101209 => ?_)
        have rz101209 : (-2147483648) ≤ z101209.toInt ∧ z101209.toInt ≤ 2147483647 := rz101209
        refine lv_bipush (v := 10) hx hb dX10_grow_83 (by decide) ?_
        refine lv_irem hx hb dX10_grow_85 (by decide) ?_
        refine lv_topi (fun z101210 ez101210 => ?_)
        have rz101210 := rg_all z101210
        refine lv_aload_n hx hb dX10_grow_86 rfl (lv_at hl 4 rfl) ?_
        refine t_get (C := RX7) (T := TX7) (N := 7) X hT m1 g1 rfl rfl 0 (by decide) qw_1102 inlX7 rfl dX10_grow_87 (fun v101211 hv101211 ov101211 => ?_)
        obtain ⟨z101212, rfl, rz101212⟩ := okV_i ov101211
        refine t_cVv (n := 6) (C := RX7) (T := TX7) (N := 7) (As := [.int p2, .int z101187, .int z101205, .int z101206, .int z101210, .int z101212]) (rest := []) X hT (kt311_X7_addSkin l G tag L F hT.2.2.2 p1 p2 z101187 z101205 z101206 z101210 z101212 m1 g1 (by omega)) m1 g1 rfl rfl qw_1135 qw_419 qw_420 qw_22 qw_421 ⟨rfl, by decide +kernel, by decide +kernel, by decide +kernel⟩ ⟨Nat.le_of_ble_eq_true rfl, Nat.le_of_ble_eq_true rfl⟩ hl rfl rfl (Nat.le_of_ble_eq_true rfl) dX10_grow_90 ⟨Nat.le_of_ble_eq_true rfl, Nat.le_of_ble_eq_true rfl⟩ (fun F H locs hT hz101213 => ?_)
        have yz101213 := hz101213
        have hv101185 := (yz101213.1 _ 13 ).trans hv101185
        have hv101189 := (yz101213.1 _ 4 ).trans hv101189
        have hv101207 := (yz101213.1 _ 3 ).trans hv101207
        have hv101211 := (yz101213.1 _ 0 ).trans hv101211
        have hfr : (∀ b j : Nat, fld F b j = fld Fo b j) ∧ EF tag F Fo := ⟨fun b j  => (yz101213.1 b j ).trans (hfr.1 b j ), fun b j hb => (yz101213.2 b j hb).trans (hfr.2 b j hb)⟩
        exact t_vret hQ X hT hfr (Nat.le_of_ble_eq_true rfl) (Nat.le_of_ble_eq_true rfl) dX10_grow_93
      · have w101214 := cv_eq (rfl : z101198.toInt = z101198.toInt) (by decide : ((-2) : Int32).toInt = (-2)) c101199
        exact t_vret hQ X hT hfr (Nat.le_of_ble_eq_true rfl) (Nat.le_of_ble_eq_true rfl) dX10_grow_52
    · have w101215 := cv_eq (rfl : z101195.toInt = z101195.toInt) (by decide : (0 : Int32).toInt = 0) c101196
      exact t_vret hQ X hT hfr (Nat.le_of_ble_eq_true rfl) (Nat.le_of_ble_eq_true rfl) dX10_grow_36
set_option maxHeartbeats 4000000 in
set_option maxRecDepth 100000 in
theorem kt340_X10_rotAll (l : Launch) (G : KG) (tag : Nat → Nat) (L : List Nat) (Fo : Nat → va_E) (ho : okT G ttC tag L Fo) (p0 : Nat) (p1 : Nat) (p2 : Int32) (m0 : p0 ∈ L) (g0 : tag p0 = 18) (m1 : p1 ∈ L) (g1 : tag p1 = 19) (h2 : 0 ≤ p2.toInt ∧ p2.toInt ≤ 3) : TMv l yX10_rotAll cX10_rotAll 6 { frames := 3, cells := 0, slots := 0, locals := 68 } G ttC tag L Fo [.ref p0, .ref p1, .int p2] (fun F1 => ((∀ b j : Nat, fld F1 b j = fld Fo b j) ∧ EF tag F1 Fo)) := by
  refine t_bodyv (y := yX10_rotAll) (cd := cX10_rotAll) (mL := 6) (rm := { frames := 3, cells := 0, slots := 0, locals := 68 }) (av := [.ref p0, .ref p1, .int p2]) (by decide) (Nat.le_of_ble_eq_true rfl) ho ?_
  intro p e s m args below meth c ls A Q hQ X hT hl
  have hx := X.1.1
  have hb := X.1.2.1
  have hl : lv_has ls 6 [(0, .ref p0), (1, .ref p1), (2, .int p2)] := hl
  obtain ⟨F, hFo⟩ : ∃ F : Nat → va_E, F = Fo := ⟨_, rfl⟩
  rw [← hFo] at hT
  have hfr : (∀ b j : Nat, fld F b j = fld Fo b j) ∧ EF tag F Fo := by
    rw [hFo]
    exact ⟨by intros; rfl, fun _ _ _ => rfl⟩
  have K2 : ∀ (n : Nat) (z101962 : Int32) (F : Nat → va_E) (H : Heap) (locs : List Loc) (ls : Array Slot), (7 - z101962.toInt < (n : Int)) → (1 ≤ z101962.toInt ∧ z101962.toInt ≤ 7) → TH G ttC A s tag L F H locs → ((∀ b j : Nat, fld F b j = fld Fo b j) ∧ EF tag F Fo) → lv_has ls 6 [(0, .ref p0), (1, .ref p1), (2, .int p2), (3, .int z101962)] → W p l e { frames := 3, cells := 0, slots := 0, locals := 68 } s m args below meth c H locs 0 0 Q (F0 m 2 ls []) := by
    intro n
    induction n with
    | zero =>
      intro z101962 F H locs ls hn rz101962 hT hfr hl
      exfalso
      omega
    | succ n ih2 =>
      intro z101962 F H locs ls hn rz101962 hT hfr hl
      have K113 : ∀  (F : Nat → va_E) (H : Heap) (locs : List Loc) (ls : Array Slot), (1 ≤ z101962.toInt ∧ z101962.toInt ≤ 6) → TH G ttC A s tag L F H locs → ((∀ b j : Nat, fld F b j = fld Fo b j) ∧ EF tag F Fo) → lv_has ls 6 [(0, .ref p0), (1, .ref p1), (2, .int p2), (3, .int z101962)] → W p l e { frames := 3, cells := 0, slots := 0, locals := 68 } s m args below meth c H locs 0 0 Q (F0 m 113 ls []) := by
        intro F H locs ls r9s101963 hT hfr hl
        obtain ⟨z101964, ez101964⟩ : ∃ y : Int32, y = z101962 + 1 := ⟨_, rfl⟩
        have hz101964 : z101964.toInt = z101962.toInt + 1 := ar_add ez101964 rfl (by decide : (1 : Int32).toInt = 1) (by omega) (by omega)
        refine lv_iinc (v := z101964) (lv' := [(3, .int z101964), (0, .ref p0), (1, .ref p1), (2, .int p2)]) hx hb dX10_rotAll_113 hl (k := 3) rfl (by rw [ez101964]; rfl) (by decide) rfl (fun ls hl => ?_)
        refine lv_goto (tgt := 2) hx hb dX10_rotAll_116 (by decide) ?_
        exact ih2 z101964 _ _ _ _ (by omega) (by omega) hT hfr  (lv_sub hl [1, 2, 3, 0] rfl)
      have K84 : ∀ (z101966 : Int32) (z101967 : Int32) (F : Nat → va_E) (H : Heap) (locs : List Loc) (ls : Array Slot), (1 ≤ z101962.toInt ∧ z101962.toInt ≤ 6) → TH G ttC A s tag L F H locs → ((∀ b j : Nat, fld F b j = fld Fo b j) ∧ EF tag F Fo) → lv_has ls 6 [(0, .ref p0), (1, .ref p1), (2, .int p2), (3, .int z101962), (4, .int z101966), (5, .int z101967)] → W p l e { frames := 3, cells := 0, slots := 0, locals := 68 } s m args below meth c H locs 0 0 Q (F0 m 84 ls []) := by
        intro z101966 z101967 F H locs ls r9s101965 hT hfr hl
        have rz101966 := rg_all z101966
        have rz101967 := rg_all z101967
        refine lv_aload_n hx hb dX10_rotAll_84 rfl (lv_at hl 1 rfl) ?_
        refine lv_iload_n hx hb dX10_rotAll_85 rfl (lv_at hl 2 rfl) ?_
        refine lv_iload_n hx hb dX10_rotAll_86 rfl (lv_at hl 3 rfl) ?_
        refine lv_iconst (v := 4) hx hb dX10_rotAll_87 (by decide) ?_
        refine lv_iload hx hb dX10_rotAll_88 (lv_at hl 5 rfl) ?_
        refine t_cVv (n := 4) (C := RX7) (T := TX7) (N := 7) (As := [.int p2, .int z101962, .int 4, .int z101967]) (rest := []) X hT (kt310_X7_setPart l G tag L F hT.2.2.2 p1 p2 z101962 4 z101967 m1 g1) m1 g1 rfl rfl qw_1124 qw_423 qw_424 qw_22 qw_425 ⟨rfl, by decide +kernel, by decide +kernel, by decide +kernel⟩ ⟨Nat.le_of_ble_eq_true rfl, Nat.le_of_ble_eq_true rfl⟩ hl rfl rfl (Nat.le_of_ble_eq_true rfl) dX10_rotAll_90 ⟨Nat.le_of_ble_eq_true rfl, Nat.le_of_ble_eq_true rfl⟩ (fun F H locs hT hz101968 => ?_)
        have yz101968 := hz101968
        have hfr : (∀ b j : Nat, fld F b j = fld Fo b j) ∧ EF tag F Fo := ⟨fun b j  => (yz101968.1 b j ).trans (hfr.1 b j ), fun b j hb => (yz101968.2 b j hb).trans (hfr.2 b j hb)⟩
        refine lv_iload hx hb dX10_rotAll_93 (lv_at hl 5 rfl) ?_
        refine lv_aload_n hx hb dX10_rotAll_95 rfl (lv_at hl 0 rfl) ?_
        refine lv_iload hx hb dX10_rotAll_96 (lv_at hl 4 rfl) ?_
        refine lv_iconst (v := 4) hx hb dX10_rotAll_98 (by decide) ?_
        refine t_cVi (n := 2) (C := RX1) (T := TX1) (N := 20) (As := [.int z101966, .int 4]) (rest := [.int z101967]) X hT (kt303_X1_stonePart l G tag L F hT.2.2.2 p0 z101966 4 m0 g0) m0 g0 rfl rfl qw_1122 qw_858 qw_859 qw_17 qw_860 ⟨rfl, by decide +kernel, by decide +kernel, by decide +kernel⟩ ⟨Nat.le_of_ble_eq_true rfl, Nat.le_of_ble_eq_true rfl⟩ hl rfl rfl (Nat.le_of_ble_eq_true rfl) dX10_rotAll_99 ⟨Nat.le_of_ble_eq_true rfl, Nat.le_of_ble_eq_true rfl⟩ (fun z101969 F9 H locs hT hz101969 => ?_)
        obtain ⟨fz101969, hz101969⟩ := hz101969
        rw [fz101969] at hT
        refine lv_icmp_lt (tgt := 113) hx hb dX10_rotAll_102 (by decide) (fun c101970 => ?_) (fun c101970 => ?_)
        · have w101971 := cv_lt (rfl : z101967.toInt = z101967.toInt) (rfl : z101969.toInt = z101969.toInt) c101970
          exact K113  _ _ _ _ (by omega) hT hfr  (lv_sub hl [0, 1, 2, 3] rfl)
        · have w101972 := cv_nlt (rfl : z101967.toInt = z101967.toInt) (rfl : z101969.toInt = z101969.toInt) c101970
          refine lv_aload_n hx hb dX10_rotAll_105 rfl (lv_at hl 1 rfl) ?_
          refine lv_iload_n hx hb dX10_rotAll_106 rfl (lv_at hl 2 rfl) ?_
          refine lv_iload_n hx hb dX10_rotAll_107 rfl (lv_at hl 3 rfl) ?_
          refine lv_iconst (v := 5) hx hb dX10_rotAll_108 (by decide) ?_
          refine lv_iconst (v := 1) hx hb dX10_rotAll_109 (by decide) ?_
          refine t_cVv (n := 4) (C := RX7) (T := TX7) (N := 7) (As := [.int p2, .int z101962, .int 5, .int 1]) (rest := []) X hT (kt310_X7_setPart l G tag L F hT.2.2.2 p1 p2 z101962 5 1 m1 g1) m1 g1 rfl rfl qw_1124 qw_423 qw_424 qw_22 qw_425 ⟨rfl, by decide +kernel, by decide +kernel, by decide +kernel⟩ ⟨Nat.le_of_ble_eq_true rfl, Nat.le_of_ble_eq_true rfl⟩ hl rfl rfl (Nat.le_of_ble_eq_true rfl) dX10_rotAll_110 ⟨Nat.le_of_ble_eq_true rfl, Nat.le_of_ble_eq_true rfl⟩ (fun F H locs hT hz101973 => ?_)
          have yz101973 := hz101973
          have hfr : (∀ b j : Nat, fld F b j = fld Fo b j) ∧ EF tag F Fo := ⟨fun b j  => (yz101973.1 b j ).trans (hfr.1 b j ), fun b j hb => (yz101973.2 b j hb).trans (hfr.2 b j hb)⟩
          exact K113  _ _ _ _ (by omega) hT hfr  (lv_sub hl [0, 1, 2, 3] rfl)
      have K81 : ∀ (z101975 : Int32) (z101976 : Int32) (z101977 : Int32) (z101978 : Int32) (F : Nat → va_E) (H : Heap) (locs : List Loc) (ls : Array Slot), (1 ≤ z101977.toInt ∧ z101977.toInt ≤ 2) → (2 ≤ z101962.toInt ∧ z101962.toInt ≤ 6) → TH G ttC A s tag L F H locs → ((∀ b j : Nat, fld F b j = fld Fo b j) ∧ EF tag F Fo) → lv_has ls 6 [(0, .ref p0), (1, .ref p1), (2, .int p2), (3, .int z101962), (4, .int z101975), (5, .int z101976)] → W p l e { frames := 3, cells := 0, slots := 0, locals := 68 } s m args below meth c H locs 0 0 Q (F0 m 81 ls [.int z101977, .int z101978]) := by
        intro z101975 z101976 z101977 z101978 F H locs ls rz101977 r9s101974 hT hfr hl
        have rz101975 := rg_all z101975
        have rz101976 := rg_all z101976
        have rz101978 := rg_all z101978
        refine lv_iadd hx hb dX10_rotAll_81 ?_
        refine lv_topi (fun z101979 ez101979 => ?_)
        have rz101979 := rg_all z101979
        refine lv_istore (lv' := [(5, .int z101979), (0, .ref p0), (1, .ref p1), (2, .int p2), (3, .int z101962), (4, .int z101975)]) hx hb dX10_rotAll_82 hl (by decide) rfl (fun ls hl => ?_)
        exact K84 z101975 z101979 _ _ _ _ (by omega) hT hfr  (lv_sub hl [1, 2, 3, 4, 5, 0] rfl)
      refine lv_iload_n hx hb dX10_rotAll_2 rfl (lv_at hl 3 rfl) ?_
      refine lv_aload_n hx hb dX10_rotAll_3 rfl (lv_at hl 1 rfl) ?_
      refine t_get (C := RX7) (T := TX7) (N := 7) X hT m1 g1 rfl rfl 2 (by decide) qw_1119 inlX7 rfl dX10_rotAll_4 (fun v101980 hv101980 ov101980 => ?_)
      obtain ⟨b101981, rfl, mb101981, gb101981⟩ := okV_r ov101980
      have gb101981 : tag b101981 = 8 := tg_of gb101981
      refine lv_iload_n hx hb dX10_rotAll_7 rfl (lv_at hl 2 rfl) ?_
      refine t_ild X hT mb101981 gb101981 rfl (by omega) dX10_rotAll_8 (fun z101982 vz101982 rz101982 => ?_)
      have rz101982 : 0 ≤ z101982.toInt ∧ z101982.toInt ≤ 6 := rz101982
      refine lv_icmp_gt (tgt := 119) hx hb dX10_rotAll_9 (by decide) (fun c101983 => ?_) (fun c101983 => ?_)
      · have w101984 := cv_lt (rfl : z101982.toInt = z101982.toInt) (rfl : z101962.toInt = z101962.toInt) c101983
        exact t_vret hQ X hT hfr (Nat.le_of_ble_eq_true rfl) (Nat.le_of_ble_eq_true rfl) dX10_rotAll_119
      · have w101985 := cv_nlt (rfl : z101982.toInt = z101982.toInt) (rfl : z101962.toInt = z101962.toInt) c101983
        refine lv_aload_n hx hb dX10_rotAll_12 rfl (lv_at hl 1 rfl) ?_
        refine lv_iload_n hx hb dX10_rotAll_13 rfl (lv_at hl 2 rfl) ?_
        refine lv_iload_n hx hb dX10_rotAll_14 rfl (lv_at hl 3 rfl) ?_
        refine t_cVi (n := 2) (C := RX7) (T := TX7) (N := 7) (As := [.int p2, .int z101962]) (rest := []) X hT (kt313_X7_isOpen l G tag L F hT.2.2.2 p1 p2 z101962 m1 g1) m1 g1 rfl rfl qw_1120 qw_984 qw_985 qw_22 qw_986 ⟨rfl, by decide +kernel, by decide +kernel, by decide +kernel⟩ ⟨Nat.le_of_ble_eq_true rfl, Nat.le_of_ble_eq_true rfl⟩ hl rfl rfl (Nat.le_of_ble_eq_true rfl) dX10_rotAll_15 ⟨Nat.le_of_ble_eq_true rfl, Nat.le_of_ble_eq_true rfl⟩ (fun z101986 F9 H locs hT hz101986 => ?_)
        obtain ⟨fz101986, hz101986⟩ := hz101986
        rw [fz101986] at hT
        refine lv_if_eq (tgt := 113) hx hb dX10_rotAll_18 (by decide) (fun c101987 => ?_) (fun c101987 => ?_)
        · have w101988 := cv_eq (rfl : z101986.toInt = z101986.toInt) (by decide : (0 : Int32).toInt = 0) c101987
          exact K113  _ _ _ _ (by omega) hT hfr  (lv_sub hl [0, 1, 2, 3] rfl)
        · have w101989 := cv_ne (rfl : z101986.toInt = z101986.toInt) (by decide : (0 : Int32).toInt = 0) c101987
          refine lv_aload_n hx hb dX10_rotAll_21 rfl (lv_at hl 1 rfl) ?_
          refine lv_iload_n hx hb dX10_rotAll_22 rfl (lv_at hl 2 rfl) ?_
          refine lv_iload_n hx hb dX10_rotAll_23 rfl (lv_at hl 3 rfl) ?_
          refine lv_iconst (v := 0) hx hb dX10_rotAll_24 (by decide) ?_
          refine t_cVi (n := 3) (C := RX7) (T := TX7) (N := 7) (As := [.int p2, .int z101962, .int 0]) (rest := []) X hT (kt309_X7_partOf l G tag L F hT.2.2.2 p1 p2 z101962 0 m1 g1) m1 g1 rfl rfl qw_1121 qw_778 qw_779 qw_22 qw_780 ⟨rfl, by decide +kernel, by decide +kernel, by decide +kernel⟩ ⟨Nat.le_of_ble_eq_true rfl, Nat.le_of_ble_eq_true rfl⟩ hl rfl rfl (Nat.le_of_ble_eq_true rfl) dX10_rotAll_25 ⟨Nat.le_of_ble_eq_true rfl, Nat.le_of_ble_eq_true rfl⟩ (fun z101990 F9 H locs hT hz101990 => ?_)
          obtain ⟨fz101990, hz101990⟩ := hz101990
          rw [fz101990] at hT
          refine lv_istore (lv' := [(4, .int z101990), (0, .ref p0), (1, .ref p1), (2, .int p2), (3, .int z101962)]) hx hb dX10_rotAll_28 hl (by decide) rfl (fun ls hl => ?_)
          refine lv_aload_n hx hb dX10_rotAll_30 rfl (lv_at hl 2 rfl) ?_
          refine lv_iload_n hx hb dX10_rotAll_31 rfl (lv_at hl 3 rfl) ?_
          refine lv_iload_n hx hb dX10_rotAll_32 rfl (lv_at hl 4 rfl) ?_
          refine lv_iconst (v := 4) hx hb dX10_rotAll_33 (by decide) ?_
          refine t_cVi (n := 3) (C := RX7) (T := TX7) (N := 7) (As := [.int p2, .int z101962, .int 4]) (rest := []) X hT (kt309_X7_partOf l G tag L F hT.2.2.2 p1 p2 z101962 4 m1 g1) m1 g1 rfl rfl qw_1121 qw_778 qw_779 qw_22 qw_780 ⟨rfl, by decide +kernel, by decide +kernel, by decide +kernel⟩ ⟨Nat.le_of_ble_eq_true rfl, Nat.le_of_ble_eq_true rfl⟩ hl rfl rfl (Nat.le_of_ble_eq_true rfl) dX10_rotAll_34 ⟨Nat.le_of_ble_eq_true rfl, Nat.le_of_ble_eq_true rfl⟩ (fun z101991 F9 H locs hT hz101991 => ?_)
          obtain ⟨fz101991, hz101991⟩ := hz101991
          rw [fz101991] at hT
          refine lv_aload_n hx hb dX10_rotAll_37 rfl (lv_at hl 1 rfl) ?_
          refine lv_iload hx hb dX10_rotAll_38 (lv_at hl 0 rfl) ?_
          refine lv_iconst (v := 3) hx hb dX10_rotAll_40 (by decide) ?_
          refine t_cVi (n := 2) (C := RX1) (T := TX1) (N := 20) (As := [.int z101990, .int 3]) (rest := [.int z101991]) X hT (kt303_X1_stonePart l G tag L F hT.2.2.2 p0 z101990 3 m0 g0) m0 g0 rfl rfl qw_1122 qw_858 qw_859 qw_17 qw_860 ⟨rfl, by decide +kernel, by decide +kernel, by decide +kernel⟩ ⟨Nat.le_of_ble_eq_true rfl, Nat.le_of_ble_eq_true rfl⟩ hl rfl rfl (Nat.le_of_ble_eq_true rfl) dX10_rotAll_41 ⟨Nat.le_of_ble_eq_true rfl, Nat.le_of_ble_eq_true rfl⟩ (fun z101992 F9 H locs hT hz101992 => ?_)
          obtain ⟨fz101992, hz101992⟩ := hz101992
          rw [fz101992] at hT
          refine lv_iadd hx hb dX10_rotAll_44 ?_
          refine lv_topi (fun z101993 ez101993 => ?_)
          have rz101993 := rg_all z101993
          refine lv_istore (lv' := [(5, .int z101993), (4, .int z101990), (0, .ref p0), (1, .ref p1), (2, .int p2), (3, .int z101962)]) hx hb dX10_rotAll_45 hl (by decide) rfl (fun ls hl => ?_)
          refine lv_iload_n hx hb dX10_rotAll_47 rfl (lv_at hl 5 rfl) ?_
          refine lv_iconst (v := 1) hx hb dX10_rotAll_48 (by decide) ?_
          refine lv_icmp_le (tgt := 84) hx hb dX10_rotAll_49 (by decide) (fun c101994 => ?_) (fun c101994 => ?_)
          · have w101995 := cv_le (rfl : z101962.toInt = z101962.toInt) (by decide : (1 : Int32).toInt = 1) c101994
            exact K84 z101990 z101993 _ _ _ _ (by omega) hT hfr  (lv_sub hl [2, 3, 4, 5, 1, 0] rfl)
          · have w101996 := cv_nle (rfl : z101962.toInt = z101962.toInt) (by decide : (1 : Int32).toInt = 1) c101994
            refine lv_aload_n hx hb dX10_rotAll_52 rfl (lv_at hl 3 rfl) ?_
            refine lv_iload_n hx hb dX10_rotAll_53 rfl (lv_at hl 4 rfl) ?_
            refine lv_iload_n hx hb dX10_rotAll_54 rfl (lv_at hl 5 rfl) ?_
            refine lv_iconst (v := 1) hx hb dX10_rotAll_55 (by decide) ?_
            refine lv_isub hx hb dX10_rotAll_56 ?_
            refine lv_topi (fun z101997 ez101997 => ?_)
            have hz101997 : z101997.toInt = z101962.toInt - 1 := ar_sub ez101997 (rfl : z101962.toInt = z101962.toInt) (by decide : (1 : Int32).toInt = 1) (by omega) (by omega)
            have rz101997 : 1 ≤ z101997.toInt ∧ z101997.toInt ≤ 5 := by omega
            refine t_cVi (n := 2) (C := RX7) (T := TX7) (N := 7) (As := [.int p2, .int z101997]) (rest := []) X hT (kt312_X7_stands l G tag L F hT.2.2.2 p1 p2 z101997 m1 g1) m1 g1 rfl rfl qw_1123 qw_853 qw_854 qw_22 qw_855 ⟨rfl, by decide +kernel, by decide +kernel, by decide +kernel⟩ ⟨Nat.le_of_ble_eq_true rfl, Nat.le_of_ble_eq_true rfl⟩ hl rfl rfl (Nat.le_of_ble_eq_true rfl) dX10_rotAll_57 ⟨Nat.le_of_ble_eq_true rfl, Nat.le_of_ble_eq_true rfl⟩ (fun z101998 F9 H locs hT hz101998 => ?_)
            obtain ⟨fz101998, hz101998⟩ := hz101998
            rw [fz101998] at hT
            refine lv_if_ne (tgt := 84) hx hb dX10_rotAll_60 (by decide) (fun c101999 => ?_) (fun c101999 => ?_)
            · have w102000 := cv_ne (rfl : z101998.toInt = z101998.toInt) (by decide : (0 : Int32).toInt = 0) c101999
              exact K84 z101990 z101993 _ _ _ _ (by omega) hT hfr  (lv_sub hl [2, 3, 4, 5, 1, 0] rfl)
            · have w102001 := cv_eq (rfl : z101998.toInt = z101998.toInt) (by decide : (0 : Int32).toInt = 0) c101999
              refine lv_iload hx hb dX10_rotAll_63 (lv_at hl 0 rfl) ?_
              refine lv_aload_n hx hb dX10_rotAll_65 rfl (lv_at hl 2 rfl) ?_
              refine lv_iload hx hb dX10_rotAll_66 (lv_at hl 1 rfl) ?_
              refine lv_iconst (v := 0) hx hb dX10_rotAll_68 (by decide) ?_
              refine t_cVi (n := 2) (C := RX1) (T := TX1) (N := 20) (As := [.int z101990, .int 0]) (rest := [.int z101993]) X hT (kt303_X1_stonePart l G tag L F hT.2.2.2 p0 z101990 0 m0 g0) m0 g0 rfl rfl qw_1122 qw_858 qw_859 qw_17 qw_860 ⟨rfl, by decide +kernel, by decide +kernel, by decide +kernel⟩ ⟨Nat.le_of_ble_eq_true rfl, Nat.le_of_ble_eq_true rfl⟩ hl rfl rfl (Nat.le_of_ble_eq_true rfl) dX10_rotAll_69 ⟨Nat.le_of_ble_eq_true rfl, Nat.le_of_ble_eq_true rfl⟩ (fun z102002 F9 H locs hT hz102002 => ?_)
              obtain ⟨fz102002, hz102002⟩ := hz102002
              rw [fz102002] at hT
              refine lv_iconst (v := 1) hx hb dX10_rotAll_72 (by decide) ?_
              refine lv_icmp_ne (tgt := 80) hx hb dX10_rotAll_73 (by decide) (fun c102003 => ?_) (fun c102003 => ?_)
              · have w102004 := cv_ne (rfl : z102002.toInt = z102002.toInt) (by decide : (1 : Int32).toInt = 1) c102003
                refine lv_iconst (v := 1) hx hb dX10_rotAll_80 (by decide) ?_
                exact K81 z101990 z101993 1 z101993 _ _ _ _ (by decide) (by omega) hT hfr  (lv_sub hl [2, 3, 4, 5, 1, 0] rfl)
              · have w102005 := cv_eq (rfl : z102002.toInt = z102002.toInt) (by decide : (1 : Int32).toInt = 1) c102003
                refine lv_iconst (v := 2) hx hb dX10_rotAll_76 (by decide) ?_
                refine lv_goto (tgt := 81) hx hb dX10_rotAll_77 (by decide) ?_
                exact K81 z101990 z101993 2 z101993 _ _ _ _ (by decide) (by omega) hT hfr  (lv_sub hl [2, 3, 4, 5, 1, 0] rfl)
  refine lv_iconst (v := 1) hx hb dX10_rotAll_0 (by decide) ?_
  refine lv_istore_n (lv' := [(3, .int 1), (0, .ref p0), (1, .ref p1), (2, .int p2)]) hx hb dX10_rotAll_1 rfl hl (by decide) rfl (fun ls hl => ?_)
  have kk102006 : (1 : Int32).toInt = 1 := by decide
  exact K2 7 1 _ _ _ _ (by omega) (by decide) hT hfr  (lv_sub hl [1, 2, 3, 0] rfl)
set_option maxHeartbeats 4000000 in
set_option maxRecDepth 100000 in
theorem kt341_X10_liveOn (l : Launch) (G : KG) (tag : Nat → Nat) (L : List Nat) (Fo : Nat → va_E) (ho : okT G ttC tag L Fo) (p0 : Nat) (p1 : Nat) (p2 : Int32) (m0 : p0 ∈ L) (g0 : tag p0 = 18) (m1 : p1 ∈ L) (g1 : tag p1 = 19) (h2 : 0 ≤ p2.toInt ∧ p2.toInt ≤ 3) : TMv l yX10_liveOn cX10_liveOn 3 { frames := 4, cells := 0, slots := 0, locals := 93 } G ttC tag L Fo [.ref p0, .ref p1, .int p2] (fun F1 => ((∀ b j : Nat, (tag b ≠ 19 ∨ j ≠ 1) → fld F1 b j = fld Fo b j) ∧ EF tag F1 Fo)) := by
  refine t_bodyv (y := yX10_liveOn) (cd := cX10_liveOn) (mL := 3) (rm := { frames := 4, cells := 0, slots := 0, locals := 93 }) (av := [.ref p0, .ref p1, .int p2]) (by decide) (Nat.le_of_ble_eq_true rfl) ho ?_
  intro p e s m args below meth c ls A Q hQ X hT hl
  have hx := X.1.1
  have hb := X.1.2.1
  have hl : lv_has ls 3 [(0, .ref p0), (1, .ref p1), (2, .int p2)] := hl
  obtain ⟨F, hFo⟩ : ∃ F : Nat → va_E, F = Fo := ⟨_, rfl⟩
  rw [← hFo] at hT
  have hfr : (∀ b j : Nat, (tag b ≠ 19 ∨ j ≠ 1) → fld F b j = fld Fo b j) ∧ EF tag F Fo := by
    rw [hFo]
    exact ⟨by intros; rfl, fun _ _ _ => rfl⟩
  have K63 : ∀ (z102386 : Int32) (z102387 : Int32) (F : Nat → va_E) (H : Heap) (locs : List Loc) (ls : Array Slot), TH G ttC A s tag L F H locs → ((∀ b j : Nat, (tag b ≠ 19 ∨ j ≠ 1) → fld F b j = fld Fo b j) ∧ EF tag F Fo) → fld F p0 6 = .int z102386 → fld F p0 4 = .int z102387 → lv_has ls 3 [(0, .ref p0), (1, .ref p1), (2, .int p2)] → W p l e { frames := 4, cells := 0, slots := 0, locals := 93 } s m args below meth c H locs 0 0 Q (F0 m 63 ls []) := by
    intro z102386 z102387 F H locs ls hT hfr qz102386 qz102387 hl
    have rz102386 := rg_all z102386
    have rz102387 := rg_all z102387
    refine lv_aload_n hx hb dX10_liveOn_63 rfl (lv_at hl 0 rfl) ?_
    refine lv_aload_n hx hb dX10_liveOn_64 rfl (lv_at hl 1 rfl) ?_
    refine lv_iload_n hx hb dX10_liveOn_65 rfl (lv_at hl 2 rfl) ?_
    refine t_cSv (n := 3) (As := [.ref p0, .ref p1, .int p2]) (rest := []) X hT (kt340_X10_rotAll l G tag L F hT.2.2.2 p0 p1 p2 m0 g0 m1 g1 (by omega)) qw_1116 qw_1117 qw_32 qw_1118 ⟨by decide +kernel, by decide +kernel, by decide +kernel⟩ ⟨Nat.le_of_ble_eq_true rfl, Nat.le_of_ble_eq_true rfl⟩ hl rfl rfl (Nat.le_of_ble_eq_true rfl) dX10_liveOn_66 ⟨Nat.le_of_ble_eq_true rfl, Nat.le_of_ble_eq_true rfl⟩ (fun F H locs hT hz102388 => ?_)
    have yz102388 := hz102388
    have qz102386 := (yz102388.1 _ 6 ).trans qz102386
    have qz102387 := (yz102388.1 _ 4 ).trans qz102387
    have hfr : (∀ b j : Nat, (tag b ≠ 19 ∨ j ≠ 1) → fld F b j = fld Fo b j) ∧ EF tag F Fo := ⟨fun b j n19_1 => (yz102388.1 b j ).trans (hfr.1 b j n19_1), fun b j hb => (yz102388.2 b j hb).trans (hfr.2 b j hb)⟩
    refine lv_aload_n hx hb dX10_liveOn_69 rfl (lv_at hl 1 rfl) ?_
    refine t_cVi (n := 0) (C := RX7) (T := TX7) (N := 7) (As := []) (rest := []) X hT (kt321_X7_draw l G tag L F hT.2.2.2 p1 m1 g1) m1 g1 rfl rfl qw_1111 qw_1112 qw_1113 qw_22 qw_1114 ⟨rfl, by decide +kernel, by decide +kernel, by decide +kernel⟩ ⟨Nat.le_of_ble_eq_true rfl, Nat.le_of_ble_eq_true rfl⟩ hl rfl rfl (Nat.le_of_ble_eq_true rfl) dX10_liveOn_70 ⟨Nat.le_of_ble_eq_true rfl, Nat.le_of_ble_eq_true rfl⟩ (fun z102389 F H locs hT hz102389 => ?_)
    obtain ⟨hz102389, yz102389⟩ := hz102389
    have qz102386 := (yz102389.1 _ 6 (Or.inr (by decide))).trans qz102386
    have qz102387 := (yz102389.1 _ 4 (Or.inr (by decide))).trans qz102387
    have hfr : (∀ b j : Nat, (tag b ≠ 19 ∨ j ≠ 1) → fld F b j = fld Fo b j) ∧ EF tag F Fo := ⟨fun b j n19_1 => (yz102389.1 b j n19_1).trans (hfr.1 b j n19_1), fun b j hb => (yz102389.2 b j hb).trans (hfr.2 b j hb)⟩
    refine lv_bipush (v := 100) hx hb dX10_liveOn_73 (by decide) ?_
    refine lv_irem hx hb dX10_liveOn_75 (by decide) ?_
    refine lv_topi (fun z102390 ez102390 => ?_)
    have rz102390 := rg_all z102390
    refine lv_aload_n hx hb dX10_liveOn_76 rfl (lv_at hl 0 rfl) ?_
    refine t_get (C := RX1) (T := TX1) (N := 20) X hT m0 g0 rfl rfl 5 (by decide) qw_1110 inlX1 rfl dX10_liveOn_77 (fun v102391 hv102391 ov102391 => ?_)
    obtain ⟨z102392, rfl, rz102392⟩ := okV_i ov102391
    refine lv_icmp_ge (tgt := 89) hx hb dX10_liveOn_80 (by decide) (fun c102393 => ?_) (fun c102393 => ?_)
    · have w102394 := cv_le (rfl : z102392.toInt = z102392.toInt) (rfl : z102390.toInt = z102390.toInt) c102393
      exact t_vret hQ X hT hfr (Nat.le_of_ble_eq_true rfl) (Nat.le_of_ble_eq_true rfl) dX10_liveOn_89
    · have w102395 := cv_nle (rfl : z102392.toInt = z102392.toInt) (rfl : z102390.toInt = z102390.toInt) c102393
      refine lv_aload_n hx hb dX10_liveOn_83 rfl (lv_at hl 0 rfl) ?_
      refine lv_aload_n hx hb dX10_liveOn_84 rfl (lv_at hl 1 rfl) ?_
      refine lv_iload_n hx hb dX10_liveOn_85 rfl (lv_at hl 2 rfl) ?_
      refine t_cSv (n := 3) (As := [.ref p0, .ref p1, .int p2]) (rest := []) X hT (kt336_X10_burn l G tag L F hT.2.2.2 p0 p1 p2 m0 g0 m1 g1 (by omega)) qw_1125 qw_1126 qw_32 qw_1127 ⟨by decide +kernel, by decide +kernel, by decide +kernel⟩ ⟨Nat.le_of_ble_eq_true rfl, Nat.le_of_ble_eq_true rfl⟩ hl rfl rfl (Nat.le_of_ble_eq_true rfl) dX10_liveOn_86 ⟨Nat.le_of_ble_eq_true rfl, Nat.le_of_ble_eq_true rfl⟩ (fun F H locs hT hz102396 => ?_)
      have yz102396 := hz102396
      have qz102386 := (yz102396.1 _ 6 ).trans qz102386
      have qz102387 := (yz102396.1 _ 4 ).trans qz102387
      have hv102391 := (yz102396.1 _ 5 ).trans hv102391
      have hfr : (∀ b j : Nat, (tag b ≠ 19 ∨ j ≠ 1) → fld F b j = fld Fo b j) ∧ EF tag F Fo := ⟨fun b j n19_1 => (yz102396.1 b j ).trans (hfr.1 b j n19_1), fun b j hb => (yz102396.2 b j hb).trans (hfr.2 b j hb)⟩
      exact t_vret hQ X hT hfr (Nat.le_of_ble_eq_true rfl) (Nat.le_of_ble_eq_true rfl) dX10_liveOn_89
  refine lv_aload_n hx hb dX10_liveOn_0 rfl (lv_at hl 1 rfl) ?_
  refine t_get (C := RX7) (T := TX7) (N := 7) X hT m1 g1 rfl rfl 4 (by decide) qw_1106 inlX7 rfl dX10_liveOn_1 (fun v102397 hv102397 ov102397 => ?_)
  obtain ⟨b102398, rfl, mb102398, gb102398⟩ := okV_r ov102397
  have gb102398 : tag b102398 = 5 := tg_of gb102398
  refine lv_iload_n hx hb dX10_liveOn_4 rfl (lv_at hl 2 rfl) ?_
  refine lv_sipush (v := 999) hx hb dX10_liveOn_5 (by decide) ?_
  refine lv_aload_n hx hb dX10_liveOn_8 rfl (lv_at hl 1 rfl) ?_
  refine t_get (C := RX7) (T := TX7) (N := 7) X hT m1 g1 rfl rfl 4 (by decide) qw_1106 inlX7 rfl dX10_liveOn_9 (fun v102399 hv102399 ov102399 => ?_)
  obtain rfl : v102399 = .ref b102398 := hv102399.symm.trans hv102397
  refine lv_iload_n hx hb dX10_liveOn_12 rfl (lv_at hl 2 rfl) ?_
  refine t_ild X hT mb102398 gb102398 rfl (by omega) dX10_liveOn_13 (fun z102400 vz102400 rz102400 => ?_)
  have rz102400 : (-2147483648) ≤ z102400.toInt ∧ z102400.toInt ≤ 2147483647 := rz102400
  refine lv_aload_n hx hb dX10_liveOn_14 rfl (lv_at hl 1 rfl) ?_
  refine t_get (C := RX7) (T := TX7) (N := 7) X hT m1 g1 rfl rfl 3 (by decide) qw_1101 inlX7 rfl dX10_liveOn_15 (fun v102401 hv102401 ov102401 => ?_)
  obtain ⟨b102402, rfl, mb102402, gb102402⟩ := okV_r ov102401
  have gb102402 : tag b102402 = 5 := tg_of gb102402
  refine lv_iload_n hx hb dX10_liveOn_18 rfl (lv_at hl 2 rfl) ?_
  refine t_ild X hT mb102402 gb102402 rfl (by omega) dX10_liveOn_19 (fun z102403 vz102403 rz102403 => ?_)
  have rz102403 : (-2147483648) ≤ z102403.toInt ∧ z102403.toInt ≤ 2147483647 := rz102403
  refine lv_aload_n hx hb dX10_liveOn_20 rfl (lv_at hl 0 rfl) ?_
  refine t_get (C := RX1) (T := TX1) (N := 20) X hT m0 g0 rfl rfl 6 (by decide) qw_1107 inlX1 rfl dX10_liveOn_21 (fun v102404 hv102404 ov102404 => ?_)
  obtain ⟨z102405, rfl, rz102405⟩ := okV_i ov102404
  refine lv_imul hx hb dX10_liveOn_24 ?_
  refine lv_topi (fun z102406 ez102406 => ?_)
  have rz102406 := rg_all z102406
  refine lv_iadd hx hb dX10_liveOn_25 ?_
  refine lv_topi (fun z102407 ez102407 => ?_)
  have rz102407 := rg_all z102407
  refine t_mmin X hl qw_1108 qw_1018 qw_850 qw_1019 (Nat.le_of_ble_eq_true rfl) (Nat.le_of_ble_eq_true rfl) (Nat.le_of_ble_eq_true rfl) (Nat.le_of_ble_eq_true rfl) dX10_liveOn_26 (fun z102408 ez102408 => ?_)
  have hz102408 := mmin_e ez102408 (by decide : (999 : Int32).toInt = 999) (rfl : z102407.toInt = z102407.toInt)
  refine t_ist X hT mb102398 gb102398 rfl (by omega) (show (-2147483648) ≤ (z102408 : Int32).toInt ∧ (z102408 : Int32).toInt ≤ 2147483647 from (by omega)) dX10_liveOn_29 (fun F H locs hT v102409 h1v102409 h2v102409 => ?_)
  have hv102397 := (h2v102409 _ _).trans hv102397
  have hv102401 := (h2v102409 _ _).trans hv102401
  have hv102404 := (h2v102409 _ _).trans hv102404
  have hfr : (∀ b j : Nat, (tag b ≠ 19 ∨ j ≠ 1) → fld F b j = fld Fo b j) ∧ EF tag F Fo := ⟨fun b j n19_1 => (h2v102409 b j).trans (hfr.1 b j n19_1), fun b j hb => (h1v102409 b j (Or.inl (ns_ne hb gb102398 (by decide)))).trans (hfr.2 b j hb)⟩
  refine lv_aload_n hx hb dX10_liveOn_30 rfl (lv_at hl 1 rfl) ?_
  refine t_cVi (n := 0) (C := RX7) (T := TX7) (N := 7) (As := []) (rest := []) X hT (kt321_X7_draw l G tag L F hT.2.2.2 p1 m1 g1) m1 g1 rfl rfl qw_1111 qw_1112 qw_1113 qw_22 qw_1114 ⟨rfl, by decide +kernel, by decide +kernel, by decide +kernel⟩ ⟨Nat.le_of_ble_eq_true rfl, Nat.le_of_ble_eq_true rfl⟩ hl rfl rfl (Nat.le_of_ble_eq_true rfl) dX10_liveOn_31 ⟨Nat.le_of_ble_eq_true rfl, Nat.le_of_ble_eq_true rfl⟩ (fun z102410 F H locs hT hz102410 => ?_)
  obtain ⟨hz102410, yz102410⟩ := hz102410
  have hv102397 := (yz102410.1 _ 4 (Or.inr (by decide))).trans hv102397
  have hv102401 := (yz102410.1 _ 3 (Or.inr (by decide))).trans hv102401
  have hv102404 := (yz102410.1 _ 6 (Or.inr (by decide))).trans hv102404
  have hfr : (∀ b j : Nat, (tag b ≠ 19 ∨ j ≠ 1) → fld F b j = fld Fo b j) ∧ EF tag F Fo := ⟨fun b j n19_1 => (yz102410.1 b j n19_1).trans (hfr.1 b j n19_1), fun b j hb => (yz102410.2 b j hb).trans (hfr.2 b j hb)⟩
  refine lv_bipush (v := 100) hx hb dX10_liveOn_34 (by decide) ?_
  refine lv_irem hx hb dX10_liveOn_36 (by decide) ?_
  refine lv_topi (fun z102411 ez102411 => ?_)
  have rz102411 := rg_all z102411
  refine lv_aload_n hx hb dX10_liveOn_37 rfl (lv_at hl 0 rfl) ?_
  refine t_get (C := RX1) (T := TX1) (N := 20) X hT m0 g0 rfl rfl 4 (by decide) qw_1109 inlX1 rfl dX10_liveOn_38 (fun v102412 hv102412 ov102412 => ?_)
  obtain ⟨z102413, rfl, rz102413⟩ := okV_i ov102412
  refine lv_icmp_ge (tgt := 63) hx hb dX10_liveOn_41 (by decide) (fun c102414 => ?_) (fun c102414 => ?_)
  · have w102415 := cv_le (rfl : z102413.toInt = z102413.toInt) (rfl : z102411.toInt = z102411.toInt) c102414
    exact K63 z102405 z102413 _ _ _ _  hT hfr hv102404 hv102412 (lv_sub hl [0, 1, 2] rfl)
  · have w102416 := cv_nle (rfl : z102413.toInt = z102413.toInt) (rfl : z102411.toInt = z102411.toInt) c102414
    refine lv_aload_n hx hb dX10_liveOn_44 rfl (lv_at hl 1 rfl) ?_
    refine t_get (C := RX7) (T := TX7) (N := 7) X hT m1 g1 rfl rfl 3 (by decide) qw_1101 inlX7 rfl dX10_liveOn_45 (fun v102417 hv102417 ov102417 => ?_)
    obtain rfl : v102417 = .ref b102402 := hv102417.symm.trans hv102401
    refine lv_iload_n hx hb dX10_liveOn_48 rfl (lv_at hl 2 rfl) ?_
    refine lv_bipush (v := 99) hx hb dX10_liveOn_49 (by decide) ?_
    refine lv_aload_n hx hb dX10_liveOn_51 rfl (lv_at hl 1 rfl) ?_
    refine t_get (C := RX7) (T := TX7) (N := 7) X hT m1 g1 rfl rfl 3 (by decide) qw_1101 inlX7 rfl dX10_liveOn_52 (fun v102418 hv102418 ov102418 => ?_)
    obtain rfl : v102418 = .ref b102402 := hv102418.symm.trans hv102401
    refine lv_iload_n hx hb dX10_liveOn_55 rfl (lv_at hl 2 rfl) ?_
    refine t_ild X hT mb102402 gb102402 rfl (by omega) dX10_liveOn_56 (fun z102419 vz102419 rz102419 => ?_)
    have rz102419 : (-2147483648) ≤ z102419.toInt ∧ z102419.toInt ≤ 2147483647 := rz102419
    refine lv_iconst (v := 1) hx hb dX10_liveOn_57 (by decide) ?_
    refine lv_iadd hx hb dX10_liveOn_58 ?_
    refine lv_topi (fun z102420 ez102420 => ?_)
    have rz102420 := rg_all z102420
    refine t_mmin X hl qw_1108 qw_1018 qw_850 qw_1019 (Nat.le_of_ble_eq_true rfl) (Nat.le_of_ble_eq_true rfl) (Nat.le_of_ble_eq_true rfl) (Nat.le_of_ble_eq_true rfl) dX10_liveOn_59 (fun z102421 ez102421 => ?_)
    have hz102421 := mmin_e ez102421 (by decide : (99 : Int32).toInt = 99) (rfl : z102420.toInt = z102420.toInt)
    refine t_ist X hT mb102402 gb102402 rfl (by omega) (show (-2147483648) ≤ (z102421 : Int32).toInt ∧ (z102421 : Int32).toInt ≤ 2147483647 from (by omega)) dX10_liveOn_62 (fun F H locs hT v102422 h1v102422 h2v102422 => ?_)
    have hv102397 := (h2v102422 _ _).trans hv102397
    have hv102401 := (h2v102422 _ _).trans hv102401
    have hv102404 := (h2v102422 _ _).trans hv102404
    have hv102412 := (h2v102422 _ _).trans hv102412
    have hfr : (∀ b j : Nat, (tag b ≠ 19 ∨ j ≠ 1) → fld F b j = fld Fo b j) ∧ EF tag F Fo := ⟨fun b j n19_1 => (h2v102422 b j).trans (hfr.1 b j n19_1), fun b j hb => (h1v102422 b j (Or.inl (ns_ne hb gb102402 (by decide)))).trans (hfr.2 b j hb)⟩
    exact K63 z102405 z102413 _ _ _ _  hT hfr hv102404 hv102412 (lv_sub hl [0, 1, 2] rfl)
set_option maxHeartbeats 4000000 in
set_option maxRecDepth 100000 in
theorem kt342_X5_begin (l : Launch) (G : KG) (tag : Nat → Nat) (L : List Nat) (Fo : Nat → va_E) (ho : okT G ttC tag L Fo) (p0 : Nat) (p1 : Int32) (m0 : p0 ∈ L) (g0 : tag p0 = 10) (h1 : 0 ≤ p1.toInt ∧ p1.toInt ≤ 4) : TMv l yX5_begin cX5_begin 3 { frames := 0, cells := 0, slots := 0, locals := 0 } G ttC tag L Fo [.ref p0, .int p1] (fun F1 => ((∀ b j : Nat, fld F1 b j = fld Fo b j) ∧ EF tag F1 Fo)) := by
  refine t_bodyv (y := yX5_begin) (cd := cX5_begin) (mL := 3) (rm := { frames := 0, cells := 0, slots := 0, locals := 0 }) (av := [.ref p0, .int p1]) (by decide) (Nat.le_of_ble_eq_true rfl) ho ?_
  intro p e s m args below meth c ls A Q hQ X hT hl
  have hx := X.1.1
  have hb := X.1.2.1
  have hl : lv_has ls 3 [(0, .ref p0), (1, .int p1)] := hl
  obtain ⟨F, hFo⟩ : ∃ F : Nat → va_E, F = Fo := ⟨_, rfl⟩
  rw [← hFo] at hT
  have hfr : (∀ b j : Nat, fld F b j = fld Fo b j) ∧ EF tag F Fo := by
    rw [hFo]
    exact ⟨by intros; rfl, fun _ _ _ => rfl⟩
  have K2 : ∀ (n : Nat) (z102577 : Int32) (F : Nat → va_E) (H : Heap) (locs : List Loc) (ls : Array Slot), (4 - z102577.toInt < (n : Int)) → (0 ≤ z102577.toInt ∧ z102577.toInt ≤ 4) → TH G ttC A s tag L F H locs → ((∀ b j : Nat, fld F b j = fld Fo b j) ∧ EF tag F Fo) → lv_has ls 3 [(0, .ref p0), (1, .int p1), (2, .int z102577)] → W p l e { frames := 0, cells := 0, slots := 0, locals := 0 } s m args below meth c H locs 0 0 Q (F0 m 2 ls []) := by
    intro n
    induction n with
    | zero =>
      intro z102577 F H locs ls hn rz102577 hT hfr hl
      exfalso
      omega
    | succ n ih2 =>
      intro z102577 F H locs ls hn rz102577 hT hfr hl
      refine lv_iload_n hx hb dX5_begin_2 rfl (lv_at hl 2 rfl) ?_
      refine lv_iload_n hx hb dX5_begin_3 rfl (lv_at hl 1 rfl) ?_
      refine lv_icmp_ge (tgt := 23) hx hb dX5_begin_4 (by decide) (fun c102578 => ?_) (fun c102578 => ?_)
      · have w102579 := cv_le (rfl : p1.toInt = p1.toInt) (rfl : z102577.toInt = z102577.toInt) c102578
        exact t_vret hQ X hT hfr (Nat.le_of_ble_eq_true rfl) (Nat.le_of_ble_eq_true rfl) dX5_begin_23
      · have w102580 := cv_nle (rfl : p1.toInt = p1.toInt) (rfl : z102577.toInt = z102577.toInt) c102578
        refine lv_iload_n hx hb dX5_begin_7 rfl (lv_at hl 2 rfl) ?_
        refine lv_aload_n hx hb dX5_begin_8 rfl (lv_at hl 0 rfl) ?_
        refine t_alen X hT m0 g0 rfl (by decide) dX5_begin_9 ?_
        refine lv_topi (fun z102581 ez102581 => ?_)
        obtain rfl : z102581 = 4 := ez102581.trans (by rfl)
        refine lv_icmp_ge (tgt := 23) hx hb dX5_begin_10 (by decide) (fun c102582 => ?_) (fun c102582 => ?_)
        · have w102583 := cv_le (by decide : (4 : Int32).toInt = 4) (rfl : z102577.toInt = z102577.toInt) c102582
          exfalso
          omega
        · have w102584 := cv_nle (by decide : (4 : Int32).toInt = 4) (rfl : z102577.toInt = z102577.toInt) c102582
          refine lv_aload_n hx hb dX5_begin_13 rfl (lv_at hl 0 rfl) ?_
          refine lv_iload_n hx hb dX5_begin_14 rfl (lv_at hl 2 rfl) ?_
          refine lv_iload_n hx hb dX5_begin_15 rfl (lv_at hl 2 rfl) ?_
          refine t_ist X hT m0 g0 rfl (by omega) (show 0 ≤ (z102577 : Int32).toInt ∧ (z102577 : Int32).toInt ≤ 3 from (by omega)) dX5_begin_16 (fun F H locs hT v102585 h1v102585 h2v102585 => ?_)
          have hfr : (∀ b j : Nat, fld F b j = fld Fo b j) ∧ EF tag F Fo := ⟨fun b j  => (h2v102585 b j).trans (hfr.1 b j ), fun b j hb => (h1v102585 b j (Or.inl (ns_ne hb g0 (by decide)))).trans (hfr.2 b j hb)⟩
          obtain ⟨z102586, ez102586⟩ : ∃ y : Int32, y = z102577 + 1 := ⟨_, rfl⟩
          have hz102586 : z102586.toInt = z102577.toInt + 1 := ar_add ez102586 rfl (by decide : (1 : Int32).toInt = 1) (by omega) (by omega)
          refine lv_iinc (v := z102586) (lv' := [(2, .int z102586), (0, .ref p0), (1, .int p1)]) hx hb dX5_begin_17 hl (k := 2) rfl (by rw [ez102586]; rfl) (by decide) rfl (fun ls hl => ?_)
          refine lv_goto (tgt := 2) hx hb dX5_begin_20 (by decide) ?_
          exact ih2 z102586 _ _ _ _ (by omega) (by omega) hT hfr  (lv_sub hl [1, 2, 0] rfl)
  refine lv_iconst (v := 0) hx hb dX5_begin_0 (by decide) ?_
  refine lv_istore_n (lv' := [(2, .int 0), (0, .ref p0), (1, .int p1)]) hx hb dX5_begin_1 rfl hl (by decide) rfl (fun ls hl => ?_)
  have kk102587 : (0 : Int32).toInt = 0 := by decide
  exact K2 5 0 _ _ _ _ (by omega) (by decide) hT hfr  (lv_sub hl [1, 2, 0] rfl)
set_option maxHeartbeats 4000000 in
set_option maxRecDepth 100000 in
theorem kt343_X7_copyFrom (l : Launch) (G : KG) (tag : Nat → Nat) (L : List Nat) (Fo : Nat → va_E) (ho : okT G ttC tag L Fo) (p0 : Nat) (p1 : Nat) (m0 : p0 ∈ L) (g0 : tag p0 = 19) (m1 : p1 ∈ L) (g1 : tag p1 = 19) : TMv l yX7_copyFrom cX7_copyFrom 2 { frames := 1, cells := 0, slots := 0, locals := 24 } G ttC tag L Fo [.ref p0, .ref p1] (fun F1 => ((∀ b j : Nat, (tag b ≠ 19 ∨ j ≠ 0) → (tag b ≠ 19 ∨ j ≠ 1) → fld F1 b j = fld Fo b j) ∧ EF tag F1 Fo)) := by
  refine t_bodyv (y := yX7_copyFrom) (cd := cX7_copyFrom) (mL := 2) (rm := { frames := 1, cells := 0, slots := 0, locals := 24 }) (av := [.ref p0, .ref p1]) (by decide) (Nat.le_of_ble_eq_true rfl) ho ?_
  intro p e s m args below meth c ls A Q hQ X hT hl
  have hx := X.1.1
  have hb := X.1.2.1
  have hl : lv_has ls 2 [(0, .ref p0), (1, .ref p1)] := hl
  obtain ⟨F, hFo⟩ : ∃ F : Nat → va_E, F = Fo := ⟨_, rfl⟩
  rw [← hFo] at hT
  have hfr : (∀ b j : Nat, (tag b ≠ 19 ∨ j ≠ 0) → (tag b ≠ 19 ∨ j ≠ 1) → fld F b j = fld Fo b j) ∧ EF tag F Fo := by
    rw [hFo]
    exact ⟨by intros; rfl, fun _ _ _ => rfl⟩
  refine lv_aload_n hx hb dX7_copyFrom_0 rfl (lv_at hl 0 rfl) ?_
  refine lv_aload_n hx hb dX7_copyFrom_1 rfl (lv_at hl 1 rfl) ?_
  refine t_get (C := RX7) (T := TX7) (N := 7) X hT m1 g1 rfl rfl 0 (by decide) qw_187 inlX7 rfl dX7_copyFrom_2 (fun v102939 hv102939 ov102939 => ?_)
  obtain ⟨z102940, rfl, rz102940⟩ := okV_i ov102939
  refine t_put (C := RX7) (T := TX7) (N := 7) (v := .int z102940) X hT m0 g0 rfl tyX7 tyX7_ok nmX7 rfl 0 (by decide) qw_187 inlX7 rfl (by first | rfl | decide) (by first | rfl | decide) rfl (⟨_, rfl, (show (-2147483648) ≤ (z102940 : Int32).toInt from (by omega)), (show (z102940 : Int32).toInt ≤ 2147483647 from (by omega))⟩) dX7_copyFrom_5 (fun F H locs hT v102941 h1v102941 h2v102941 => ?_)
  have hfr : (∀ b j : Nat, (tag b ≠ 19 ∨ j ≠ 0) → (tag b ≠ 19 ∨ j ≠ 1) → fld F b j = fld Fo b j) ∧ EF tag F Fo := ⟨fun b j n19_0 n19_1 => (h1v102941 b j (fr_ne g0 n19_0)).trans (hfr.1 b j n19_0 n19_1), fun b j hb => (h2v102941 b j).trans (hfr.2 b j hb)⟩
  refine lv_aload_n hx hb dX7_copyFrom_8 rfl (lv_at hl 0 rfl) ?_
  refine lv_aload_n hx hb dX7_copyFrom_9 rfl (lv_at hl 1 rfl) ?_
  refine t_get (C := RX7) (T := TX7) (N := 7) X hT m1 g1 rfl rfl 1 (by decide) qw_188 inlX7 rfl dX7_copyFrom_10 (fun v102942 hv102942 ov102942 => ?_)
  obtain ⟨z102943, rfl, rz102943⟩ := okV_i ov102942
  refine t_put (C := RX7) (T := TX7) (N := 7) (v := .int z102943) X hT m0 g0 rfl tyX7 tyX7_ok nmX7 rfl 1 (by decide) qw_188 inlX7 rfl (by first | rfl | decide) (by first | rfl | decide) rfl (⟨_, rfl, (show (-2147483648) ≤ (z102943 : Int32).toInt from (by omega)), (show (z102943 : Int32).toInt ≤ 2147483647 from (by omega))⟩) dX7_copyFrom_13 (fun F H locs hT v102944 h1v102944 h2v102944 => ?_)
  have v102941 := (h1v102944 _ _ (Or.inr (by decide))).trans v102941
  have hfr : (∀ b j : Nat, (tag b ≠ 19 ∨ j ≠ 0) → (tag b ≠ 19 ∨ j ≠ 1) → fld F b j = fld Fo b j) ∧ EF tag F Fo := ⟨fun b j n19_0 n19_1 => (h1v102944 b j (fr_ne g0 n19_1)).trans (hfr.1 b j n19_0 n19_1), fun b j hb => (h2v102944 b j).trans (hfr.2 b j hb)⟩
  refine lv_aload_n hx hb dX7_copyFrom_16 rfl (lv_at hl 1 rfl) ?_
  refine t_get (C := RX7) (T := TX7) (N := 7) X hT m1 g1 rfl rfl 2 (by decide) qw_62 inlX7 rfl dX7_copyFrom_17 (fun v102945 hv102945 ov102945 => ?_)
  obtain ⟨b102946, rfl, mb102946, gb102946⟩ := okV_r ov102945
  have gb102946 : tag b102946 = 8 := tg_of gb102946
  refine lv_iconst (v := 0) hx hb dX7_copyFrom_20 (by decide) ?_
  refine lv_aload_n hx hb dX7_copyFrom_21 rfl (lv_at hl 0 rfl) ?_
  refine t_get (C := RX7) (T := TX7) (N := 7) X hT m0 g0 rfl rfl 2 (by decide) qw_62 inlX7 rfl dX7_copyFrom_22 (fun v102947 hv102947 ov102947 => ?_)
  obtain ⟨b102948, rfl, mb102948, gb102948⟩ := okV_r ov102947
  have gb102948 : tag b102948 = 8 := tg_of gb102948
  refine lv_iconst (v := 0) hx hb dX7_copyFrom_25 (by decide) ?_
  refine lv_iconst (v := 4) hx hb dX7_copyFrom_26 (by decide) ?_
  refine t_copy X hT hl mb102946 gb102946 mb102948 gb102948 rfl rfl (by decide) (by decide) (by decide) (by decide) (by decide) (fun _ _ => ⟨by decide, by decide⟩) qw_453 qw_454 qw_455 qw_456 (Nat.le_of_ble_eq_true rfl) (Nat.le_of_ble_eq_true rfl) dX7_copyFrom_27 (fun F H locs hT h2v102949 h1v102949 => ?_)
  have v102941 := (h2v102949 _ _).trans v102941
  have v102944 := (h2v102949 _ _).trans v102944
  have hv102945 := (h2v102949 _ _).trans hv102945
  have hv102947 := (h2v102949 _ _).trans hv102947
  have hfr : (∀ b j : Nat, (tag b ≠ 19 ∨ j ≠ 0) → (tag b ≠ 19 ∨ j ≠ 1) → fld F b j = fld Fo b j) ∧ EF tag F Fo := ⟨fun b j n19_0 n19_1 => (h2v102949 b j).trans (hfr.1 b j n19_0 n19_1), fun b j hb => (h1v102949 b j (ns_ne hb gb102948 (by decide))).trans (hfr.2 b j hb)⟩
  refine lv_aload_n hx hb dX7_copyFrom_30 rfl (lv_at hl 1 rfl) ?_
  refine t_get (C := RX7) (T := TX7) (N := 7) X hT m1 g1 rfl rfl 3 (by decide) qw_63 inlX7 rfl dX7_copyFrom_31 (fun v102950 hv102950 ov102950 => ?_)
  obtain ⟨b102951, rfl, mb102951, gb102951⟩ := okV_r ov102950
  have gb102951 : tag b102951 = 5 := tg_of gb102951
  refine lv_iconst (v := 0) hx hb dX7_copyFrom_34 (by decide) ?_
  refine lv_aload_n hx hb dX7_copyFrom_35 rfl (lv_at hl 0 rfl) ?_
  refine t_get (C := RX7) (T := TX7) (N := 7) X hT m0 g0 rfl rfl 3 (by decide) qw_63 inlX7 rfl dX7_copyFrom_36 (fun v102952 hv102952 ov102952 => ?_)
  obtain ⟨b102953, rfl, mb102953, gb102953⟩ := okV_r ov102952
  have gb102953 : tag b102953 = 5 := tg_of gb102953
  refine lv_iconst (v := 0) hx hb dX7_copyFrom_39 (by decide) ?_
  refine lv_iconst (v := 4) hx hb dX7_copyFrom_40 (by decide) ?_
  refine t_copy X hT hl mb102951 gb102951 mb102953 gb102953 rfl rfl (by decide) (by decide) (by decide) (by decide) (by decide) (fun _ _ => ⟨by decide, by decide⟩) qw_453 qw_454 qw_455 qw_456 (Nat.le_of_ble_eq_true rfl) (Nat.le_of_ble_eq_true rfl) dX7_copyFrom_41 (fun F H locs hT h2v102954 h1v102954 => ?_)
  have v102941 := (h2v102954 _ _).trans v102941
  have v102944 := (h2v102954 _ _).trans v102944
  have hv102945 := (h2v102954 _ _).trans hv102945
  have hv102947 := (h2v102954 _ _).trans hv102947
  have hv102950 := (h2v102954 _ _).trans hv102950
  have hv102952 := (h2v102954 _ _).trans hv102952
  have hfr : (∀ b j : Nat, (tag b ≠ 19 ∨ j ≠ 0) → (tag b ≠ 19 ∨ j ≠ 1) → fld F b j = fld Fo b j) ∧ EF tag F Fo := ⟨fun b j n19_0 n19_1 => (h2v102954 b j).trans (hfr.1 b j n19_0 n19_1), fun b j hb => (h1v102954 b j (ns_ne hb gb102953 (by decide))).trans (hfr.2 b j hb)⟩
  refine lv_aload_n hx hb dX7_copyFrom_44 rfl (lv_at hl 1 rfl) ?_
  refine t_get (C := RX7) (T := TX7) (N := 7) X hT m1 g1 rfl rfl 4 (by decide) qw_64 inlX7 rfl dX7_copyFrom_45 (fun v102955 hv102955 ov102955 => ?_)
  obtain ⟨b102956, rfl, mb102956, gb102956⟩ := okV_r ov102955
  have gb102956 : tag b102956 = 5 := tg_of gb102956
  refine lv_iconst (v := 0) hx hb dX7_copyFrom_48 (by decide) ?_
  refine lv_aload_n hx hb dX7_copyFrom_49 rfl (lv_at hl 0 rfl) ?_
  refine t_get (C := RX7) (T := TX7) (N := 7) X hT m0 g0 rfl rfl 4 (by decide) qw_64 inlX7 rfl dX7_copyFrom_50 (fun v102957 hv102957 ov102957 => ?_)
  obtain ⟨b102958, rfl, mb102958, gb102958⟩ := okV_r ov102957
  have gb102958 : tag b102958 = 5 := tg_of gb102958
  refine lv_iconst (v := 0) hx hb dX7_copyFrom_53 (by decide) ?_
  refine lv_iconst (v := 4) hx hb dX7_copyFrom_54 (by decide) ?_
  refine t_copy X hT hl mb102956 gb102956 mb102958 gb102958 rfl rfl (by decide) (by decide) (by decide) (by decide) (by decide) (fun _ _ => ⟨by decide, by decide⟩) qw_453 qw_454 qw_455 qw_456 (Nat.le_of_ble_eq_true rfl) (Nat.le_of_ble_eq_true rfl) dX7_copyFrom_55 (fun F H locs hT h2v102959 h1v102959 => ?_)
  have v102941 := (h2v102959 _ _).trans v102941
  have v102944 := (h2v102959 _ _).trans v102944
  have hv102945 := (h2v102959 _ _).trans hv102945
  have hv102947 := (h2v102959 _ _).trans hv102947
  have hv102950 := (h2v102959 _ _).trans hv102950
  have hv102952 := (h2v102959 _ _).trans hv102952
  have hv102955 := (h2v102959 _ _).trans hv102955
  have hv102957 := (h2v102959 _ _).trans hv102957
  have hfr : (∀ b j : Nat, (tag b ≠ 19 ∨ j ≠ 0) → (tag b ≠ 19 ∨ j ≠ 1) → fld F b j = fld Fo b j) ∧ EF tag F Fo := ⟨fun b j n19_0 n19_1 => (h2v102959 b j).trans (hfr.1 b j n19_0 n19_1), fun b j hb => (h1v102959 b j (ns_ne hb gb102958 (by decide))).trans (hfr.2 b j hb)⟩
  refine lv_aload_n hx hb dX7_copyFrom_58 rfl (lv_at hl 1 rfl) ?_
  refine t_get (C := RX7) (T := TX7) (N := 7) X hT m1 g1 rfl rfl 5 (by decide) qw_65 inlX7 rfl dX7_copyFrom_59 (fun v102960 hv102960 ov102960 => ?_)
  obtain ⟨b102961, rfl, mb102961, gb102961⟩ := okV_r ov102960
  have gb102961 : tag b102961 = 7 := tg_of gb102961
  refine lv_iconst (v := 0) hx hb dX7_copyFrom_62 (by decide) ?_
  refine lv_aload_n hx hb dX7_copyFrom_63 rfl (lv_at hl 0 rfl) ?_
  refine t_get (C := RX7) (T := TX7) (N := 7) X hT m0 g0 rfl rfl 5 (by decide) qw_65 inlX7 rfl dX7_copyFrom_64 (fun v102962 hv102962 ov102962 => ?_)
  obtain ⟨b102963, rfl, mb102963, gb102963⟩ := okV_r ov102962
  have gb102963 : tag b102963 = 7 := tg_of gb102963
  refine lv_iconst (v := 0) hx hb dX7_copyFrom_67 (by decide) ?_
  refine lv_bipush (v := 6) hx hb dX7_copyFrom_68 (by decide) ?_
  refine t_copy X hT hl mb102961 gb102961 mb102963 gb102963 rfl rfl (by decide) (by decide) (by decide) (by decide) (by decide) (fun _ _ => ⟨by decide, by decide⟩) qw_453 qw_454 qw_455 qw_456 (Nat.le_of_ble_eq_true rfl) (Nat.le_of_ble_eq_true rfl) dX7_copyFrom_70 (fun F H locs hT h2v102964 h1v102964 => ?_)
  have v102941 := (h2v102964 _ _).trans v102941
  have v102944 := (h2v102964 _ _).trans v102944
  have hv102945 := (h2v102964 _ _).trans hv102945
  have hv102947 := (h2v102964 _ _).trans hv102947
  have hv102950 := (h2v102964 _ _).trans hv102950
  have hv102952 := (h2v102964 _ _).trans hv102952
  have hv102955 := (h2v102964 _ _).trans hv102955
  have hv102957 := (h2v102964 _ _).trans hv102957
  have hv102960 := (h2v102964 _ _).trans hv102960
  have hv102962 := (h2v102964 _ _).trans hv102962
  have hfr : (∀ b j : Nat, (tag b ≠ 19 ∨ j ≠ 0) → (tag b ≠ 19 ∨ j ≠ 1) → fld F b j = fld Fo b j) ∧ EF tag F Fo := ⟨fun b j n19_0 n19_1 => (h2v102964 b j).trans (hfr.1 b j n19_0 n19_1), fun b j hb => (h1v102964 b j (ns_ne hb gb102963 (by decide))).trans (hfr.2 b j hb)⟩
  refine lv_aload_n hx hb dX7_copyFrom_73 rfl (lv_at hl 1 rfl) ?_
  refine t_get (C := RX7) (T := TX7) (N := 7) X hT m1 g1 rfl rfl 6 (by decide) qw_66 inlX7 rfl dX7_copyFrom_74 (fun v102965 hv102965 ov102965 => ?_)
  obtain ⟨b102966, rfl, mb102966, gb102966⟩ := okV_r ov102965
  have gb102966 : tag b102966 = 9 := tg_of gb102966
  refine lv_iconst (v := 0) hx hb dX7_copyFrom_77 (by decide) ?_
  refine lv_aload_n hx hb dX7_copyFrom_78 rfl (lv_at hl 0 rfl) ?_
  refine t_get (C := RX7) (T := TX7) (N := 7) X hT m0 g0 rfl rfl 6 (by decide) qw_66 inlX7 rfl dX7_copyFrom_79 (fun v102967 hv102967 ov102967 => ?_)
  obtain ⟨b102968, rfl, mb102968, gb102968⟩ := okV_r ov102967
  have gb102968 : tag b102968 = 9 := tg_of gb102968
  refine lv_iconst (v := 0) hx hb dX7_copyFrom_82 (by decide) ?_
  refine lv_sipush (v := 192) hx hb dX7_copyFrom_83 (by decide) ?_
  refine t_copy X hT hl mb102966 gb102966 mb102968 gb102968 rfl rfl (by decide) (by decide) (by decide) (by decide) (by decide) (fun _ _ => ⟨by decide, by decide⟩) qw_453 qw_454 qw_455 qw_456 (Nat.le_of_ble_eq_true rfl) (Nat.le_of_ble_eq_true rfl) dX7_copyFrom_86 (fun F H locs hT h2v102969 h1v102969 => ?_)
  have v102941 := (h2v102969 _ _).trans v102941
  have v102944 := (h2v102969 _ _).trans v102944
  have hv102945 := (h2v102969 _ _).trans hv102945
  have hv102947 := (h2v102969 _ _).trans hv102947
  have hv102950 := (h2v102969 _ _).trans hv102950
  have hv102952 := (h2v102969 _ _).trans hv102952
  have hv102955 := (h2v102969 _ _).trans hv102955
  have hv102957 := (h2v102969 _ _).trans hv102957
  have hv102960 := (h2v102969 _ _).trans hv102960
  have hv102962 := (h2v102969 _ _).trans hv102962
  have hv102965 := (h2v102969 _ _).trans hv102965
  have hv102967 := (h2v102969 _ _).trans hv102967
  have hfr : (∀ b j : Nat, (tag b ≠ 19 ∨ j ≠ 0) → (tag b ≠ 19 ∨ j ≠ 1) → fld F b j = fld Fo b j) ∧ EF tag F Fo := ⟨fun b j n19_0 n19_1 => (h2v102969 b j).trans (hfr.1 b j n19_0 n19_1), fun b j hb => (h1v102969 b j (ns_ne hb gb102968 (by decide))).trans (hfr.2 b j hb)⟩
  exact t_vret hQ X hT hfr (Nat.le_of_ble_eq_true rfl) (Nat.le_of_ble_eq_true rfl) dX7_copyFrom_89
set_option maxHeartbeats 4000000 in
set_option maxRecDepth 100000 in
theorem kt344_X10_pass (l : Launch) (G : KG) (tag : Nat → Nat) (L : List Nat) (Fo : Nat → va_E) (ho : okT G ttC tag L Fo) (p0 : Nat) (p1 : Nat) (p2 : Nat) (m0 : p0 ∈ L) (g0 : tag p0 = 18) (m1 : p1 ∈ L) (g1 : tag p1 = 19) (m2 : p2 ∈ L) (g2 : tag p2 = 10) : TMv l yX10_pass cX10_pass 5 { frames := 5, cells := 0, slots := 0, locals := 133 } G ttC tag L Fo [.ref p0, .ref p1, .ref p2] (fun F1 => ((∀ b j : Nat, (tag b ≠ 19 ∨ j ≠ 0) → (tag b ≠ 19 ∨ j ≠ 1) → fld F1 b j = fld Fo b j) ∧ EF tag F1 Fo)) := by
  refine t_bodyv (y := yX10_pass) (cd := cX10_pass) (mL := 5) (rm := { frames := 5, cells := 0, slots := 0, locals := 133 }) (av := [.ref p0, .ref p1, .ref p2]) (by decide) (Nat.le_of_ble_eq_true rfl) ho ?_
  intro p e s m args below meth c ls A Q hQ X hT hl
  have hx := X.1.1
  have hb := X.1.2.1
  have hl : lv_has ls 5 [(0, .ref p0), (1, .ref p1), (2, .ref p2)] := hl
  obtain ⟨F, hFo⟩ : ∃ F : Nat → va_E, F = Fo := ⟨_, rfl⟩
  rw [← hFo] at hT
  have hfr : (∀ b j : Nat, (tag b ≠ 19 ∨ j ≠ 0) → (tag b ≠ 19 ∨ j ≠ 1) → fld F b j = fld Fo b j) ∧ EF tag F Fo := by
    rw [hFo]
    exact ⟨by intros; rfl, fun _ _ _ => rfl⟩
  have K51 : ∀ (z103532 : Int32) (z103533 : Int32) (F : Nat → va_E) (H : Heap) (locs : List Loc) (ls : Array Slot), (0 ≤ z103532.toInt ∧ z103532.toInt ≤ 4) → (0 ≤ z103533.toInt ∧ z103533.toInt ≤ 4) → TH G ttC A s tag L F H locs → ((∀ b j : Nat, (tag b ≠ 19 ∨ j ≠ 0) → (tag b ≠ 19 ∨ j ≠ 1) → fld F b j = fld Fo b j) ∧ EF tag F Fo) → fld F p0 10 = .int z103533 → lv_has ls 5 [(0, .ref p0), (1, .ref p1), (2, .ref p2), (3, .int z103532)] → W p l e { frames := 5, cells := 0, slots := 0, locals := 133 } s m args below meth c H locs 0 0 Q (F0 m 51 ls []) := by
    intro z103532 z103533 F H locs ls rz103532 rz103533 hT hfr qz103533 hl
    refine lv_aload_n hx hb dX10_pass_51 rfl (lv_at hl 1 rfl) ?_
    refine lv_dup hx hb dX10_pass_52 rfl ?_
    refine t_get (C := RX7) (T := TX7) (N := 7) X hT m1 g1 rfl rfl 0 (by decide) qw_1102 inlX7 rfl dX10_pass_53 (fun v103534 hv103534 ov103534 => ?_)
    obtain ⟨z103535, rfl, rz103535⟩ := okV_i ov103534
    refine lv_iconst (v := 1) hx hb dX10_pass_56 (by decide) ?_
    refine lv_iadd hx hb dX10_pass_57 ?_
    refine lv_topi (fun z103536 ez103536 => ?_)
    have rz103536 := rg_all z103536
    refine t_put (C := RX7) (T := TX7) (N := 7) (v := .int z103536) X hT m1 g1 rfl tyX7 tyX7_ok nmX7 rfl 0 (by decide) qw_1102 inlX7 rfl (by first | rfl | decide) (by first | rfl | decide) rfl (⟨_, rfl, (show (-2147483648) ≤ (z103536 : Int32).toInt from (by omega)), (show (z103536 : Int32).toInt ≤ 2147483647 from (by omega))⟩) dX10_pass_58 (fun F H locs hT v103537 h1v103537 h2v103537 => ?_)
    have qz103533 := (h1v103537 _ _ (Or.inr (by decide))).trans qz103533
    have hfr : (∀ b j : Nat, (tag b ≠ 19 ∨ j ≠ 0) → (tag b ≠ 19 ∨ j ≠ 1) → fld F b j = fld Fo b j) ∧ EF tag F Fo := ⟨fun b j n19_0 n19_1 => (h1v103537 b j (fr_ne g1 n19_0)).trans (hfr.1 b j n19_0 n19_1), fun b j hb => (h2v103537 b j).trans (hfr.2 b j hb)⟩
    exact t_vret hQ X hT hfr (Nat.le_of_ble_eq_true rfl) (Nat.le_of_ble_eq_true rfl) dX10_pass_61
  have K2 : ∀ (n : Nat) (z103538 : Int32) (F : Nat → va_E) (H : Heap) (locs : List Loc) (ls : Array Slot), (4 - z103538.toInt < (n : Int)) → (0 ≤ z103538.toInt ∧ z103538.toInt ≤ 4) → TH G ttC A s tag L F H locs → ((∀ b j : Nat, (tag b ≠ 19 ∨ j ≠ 0) → (tag b ≠ 19 ∨ j ≠ 1) → fld F b j = fld Fo b j) ∧ EF tag F Fo) → lv_has ls 5 [(0, .ref p0), (1, .ref p1), (2, .ref p2), (3, .int z103538)] → W p l e { frames := 5, cells := 0, slots := 0, locals := 133 } s m args below meth c H locs 0 0 Q (F0 m 2 ls []) := by
    intro n
    induction n with
    | zero =>
      intro z103538 F H locs ls hn rz103538 hT hfr hl
      exfalso
      omega
    | succ n ih2 =>
      intro z103538 F H locs ls hn rz103538 hT hfr hl
      have K45 : ∀ (z103540 : Int32) (z103541 : Int32) (F : Nat → va_E) (H : Heap) (locs : List Loc) (ls : Array Slot), (0 ≤ z103540.toInt ∧ z103540.toInt ≤ 3) → (1 ≤ z103541.toInt ∧ z103541.toInt ≤ 4) → (0 ≤ z103538.toInt ∧ z103538.toInt ≤ 3) → TH G ttC A s tag L F H locs → ((∀ b j : Nat, (tag b ≠ 19 ∨ j ≠ 0) → (tag b ≠ 19 ∨ j ≠ 1) → fld F b j = fld Fo b j) ∧ EF tag F Fo) → fld F p0 10 = .int z103541 → lv_has ls 5 [(0, .ref p0), (1, .ref p1), (2, .ref p2), (3, .int z103538), (4, .int z103540)] → W p l e { frames := 5, cells := 0, slots := 0, locals := 133 } s m args below meth c H locs 0 0 Q (F0 m 45 ls []) := by
        intro z103540 z103541 F H locs ls rz103540 rz103541 r9s103539 hT hfr qz103541 hl
        obtain ⟨z103542, ez103542⟩ : ∃ y : Int32, y = z103538 + 1 := ⟨_, rfl⟩
        have hz103542 : z103542.toInt = z103538.toInt + 1 := ar_add ez103542 rfl (by decide : (1 : Int32).toInt = 1) (by omega) (by omega)
        refine lv_iinc (v := z103542) (lv' := [(3, .int z103542), (0, .ref p0), (1, .ref p1), (2, .ref p2), (4, .int z103540)]) hx hb dX10_pass_45 hl (k := 3) rfl (by rw [ez103542]; rfl) (by decide) rfl (fun ls hl => ?_)
        refine lv_goto (tgt := 2) hx hb dX10_pass_48 (by decide) ?_
        exact ih2 z103542 _ _ _ _ (by omega) (by omega) hT hfr  (lv_sub hl [1, 2, 3, 0] rfl)
      refine lv_iload_n hx hb dX10_pass_2 rfl (lv_at hl 3 rfl) ?_
      refine lv_aload_n hx hb dX10_pass_3 rfl (lv_at hl 0 rfl) ?_
      refine t_get (C := RX1) (T := TX1) (N := 20) X hT m0 g0 rfl rfl 10 (by decide) qw_1100 inlX1 rfl dX10_pass_4 (fun v103543 hv103543 ov103543 => ?_)
      obtain ⟨z103544, rfl, rz103544⟩ := okV_i ov103543
      refine lv_icmp_ge (tgt := 51) hx hb dX10_pass_7 (by decide) (fun c103545 => ?_) (fun c103545 => ?_)
      · have w103546 := cv_le (rfl : z103544.toInt = z103544.toInt) (rfl : z103538.toInt = z103538.toInt) c103545
        exact K51 z103538 z103544 _ _ _ _ (by omega) (by omega) hT hfr hv103543 (lv_sub hl [0, 1, 2, 3] rfl)
      · have w103547 := cv_nle (rfl : z103544.toInt = z103544.toInt) (rfl : z103538.toInt = z103538.toInt) c103545
        refine lv_iload_n hx hb dX10_pass_10 rfl (lv_at hl 3 rfl) ?_
        refine lv_aload_n hx hb dX10_pass_11 rfl (lv_at hl 2 rfl) ?_
        refine t_alen X hT m2 g2 rfl (by decide) dX10_pass_12 ?_
        refine lv_topi (fun z103548 ez103548 => ?_)
        obtain rfl : z103548 = 4 := ez103548.trans (by rfl)
        refine lv_icmp_ge (tgt := 51) hx hb dX10_pass_13 (by decide) (fun c103549 => ?_) (fun c103549 => ?_)
        · have w103550 := cv_le (by decide : (4 : Int32).toInt = 4) (rfl : z103538.toInt = z103538.toInt) c103549
          exfalso
          omega
        · have w103551 := cv_nle (by decide : (4 : Int32).toInt = 4) (rfl : z103538.toInt = z103538.toInt) c103549
          refine lv_aload_n hx hb dX10_pass_16 rfl (lv_at hl 2 rfl) ?_
          refine lv_iload_n hx hb dX10_pass_17 rfl (lv_at hl 3 rfl) ?_
          refine t_ild X hT m2 g2 rfl (by omega) dX10_pass_18 (fun z103552 vz103552 rz103552 => ?_)
          have rz103552 : 0 ≤ z103552.toInt ∧ z103552.toInt ≤ 3 := rz103552
          refine lv_istore (lv' := [(4, .int z103552), (0, .ref p0), (1, .ref p1), (2, .ref p2), (3, .int z103538)]) hx hb dX10_pass_19 hl (by decide) rfl (fun ls hl => ?_)
          refine lv_aload_n hx hb dX10_pass_21 rfl (lv_at hl 2 rfl) ?_
          refine t_get (C := RX7) (T := TX7) (N := 7) X hT m1 g1 rfl rfl 3 (by decide) qw_1101 inlX7 rfl dX10_pass_22 (fun v103553 hv103553 ov103553 => ?_)
          obtain ⟨b103554, rfl, mb103554, gb103554⟩ := okV_r ov103553
          have gb103554 : tag b103554 = 5 := tg_of gb103554
          refine lv_iload hx hb dX10_pass_25 (lv_at hl 0 rfl) ?_
          refine t_ild X hT mb103554 gb103554 rfl (by omega) dX10_pass_27 (fun z103555 vz103555 rz103555 => ?_)
          have rz103555 : (-2147483648) ≤ z103555.toInt ∧ z103555.toInt ≤ 2147483647 := rz103555
          refine lv_if_le (tgt := 45) hx hb dX10_pass_28 (by decide) (fun c103556 => ?_) (fun c103556 => ?_)
          · have w103557 := cv_le (rfl : z103555.toInt = z103555.toInt) (by decide : (0 : Int32).toInt = 0) c103556
            exact K45 z103552 z103544 _ _ _ _ (by omega) (by omega) (by omega) hT hfr hv103543 (lv_sub hl [1, 2, 3, 4, 0] rfl)
          · have w103558 := cv_nle (rfl : z103555.toInt = z103555.toInt) (by decide : (0 : Int32).toInt = 0) c103556
            refine lv_aload_n hx hb dX10_pass_31 rfl (lv_at hl 1 rfl) ?_
            refine lv_aload_n hx hb dX10_pass_32 rfl (lv_at hl 2 rfl) ?_
            refine lv_iload hx hb dX10_pass_33 (lv_at hl 0 rfl) ?_
            refine t_cSv (n := 3) (As := [.ref p0, .ref p1, .int z103552]) (rest := []) X hT (kt341_X10_liveOn l G tag L F hT.2.2.2 p0 p1 z103552 m0 g0 m1 g1 (by omega)) qw_1103 qw_1104 qw_32 qw_1105 ⟨by decide +kernel, by decide +kernel, by decide +kernel⟩ ⟨Nat.le_of_ble_eq_true rfl, Nat.le_of_ble_eq_true rfl⟩ hl rfl rfl (Nat.le_of_ble_eq_true rfl) dX10_pass_35 ⟨Nat.le_of_ble_eq_true rfl, Nat.le_of_ble_eq_true rfl⟩ (fun F H locs hT hz103559 => ?_)
            have yz103559 := hz103559
            have hv103543 := (yz103559.1 _ 10 (Or.inr (by decide))).trans hv103543
            have hv103553 := (yz103559.1 _ 3 (Or.inr (by decide))).trans hv103553
            have hfr : (∀ b j : Nat, (tag b ≠ 19 ∨ j ≠ 0) → (tag b ≠ 19 ∨ j ≠ 1) → fld F b j = fld Fo b j) ∧ EF tag F Fo := ⟨fun b j n19_0 n19_1 => (yz103559.1 b j n19_1).trans (hfr.1 b j n19_0 n19_1), fun b j hb => (yz103559.2 b j hb).trans (hfr.2 b j hb)⟩
            refine lv_aload_n hx hb dX10_pass_38 rfl (lv_at hl 1 rfl) ?_
            refine lv_aload_n hx hb dX10_pass_39 rfl (lv_at hl 2 rfl) ?_
            refine lv_iload hx hb dX10_pass_40 (lv_at hl 0 rfl) ?_
            refine t_cSv (n := 3) (As := [.ref p0, .ref p1, .int z103552]) (rest := []) X hT (kt339_X10_grow l G tag L F hT.2.2.2 p0 p1 z103552 m0 g0 m1 g1 (by omega)) qw_1128 qw_1129 qw_32 qw_1130 ⟨by decide +kernel, by decide +kernel, by decide +kernel⟩ ⟨Nat.le_of_ble_eq_true rfl, Nat.le_of_ble_eq_true rfl⟩ hl rfl rfl (Nat.le_of_ble_eq_true rfl) dX10_pass_42 ⟨Nat.le_of_ble_eq_true rfl, Nat.le_of_ble_eq_true rfl⟩ (fun F H locs hT hz103560 => ?_)
            have yz103560 := hz103560
            have hv103543 := (yz103560.1 _ 10 ).trans hv103543
            have hv103553 := (yz103560.1 _ 3 ).trans hv103553
            have hfr : (∀ b j : Nat, (tag b ≠ 19 ∨ j ≠ 0) → (tag b ≠ 19 ∨ j ≠ 1) → fld F b j = fld Fo b j) ∧ EF tag F Fo := ⟨fun b j n19_0 n19_1 => (yz103560.1 b j ).trans (hfr.1 b j n19_0 n19_1), fun b j hb => (yz103560.2 b j hb).trans (hfr.2 b j hb)⟩
            exact K45 z103552 z103544 _ _ _ _ (by omega) (by omega) (by omega) hT hfr hv103543 (lv_sub hl [1, 2, 3, 4, 0] rfl)
  refine lv_iconst (v := 0) hx hb dX10_pass_0 (by decide) ?_
  refine lv_istore_n (lv' := [(3, .int 0), (0, .ref p0), (1, .ref p1), (2, .ref p2)]) hx hb dX10_pass_1 rfl hl (by decide) rfl (fun ls hl => ?_)
  have kk103561 : (0 : Int32).toInt = 0 := by decide
  exact K2 5 0 _ _ _ _ (by omega) (by decide) hT hfr  (lv_sub hl [1, 2, 3, 0] rfl)
