set_option maxHeartbeats 4000000 in
set_option maxRecDepth 100000 in
theorem kt45_X10_grow (l : Launch) (G : KG) (tag : Nat → Nat) (L : List Nat) (Fo : Nat → va_E) (ho : okT G ttC tag L Fo) (p0 : Nat) (p1 : Nat) (p2 : Int32) (m0 : p0 ∈ L) (g0 : tag p0 = 18) (m1 : p1 ∈ L) (g1 : tag p1 = 19) (h2 : 0 ≤ p2.toInt ∧ p2.toInt ≤ 3) : TMv l yX10_grow cX10_grow 6 { frames := 4, cells := 0, slots := 0, locals := 108 } G ttC tag L Fo [.ref p0, .ref p1, .int p2] (fun F1 => ((∀ b j : Nat, fld F1 b j = fld Fo b j) ∧ EF tag F1 Fo)) := by
  refine t_bodyv (y := yX10_grow) (cd := cX10_grow) (mL := 6) (rm := { frames := 4, cells := 0, slots := 0, locals := 108 }) (av := [.ref p0, .ref p1, .int p2]) (by decide) (Nat.le_of_ble_eq_true rfl) ho ?_
  intro p e s m args below meth c ls A Q hQ X hT hl
  have hx := X.1.1
  have hb := X.1.2.1
  have hl : lv_has ls 6 [(0, .ref p0), (1, .ref p1), (2, .int p2)] := hl
  obtain ⟨F, hFo⟩ : ∃ F : Nat → va_E, F = Fo := ⟨_, rfl⟩
  rw [← hFo] at hT
  have hfr : (∀ b j : Nat, fld F b j = fld Fo b j) ∧ EF tag F Fo := by
    rw [hFo]
    exact ⟨by intros; rfl, fun _ _ _ => rfl⟩
  refine lv_aload_n hx hb dX10_grow_0 rfl (lv_at hl 0 rfl) ?_
  refine t_get (C := RX1) (T := TX1) (N := 20) X hT m0 g0 rfl rfl 13 (by decide) qw_1131 inlX1 rfl dX10_grow_1 (fun v15197 hv15197 ov15197 => ?_)
  obtain ⟨b15198, rfl, mb15198, gb15198⟩ := okV_r ov15197
  have gb15198 : tag b15198 = 5 := tg_of gb15198
  refine lv_iload_n hx hb dX10_grow_4 rfl (lv_at hl 2 rfl) ?_
  refine t_ild X hT mb15198 gb15198 rfl (by omega) dX10_grow_5 (fun z15199 vz15199 rz15199 => ?_)
  have rz15199 : (-2147483648) ≤ z15199.toInt ∧ z15199.toInt ≤ 2147483647 := rz15199
  refine lv_istore_n (lv' := [(3, .int z15199), (0, .ref p0), (1, .ref p1), (2, .int p2)]) hx hb dX10_grow_6 rfl hl (by decide) rfl (fun ls hl => ?_)
  refine lv_aload_n hx hb dX10_grow_7 rfl (lv_at hl 1 rfl) ?_
  refine lv_aload_n hx hb dX10_grow_8 rfl (lv_at hl 2 rfl) ?_
  refine lv_iload_n hx hb dX10_grow_9 rfl (lv_at hl 3 rfl) ?_
  refine lv_iload_n hx hb dX10_grow_10 rfl (lv_at hl 0 rfl) ?_
  refine t_cSi (n := 4) (As := [.ref p0, .ref p1, .int p2, .int z15199]) (rest := []) X hT (kt33_X6_priceOf l G tag L F hT.2.2.2 p0 p1 p2 z15199 m0 g0 m1 g1 (by omega)) qw_1132 qw_960 qw_380 qw_961 ⟨by decide +kernel, by decide +kernel, by decide +kernel⟩ ⟨Nat.le_of_ble_eq_true rfl, Nat.le_of_ble_eq_true rfl⟩ hl rfl rfl (Nat.le_of_ble_eq_true rfl) dX10_grow_11 ⟨Nat.le_of_ble_eq_true rfl, Nat.le_of_ble_eq_true rfl⟩ (fun z15200 F9 H locs hT hz15200 => ?_)
  obtain ⟨fz15200, hz15200⟩ := hz15200
  rw [fz15200] at hT
  refine lv_istore (lv' := [(4, .int z15200), (3, .int z15199), (0, .ref p0), (1, .ref p1), (2, .int p2)]) hx hb dX10_grow_14 hl (by decide) rfl (fun ls hl => ?_)
  refine lv_iload hx hb dX10_grow_16 (lv_at hl 0 rfl) ?_
  refine lv_aload_n hx hb dX10_grow_18 rfl (lv_at hl 3 rfl) ?_
  refine t_get (C := RX7) (T := TX7) (N := 7) X hT m1 g1 rfl rfl 4 (by decide) qw_1106 inlX7 rfl dX10_grow_19 (fun v15201 hv15201 ov15201 => ?_)
  obtain ⟨b15202, rfl, mb15202, gb15202⟩ := okV_r ov15201
  have gb15202 : tag b15202 = 5 := tg_of gb15202
  refine lv_iload_n hx hb dX10_grow_22 rfl (lv_at hl 4 rfl) ?_
  refine t_ild X hT mb15202 gb15202 rfl (by omega) dX10_grow_23 (fun z15203 vz15203 rz15203 => ?_)
  have rz15203 : (-2147483648) ≤ z15203.toInt ∧ z15203.toInt ≤ 2147483647 := rz15203
  refine lv_icmp_gt (tgt := 36) hx hb dX10_grow_24 (by decide) (fun c15204 => ?_) (fun c15204 => ?_)
  · have w15205 := cv_lt (rfl : z15203.toInt = z15203.toInt) (rfl : z15200.toInt = z15200.toInt) c15204
    exact t_vret hQ X hT hfr (Nat.le_of_ble_eq_true rfl) (Nat.le_of_ble_eq_true rfl) dX10_grow_36
  · have w15206 := cv_nlt (rfl : z15203.toInt = z15203.toInt) (rfl : z15200.toInt = z15200.toInt) c15204
    refine lv_aload_n hx hb dX10_grow_27 rfl (lv_at hl 2 rfl) ?_
    refine lv_aload_n hx hb dX10_grow_28 rfl (lv_at hl 3 rfl) ?_
    refine lv_iload_n hx hb dX10_grow_29 rfl (lv_at hl 4 rfl) ?_
    refine t_cSi (n := 3) (As := [.ref p0, .ref p1, .int p2]) (rest := []) X hT (kt31_X6_isFit l G tag L F hT.2.2.2 p0 p1 p2 m0 g0 m1 g1 (by omega)) qw_1133 qw_403 qw_380 qw_404 ⟨by decide +kernel, by decide +kernel, by decide +kernel⟩ ⟨Nat.le_of_ble_eq_true rfl, Nat.le_of_ble_eq_true rfl⟩ hl rfl rfl (Nat.le_of_ble_eq_true rfl) dX10_grow_30 ⟨Nat.le_of_ble_eq_true rfl, Nat.le_of_ble_eq_true rfl⟩ (fun z15207 F9 H locs hT hz15207 => ?_)
    obtain ⟨fz15207, hz15207⟩ := hz15207
    rw [fz15207] at hT
    refine lv_if_ne (tgt := 37) hx hb dX10_grow_33 (by decide) (fun c15208 => ?_) (fun c15208 => ?_)
    · have w15209 := cv_ne (rfl : z15207.toInt = z15207.toInt) (by decide : (0 : Int32).toInt = 0) c15208
      refine lv_aload_n hx hb dX10_grow_37 rfl (lv_at hl 2 rfl) ?_
      refine lv_aload_n hx hb dX10_grow_38 rfl (lv_at hl 3 rfl) ?_
      refine lv_iload_n hx hb dX10_grow_39 rfl (lv_at hl 4 rfl) ?_
      refine t_cSi (n := 3) (As := [.ref p0, .ref p1, .int p2]) (rest := []) X hT (kt44_X6_lawDoor l G tag L F hT.2.2.2 p0 p1 p2 m0 g0 m1 g1 (by omega)) qw_1134 qw_914 qw_380 qw_915 ⟨by decide +kernel, by decide +kernel, by decide +kernel⟩ ⟨Nat.le_of_ble_eq_true rfl, Nat.le_of_ble_eq_true rfl⟩ hl rfl rfl (Nat.le_of_ble_eq_true rfl) dX10_grow_40 ⟨Nat.le_of_ble_eq_true rfl, Nat.le_of_ble_eq_true rfl⟩ (fun z15210 F9 H locs hT hz15210 => ?_)
      obtain ⟨fz15210, hz15210⟩ := hz15210
      rw [fz15210] at hT
      refine lv_istore (lv' := [(5, .int z15210), (4, .int z15200), (3, .int z15199), (0, .ref p0), (1, .ref p1), (2, .int p2)]) hx hb dX10_grow_43 hl (by decide) rfl (fun ls hl => ?_)
      refine lv_iload hx hb dX10_grow_45 (lv_at hl 0 rfl) ?_
      refine lv_bipush (v := (-2)) hx hb dX10_grow_47 (by decide) ?_
      refine lv_icmp_ne (tgt := 53) hx hb dX10_grow_49 (by decide) (fun c15211 => ?_) (fun c15211 => ?_)
      · have w15212 := cv_ne (rfl : z15210.toInt = z15210.toInt) (by decide : ((-2) : Int32).toInt = (-2)) c15211
        refine lv_aload_n hx hb dX10_grow_53 rfl (lv_at hl 4 rfl) ?_
        refine t_get (C := RX7) (T := TX7) (N := 7) X hT m1 g1 rfl rfl 4 (by decide) qw_1106 inlX7 rfl dX10_grow_54 (fun v15213 hv15213 ov15213 => ?_)
        obtain rfl : v15213 = .ref b15202 := hv15213.symm.trans hv15201
        refine lv_iload_n hx hb dX10_grow_57 rfl (lv_at hl 5 rfl) ?_
        refine lv_dup2_11 hx hb dX10_grow_58 rfl rfl ?_
        refine t_ild X hT mb15202 gb15202 rfl (by omega) dX10_grow_59 (fun z15214 vz15214 rz15214 => ?_)
        obtain rfl : z15203 = z15214 := vz15203.symm.trans vz15214
        refine lv_iload hx hb dX10_grow_60 (lv_at hl 1 rfl) ?_
        refine lv_isub hx hb dX10_grow_62 ?_
        refine lv_topi (fun z15215 ez15215 => ?_)
        have rz15215 := rg_all z15215
        refine t_ist X hT mb15202 gb15202 rfl (by omega) (show (-2147483648) ≤ (z15215 : Int32).toInt ∧ (z15215 : Int32).toInt ≤ 2147483647 from (by omega)) dX10_grow_63 (fun F H locs hT v15216 h1v15216 h2v15216 => ?_)
        have hv15197 := (h2v15216 _ _).trans hv15197
        have hv15201 := (h2v15216 _ _).trans hv15201
        have hfr : (∀ b j : Nat, fld F b j = fld Fo b j) ∧ EF tag F Fo := ⟨fun b j  => (h2v15216 b j).trans (hfr.1 b j ), fun b j hb => (h1v15216 b j (Or.inl (ns_ne hb gb15202 (by decide)))).trans (hfr.2 b j hb)⟩
        refine lv_aload_n hx hb dX10_grow_64 rfl (lv_at hl 4 rfl) ?_
        refine lv_iload_n hx hb dX10_grow_65 rfl (lv_at hl 5 rfl) ?_
        refine lv_iload_n hx hb dX10_grow_66 rfl (lv_at hl 2 rfl) ?_
        refine lv_iload hx hb dX10_grow_67 (lv_at hl 0 rfl) ?_
        refine lv_bipush (v := 100) hx hb dX10_grow_69 (by decide) ?_
        refine lv_idiv hx hb dX10_grow_71 (by decide) ?_
        refine lv_topi (fun z15217 ez15217 => ?_)
        have rz15217 := rg_all z15217
        refine lv_iload hx hb dX10_grow_72 (lv_at hl 0 rfl) ?_
        refine lv_bipush (v := 100) hx hb dX10_grow_74 (by decide) ?_
        refine lv_irem hx hb dX10_grow_76 (by decide) ?_
        refine lv_topi (fun z15218 ez15218 => ?_)
        have rz15218 := rg_all z15218
        refine lv_aload_n hx hb dX10_grow_77 rfl (lv_at hl 4 rfl) ?_
        refine t_get (C := RX7) (T := TX7) (N := 7) X hT m1 g1 rfl rfl 3 (by decide) qw_1101 inlX7 rfl dX10_grow_78 (fun v15219 hv15219 ov15219 => ?_)
        obtain ⟨b15220, rfl, mb15220, gb15220⟩ := okV_r ov15219
        have gb15220 : tag b15220 = 5 := tg_of gb15220
        refine lv_iload_n hx hb dX10_grow_81 rfl (lv_at hl 5 rfl) ?_
        refine t_ild X hT mb15220 gb15220 rfl (by omega) dX10_grow_82 (fun z15221 vz15221 rz15221 => ?_)
        have rz15221 : (-2147483648) ≤ z15221.toInt ∧ z15221.toInt ≤ 2147483647 := rz15221
        refine lv_bipush (v := 10) hx hb dX10_grow_83 (by decide) ?_
        refine lv_irem hx hb dX10_grow_85 (by decide) ?_
        refine lv_topi (fun z15222 ez15222 => ?_)
        have rz15222 := rg_all z15222
        refine lv_aload_n hx hb dX10_grow_86 rfl (lv_at hl 4 rfl) ?_
        refine t_get (C := RX7) (T := TX7) (N := 7) X hT m1 g1 rfl rfl 0 (by decide) qw_1102 inlX7 rfl dX10_grow_87 (fun v15223 hv15223 ov15223 => ?_)
        obtain ⟨z15224, rfl, rz15224⟩ := okV_i ov15223
        refine t_cVv (n := 6) (C := RX7) (T := TX7) (N := 7) (As := [.int p2, .int z15199, .int z15217, .int z15218, .int z15222, .int z15224]) (rest := []) X hT (kt17_X7_addSkin l G tag L F hT.2.2.2 p1 p2 z15199 z15217 z15218 z15222 z15224 m1 g1 (by omega)) m1 g1 rfl rfl qw_1135 qw_419 qw_420 qw_22 qw_421 ⟨rfl, by decide +kernel, by decide +kernel, by decide +kernel⟩ ⟨Nat.le_of_ble_eq_true rfl, Nat.le_of_ble_eq_true rfl⟩ hl rfl rfl (Nat.le_of_ble_eq_true rfl) dX10_grow_90 ⟨Nat.le_of_ble_eq_true rfl, Nat.le_of_ble_eq_true rfl⟩ (fun F H locs hT hz15225 => ?_)
        have yz15225 := hz15225
        have hv15197 := (yz15225.1 _ 13 ).trans hv15197
        have hv15201 := (yz15225.1 _ 4 ).trans hv15201
        have hv15219 := (yz15225.1 _ 3 ).trans hv15219
        have hv15223 := (yz15225.1 _ 0 ).trans hv15223
        have hfr : (∀ b j : Nat, fld F b j = fld Fo b j) ∧ EF tag F Fo := ⟨fun b j  => (yz15225.1 b j ).trans (hfr.1 b j ), fun b j hb => (yz15225.2 b j hb).trans (hfr.2 b j hb)⟩
        exact t_vret hQ X hT hfr (Nat.le_of_ble_eq_true rfl) (Nat.le_of_ble_eq_true rfl) dX10_grow_93
      · have w15226 := cv_eq (rfl : z15210.toInt = z15210.toInt) (by decide : ((-2) : Int32).toInt = (-2)) c15211
        exact t_vret hQ X hT hfr (Nat.le_of_ble_eq_true rfl) (Nat.le_of_ble_eq_true rfl) dX10_grow_52
    · have w15227 := cv_eq (rfl : z15207.toInt = z15207.toInt) (by decide : (0 : Int32).toInt = 0) c15208
      exact t_vret hQ X hT hfr (Nat.le_of_ble_eq_true rfl) (Nat.le_of_ble_eq_true rfl) dX10_grow_36
set_option maxHeartbeats 4000000 in
set_option maxRecDepth 100000 in
theorem kt46_X10_rotAll (l : Launch) (G : KG) (tag : Nat → Nat) (L : List Nat) (Fo : Nat → va_E) (ho : okT G ttC tag L Fo) (p0 : Nat) (p1 : Nat) (p2 : Int32) (m0 : p0 ∈ L) (g0 : tag p0 = 18) (m1 : p1 ∈ L) (g1 : tag p1 = 19) (h2 : 0 ≤ p2.toInt ∧ p2.toInt ≤ 3) : TMv l yX10_rotAll cX10_rotAll 6 { frames := 3, cells := 0, slots := 0, locals := 68 } G ttC tag L Fo [.ref p0, .ref p1, .int p2] (fun F1 => ((∀ b j : Nat, fld F1 b j = fld Fo b j) ∧ EF tag F1 Fo)) := by
  refine t_bodyv (y := yX10_rotAll) (cd := cX10_rotAll) (mL := 6) (rm := { frames := 3, cells := 0, slots := 0, locals := 68 }) (av := [.ref p0, .ref p1, .int p2]) (by decide) (Nat.le_of_ble_eq_true rfl) ho ?_
  intro p e s m args below meth c ls A Q hQ X hT hl
  have hx := X.1.1
  have hb := X.1.2.1
  have hl : lv_has ls 6 [(0, .ref p0), (1, .ref p1), (2, .int p2)] := hl
  obtain ⟨F, hFo⟩ : ∃ F : Nat → va_E, F = Fo := ⟨_, rfl⟩
  rw [← hFo] at hT
  have hfr : (∀ b j : Nat, fld F b j = fld Fo b j) ∧ EF tag F Fo := by
    rw [hFo]
    exact ⟨by intros; rfl, fun _ _ _ => rfl⟩
  have K2 : ∀ (n : Nat) (z15974 : Int32) (F : Nat → va_E) (H : Heap) (locs : List Loc) (ls : Array Slot), (7 - z15974.toInt < (n : Int)) → (1 ≤ z15974.toInt ∧ z15974.toInt ≤ 7) → TH G ttC A s tag L F H locs → ((∀ b j : Nat, fld F b j = fld Fo b j) ∧ EF tag F Fo) → lv_has ls 6 [(0, .ref p0), (1, .ref p1), (2, .int p2), (3, .int z15974)] → W p l e { frames := 3, cells := 0, slots := 0, locals := 68 } s m args below meth c H locs 0 0 Q (F0 m 2 ls []) := by
    intro n
    induction n with
    | zero =>
      intro z15974 F H locs ls hn rz15974 hT hfr hl
      exfalso
      omega
    | succ n ih2 =>
      intro z15974 F H locs ls hn rz15974 hT hfr hl
      have K113 : ∀  (F : Nat → va_E) (H : Heap) (locs : List Loc) (ls : Array Slot), (1 ≤ z15974.toInt ∧ z15974.toInt ≤ 6) → TH G ttC A s tag L F H locs → ((∀ b j : Nat, fld F b j = fld Fo b j) ∧ EF tag F Fo) → lv_has ls 6 [(0, .ref p0), (1, .ref p1), (2, .int p2), (3, .int z15974)] → W p l e { frames := 3, cells := 0, slots := 0, locals := 68 } s m args below meth c H locs 0 0 Q (F0 m 113 ls []) := by
        intro F H locs ls r9s15975 hT hfr hl
        obtain ⟨z15976, ez15976⟩ : ∃ y : Int32, y = z15974 + 1 := ⟨_, rfl⟩
        have hz15976 : z15976.toInt = z15974.toInt + 1 := ar_add ez15976 rfl (by decide : (1 : Int32).toInt = 1) (by omega) (by omega)
        refine lv_iinc (v := z15976) (lv' := [(3, .int z15976), (0, .ref p0), (1, .ref p1), (2, .int p2)]) hx hb dX10_rotAll_113 hl (k := 3) rfl (by rw [ez15976]; rfl) (by decide) rfl (fun ls hl => ?_)
        refine lv_goto (tgt := 2) hx hb dX10_rotAll_116 (by decide) ?_
        exact ih2 z15976 _ _ _ _ (by omega) (by omega) hT hfr  (lv_sub hl [1, 2, 3, 0] rfl)
      have K84 : ∀ (z15978 : Int32) (z15979 : Int32) (F : Nat → va_E) (H : Heap) (locs : List Loc) (ls : Array Slot), (1 ≤ z15974.toInt ∧ z15974.toInt ≤ 6) → TH G ttC A s tag L F H locs → ((∀ b j : Nat, fld F b j = fld Fo b j) ∧ EF tag F Fo) → lv_has ls 6 [(0, .ref p0), (1, .ref p1), (2, .int p2), (3, .int z15974), (4, .int z15978), (5, .int z15979)] → W p l e { frames := 3, cells := 0, slots := 0, locals := 68 } s m args below meth c H locs 0 0 Q (F0 m 84 ls []) := by
        intro z15978 z15979 F H locs ls r9s15977 hT hfr hl
        have rz15978 := rg_all z15978
        have rz15979 := rg_all z15979
        refine lv_aload_n hx hb dX10_rotAll_84 rfl (lv_at hl 1 rfl) ?_
        refine lv_iload_n hx hb dX10_rotAll_85 rfl (lv_at hl 2 rfl) ?_
        refine lv_iload_n hx hb dX10_rotAll_86 rfl (lv_at hl 3 rfl) ?_
        refine lv_iconst (v := 4) hx hb dX10_rotAll_87 (by decide) ?_
        refine lv_iload hx hb dX10_rotAll_88 (lv_at hl 5 rfl) ?_
        refine t_cVv (n := 4) (C := RX7) (T := TX7) (N := 7) (As := [.int p2, .int z15974, .int 4, .int z15979]) (rest := []) X hT (kt16_X7_setPart l G tag L F hT.2.2.2 p1 p2 z15974 4 z15979 m1 g1) m1 g1 rfl rfl qw_1124 qw_423 qw_424 qw_22 qw_425 ⟨rfl, by decide +kernel, by decide +kernel, by decide +kernel⟩ ⟨Nat.le_of_ble_eq_true rfl, Nat.le_of_ble_eq_true rfl⟩ hl rfl rfl (Nat.le_of_ble_eq_true rfl) dX10_rotAll_90 ⟨Nat.le_of_ble_eq_true rfl, Nat.le_of_ble_eq_true rfl⟩ (fun F H locs hT hz15980 => ?_)
        have yz15980 := hz15980
        have hfr : (∀ b j : Nat, fld F b j = fld Fo b j) ∧ EF tag F Fo := ⟨fun b j  => (yz15980.1 b j ).trans (hfr.1 b j ), fun b j hb => (yz15980.2 b j hb).trans (hfr.2 b j hb)⟩
        refine lv_iload hx hb dX10_rotAll_93 (lv_at hl 5 rfl) ?_
        refine lv_aload_n hx hb dX10_rotAll_95 rfl (lv_at hl 0 rfl) ?_
        refine lv_iload hx hb dX10_rotAll_96 (lv_at hl 4 rfl) ?_
        refine lv_iconst (v := 4) hx hb dX10_rotAll_98 (by decide) ?_
        refine t_cVi (n := 2) (C := RX1) (T := TX1) (N := 20) (As := [.int z15978, .int 4]) (rest := [.int z15979]) X hT (kt9_X1_stonePart l G tag L F hT.2.2.2 p0 z15978 4 m0 g0) m0 g0 rfl rfl qw_1122 qw_858 qw_859 qw_17 qw_860 ⟨rfl, by decide +kernel, by decide +kernel, by decide +kernel⟩ ⟨Nat.le_of_ble_eq_true rfl, Nat.le_of_ble_eq_true rfl⟩ hl rfl rfl (Nat.le_of_ble_eq_true rfl) dX10_rotAll_99 ⟨Nat.le_of_ble_eq_true rfl, Nat.le_of_ble_eq_true rfl⟩ (fun z15981 F9 H locs hT hz15981 => ?_)
        obtain ⟨fz15981, hz15981⟩ := hz15981
        rw [fz15981] at hT
        refine lv_icmp_lt (tgt := 113) hx hb dX10_rotAll_102 (by decide) (fun c15982 => ?_) (fun c15982 => ?_)
        · have w15983 := cv_lt (rfl : z15979.toInt = z15979.toInt) (rfl : z15981.toInt = z15981.toInt) c15982
          exact K113  _ _ _ _ (by omega) hT hfr  (lv_sub hl [0, 1, 2, 3] rfl)
        · have w15984 := cv_nlt (rfl : z15979.toInt = z15979.toInt) (rfl : z15981.toInt = z15981.toInt) c15982
          refine lv_aload_n hx hb dX10_rotAll_105 rfl (lv_at hl 1 rfl) ?_
          refine lv_iload_n hx hb dX10_rotAll_106 rfl (lv_at hl 2 rfl) ?_
          refine lv_iload_n hx hb dX10_rotAll_107 rfl (lv_at hl 3 rfl) ?_
          refine lv_iconst (v := 5) hx hb dX10_rotAll_108 (by decide) ?_
          refine lv_iconst (v := 1) hx hb dX10_rotAll_109 (by decide) ?_
          refine t_cVv (n := 4) (C := RX7) (T := TX7) (N := 7) (As := [.int p2, .int z15974, .int 5, .int 1]) (rest := []) X hT (kt16_X7_setPart l G tag L F hT.2.2.2 p1 p2 z15974 5 1 m1 g1) m1 g1 rfl rfl qw_1124 qw_423 qw_424 qw_22 qw_425 ⟨rfl, by decide +kernel, by decide +kernel, by decide +kernel⟩ ⟨Nat.le_of_ble_eq_true rfl, Nat.le_of_ble_eq_true rfl⟩ hl rfl rfl (Nat.le_of_ble_eq_true rfl) dX10_rotAll_110 ⟨Nat.le_of_ble_eq_true rfl, Nat.le_of_ble_eq_true rfl⟩ (fun F H locs hT hz15985 => ?_)
          have yz15985 := hz15985
          have hfr : (∀ b j : Nat, fld F b j = fld Fo b j) ∧ EF tag F Fo := ⟨fun b j  => (yz15985.1 b j ).trans (hfr.1 b j ), fun b j hb => (yz15985.2 b j hb).trans (hfr.2 b j hb)⟩
          exact K113  _ _ _ _ (by omega) hT hfr  (lv_sub hl [0, 1, 2, 3] rfl)
      have K81 : ∀ (z15987 : Int32) (z15988 : Int32) (z15989 : Int32) (z15990 : Int32) (F : Nat → va_E) (H : Heap) (locs : List Loc) (ls : Array Slot), (1 ≤ z15989.toInt ∧ z15989.toInt ≤ 2) → (2 ≤ z15974.toInt ∧ z15974.toInt ≤ 6) → TH G ttC A s tag L F H locs → ((∀ b j : Nat, fld F b j = fld Fo b j) ∧ EF tag F Fo) → lv_has ls 6 [(0, .ref p0), (1, .ref p1), (2, .int p2), (3, .int z15974), (4, .int z15987), (5, .int z15988)] → W p l e { frames := 3, cells := 0, slots := 0, locals := 68 } s m args below meth c H locs 0 0 Q (F0 m 81 ls [.int z15989, .int z15990]) := by
        intro z15987 z15988 z15989 z15990 F H locs ls rz15989 r9s15986 hT hfr hl
        have rz15987 := rg_all z15987
        have rz15988 := rg_all z15988
        have rz15990 := rg_all z15990
        refine lv_iadd hx hb dX10_rotAll_81 ?_
        refine lv_topi (fun z15991 ez15991 => ?_)
        have rz15991 := rg_all z15991
        refine lv_istore (lv' := [(5, .int z15991), (0, .ref p0), (1, .ref p1), (2, .int p2), (3, .int z15974), (4, .int z15987)]) hx hb dX10_rotAll_82 hl (by decide) rfl (fun ls hl => ?_)
        exact K84 z15987 z15991 _ _ _ _ (by omega) hT hfr  (lv_sub hl [1, 2, 3, 4, 5, 0] rfl)
      refine lv_iload_n hx hb dX10_rotAll_2 rfl (lv_at hl 3 rfl) ?_
      refine lv_aload_n hx hb dX10_rotAll_3 rfl (lv_at hl 1 rfl) ?_
      refine t_get (C := RX7) (T := TX7) (N := 7) X hT m1 g1 rfl rfl 2 (by decide) qw_1119 inlX7 rfl dX10_rotAll_4 (fun v15992 hv15992 ov15992 => ?_)
      obtain ⟨b15993, rfl, mb15993, gb15993⟩ := okV_r ov15992
      have gb15993 : tag b15993 = 8 := tg_of gb15993
      refine lv_iload_n hx hb dX10_rotAll_7 rfl (lv_at hl 2 rfl) ?_
      refine t_ild X hT mb15993 gb15993 rfl (by omega) dX10_rotAll_8 (fun z15994 vz15994 rz15994 => ?_)
      have rz15994 : 0 ≤ z15994.toInt ∧ z15994.toInt ≤ 6 := rz15994
      refine lv_icmp_gt (tgt := 119) hx hb dX10_rotAll_9 (by decide) (fun c15995 => ?_) (fun c15995 => ?_)
      · have w15996 := cv_lt (rfl : z15994.toInt = z15994.toInt) (rfl : z15974.toInt = z15974.toInt) c15995
        exact t_vret hQ X hT hfr (Nat.le_of_ble_eq_true rfl) (Nat.le_of_ble_eq_true rfl) dX10_rotAll_119
      · have w15997 := cv_nlt (rfl : z15994.toInt = z15994.toInt) (rfl : z15974.toInt = z15974.toInt) c15995
        refine lv_aload_n hx hb dX10_rotAll_12 rfl (lv_at hl 1 rfl) ?_
        refine lv_iload_n hx hb dX10_rotAll_13 rfl (lv_at hl 2 rfl) ?_
        refine lv_iload_n hx hb dX10_rotAll_14 rfl (lv_at hl 3 rfl) ?_
        refine t_cVi (n := 2) (C := RX7) (T := TX7) (N := 7) (As := [.int p2, .int z15974]) (rest := []) X hT (kt19_X7_isOpen l G tag L F hT.2.2.2 p1 p2 z15974 m1 g1) m1 g1 rfl rfl qw_1120 qw_984 qw_985 qw_22 qw_986 ⟨rfl, by decide +kernel, by decide +kernel, by decide +kernel⟩ ⟨Nat.le_of_ble_eq_true rfl, Nat.le_of_ble_eq_true rfl⟩ hl rfl rfl (Nat.le_of_ble_eq_true rfl) dX10_rotAll_15 ⟨Nat.le_of_ble_eq_true rfl, Nat.le_of_ble_eq_true rfl⟩ (fun z15998 F9 H locs hT hz15998 => ?_)
        obtain ⟨fz15998, hz15998⟩ := hz15998
        rw [fz15998] at hT
        refine lv_if_eq (tgt := 113) hx hb dX10_rotAll_18 (by decide) (fun c15999 => ?_) (fun c15999 => ?_)
        · have w16000 := cv_eq (rfl : z15998.toInt = z15998.toInt) (by decide : (0 : Int32).toInt = 0) c15999
          exact K113  _ _ _ _ (by omega) hT hfr  (lv_sub hl [0, 1, 2, 3] rfl)
        · have w16001 := cv_ne (rfl : z15998.toInt = z15998.toInt) (by decide : (0 : Int32).toInt = 0) c15999
          refine lv_aload_n hx hb dX10_rotAll_21 rfl (lv_at hl 1 rfl) ?_
          refine lv_iload_n hx hb dX10_rotAll_22 rfl (lv_at hl 2 rfl) ?_
          refine lv_iload_n hx hb dX10_rotAll_23 rfl (lv_at hl 3 rfl) ?_
          refine lv_iconst (v := 0) hx hb dX10_rotAll_24 (by decide) ?_
          refine t_cVi (n := 3) (C := RX7) (T := TX7) (N := 7) (As := [.int p2, .int z15974, .int 0]) (rest := []) X hT (kt15_X7_partOf l G tag L F hT.2.2.2 p1 p2 z15974 0 m1 g1) m1 g1 rfl rfl qw_1121 qw_778 qw_779 qw_22 qw_780 ⟨rfl, by decide +kernel, by decide +kernel, by decide +kernel⟩ ⟨Nat.le_of_ble_eq_true rfl, Nat.le_of_ble_eq_true rfl⟩ hl rfl rfl (Nat.le_of_ble_eq_true rfl) dX10_rotAll_25 ⟨Nat.le_of_ble_eq_true rfl, Nat.le_of_ble_eq_true rfl⟩ (fun z16002 F9 H locs hT hz16002 => ?_)
          obtain ⟨fz16002, hz16002⟩ := hz16002
          rw [fz16002] at hT
          refine lv_istore (lv' := [(4, .int z16002), (0, .ref p0), (1, .ref p1), (2, .int p2), (3, .int z15974)]) hx hb dX10_rotAll_28 hl (by decide) rfl (fun ls hl => ?_)
          refine lv_aload_n hx hb dX10_rotAll_30 rfl (lv_at hl 2 rfl) ?_
          refine lv_iload_n hx hb dX10_rotAll_31 rfl (lv_at hl 3 rfl) ?_
          refine lv_iload_n hx hb dX10_rotAll_32 rfl (lv_at hl 4 rfl) ?_
          refine lv_iconst (v := 4) hx hb dX10_rotAll_33 (by decide) ?_
          refine t_cVi (n := 3) (C := RX7) (T := TX7) (N := 7) (As := [.int p2, .int z15974, .int 4]) (rest := []) X hT (kt15_X7_partOf l G tag L F hT.2.2.2 p1 p2 z15974 4 m1 g1) m1 g1 rfl rfl qw_1121 qw_778 qw_779 qw_22 qw_780 ⟨rfl, by decide +kernel, by decide +kernel, by decide +kernel⟩ ⟨Nat.le_of_ble_eq_true rfl, Nat.le_of_ble_eq_true rfl⟩ hl rfl rfl (Nat.le_of_ble_eq_true rfl) dX10_rotAll_34 ⟨Nat.le_of_ble_eq_true rfl, Nat.le_of_ble_eq_true rfl⟩ (fun z16003 F9 H locs hT hz16003 => ?_)
          obtain ⟨fz16003, hz16003⟩ := hz16003
          rw [fz16003] at hT
          refine lv_aload_n hx hb dX10_rotAll_37 rfl (lv_at hl 1 rfl) ?_
          refine lv_iload hx hb dX10_rotAll_38 (lv_at hl 0 rfl) ?_
          refine lv_iconst (v := 3) hx hb dX10_rotAll_40 (by decide) ?_
          refine t_cVi (n := 2) (C := RX1) (T := TX1) (N := 20) (As := [.int z16002, .int 3]) (rest := [.int z16003]) X hT (kt9_X1_stonePart l G tag L F hT.2.2.2 p0 z16002 3 m0 g0) m0 g0 rfl rfl qw_1122 qw_858 qw_859 qw_17 qw_860 ⟨rfl, by decide +kernel, by decide +kernel, by decide +kernel⟩ ⟨Nat.le_of_ble_eq_true rfl, Nat.le_of_ble_eq_true rfl⟩ hl rfl rfl (Nat.le_of_ble_eq_true rfl) dX10_rotAll_41 ⟨Nat.le_of_ble_eq_true rfl, Nat.le_of_ble_eq_true rfl⟩ (fun z16004 F9 H locs hT hz16004 => ?_)
          obtain ⟨fz16004, hz16004⟩ := hz16004
          rw [fz16004] at hT
          refine lv_iadd hx hb dX10_rotAll_44 ?_
          refine lv_topi (fun z16005 ez16005 => ?_)
          have rz16005 := rg_all z16005
          refine lv_istore (lv' := [(5, .int z16005), (4, .int z16002), (0, .ref p0), (1, .ref p1), (2, .int p2), (3, .int z15974)]) hx hb dX10_rotAll_45 hl (by decide) rfl (fun ls hl => ?_)
          refine lv_iload_n hx hb dX10_rotAll_47 rfl (lv_at hl 5 rfl) ?_
          refine lv_iconst (v := 1) hx hb dX10_rotAll_48 (by decide) ?_
          refine lv_icmp_le (tgt := 84) hx hb dX10_rotAll_49 (by decide) (fun c16006 => ?_) (fun c16006 => ?_)
          · have w16007 := cv_le (rfl : z15974.toInt = z15974.toInt) (by decide : (1 : Int32).toInt = 1) c16006
            exact K84 z16002 z16005 _ _ _ _ (by omega) hT hfr  (lv_sub hl [2, 3, 4, 5, 1, 0] rfl)
          · have w16008 := cv_nle (rfl : z15974.toInt = z15974.toInt) (by decide : (1 : Int32).toInt = 1) c16006
            refine lv_aload_n hx hb dX10_rotAll_52 rfl (lv_at hl 3 rfl) ?_
            refine lv_iload_n hx hb dX10_rotAll_53 rfl (lv_at hl 4 rfl) ?_
            refine lv_iload_n hx hb dX10_rotAll_54 rfl (lv_at hl 5 rfl) ?_
            refine lv_iconst (v := 1) hx hb dX10_rotAll_55 (by decide) ?_
            refine lv_isub hx hb dX10_rotAll_56 ?_
            refine lv_topi (fun z16009 ez16009 => ?_)
            have hz16009 : z16009.toInt = z15974.toInt - 1 := ar_sub ez16009 (rfl : z15974.toInt = z15974.toInt) (by decide : (1 : Int32).toInt = 1) (by omega) (by omega)
            have rz16009 : 1 ≤ z16009.toInt ∧ z16009.toInt ≤ 5 := by omega
            refine t_cVi (n := 2) (C := RX7) (T := TX7) (N := 7) (As := [.int p2, .int z16009]) (rest := []) X hT (kt18_X7_stands l G tag L F hT.2.2.2 p1 p2 z16009 m1 g1) m1 g1 rfl rfl qw_1123 qw_853 qw_854 qw_22 qw_855 ⟨rfl, by decide +kernel, by decide +kernel, by decide +kernel⟩ ⟨Nat.le_of_ble_eq_true rfl, Nat.le_of_ble_eq_true rfl⟩ hl rfl rfl (Nat.le_of_ble_eq_true rfl) dX10_rotAll_57 ⟨Nat.le_of_ble_eq_true rfl, Nat.le_of_ble_eq_true rfl⟩ (fun z16010 F9 H locs hT hz16010 => ?_)
            obtain ⟨fz16010, hz16010⟩ := hz16010
            rw [fz16010] at hT
            refine lv_if_ne (tgt := 84) hx hb dX10_rotAll_60 (by decide) (fun c16011 => ?_) (fun c16011 => ?_)
            · have w16012 := cv_ne (rfl : z16010.toInt = z16010.toInt) (by decide : (0 : Int32).toInt = 0) c16011
              exact K84 z16002 z16005 _ _ _ _ (by omega) hT hfr  (lv_sub hl [2, 3, 4, 5, 1, 0] rfl)
            · have w16013 := cv_eq (rfl : z16010.toInt = z16010.toInt) (by decide : (0 : Int32).toInt = 0) c16011
              refine lv_iload hx hb dX10_rotAll_63 (lv_at hl 0 rfl) ?_
              refine lv_aload_n hx hb dX10_rotAll_65 rfl (lv_at hl 2 rfl) ?_
              refine lv_iload hx hb dX10_rotAll_66 (lv_at hl 1 rfl) ?_
              refine lv_iconst (v := 0) hx hb dX10_rotAll_68 (by decide) ?_
              refine t_cVi (n := 2) (C := RX1) (T := TX1) (N := 20) (As := [.int z16002, .int 0]) (rest := [.int z16005]) X hT (kt9_X1_stonePart l G tag L F hT.2.2.2 p0 z16002 0 m0 g0) m0 g0 rfl rfl qw_1122 qw_858 qw_859 qw_17 qw_860 ⟨rfl, by decide +kernel, by decide +kernel, by decide +kernel⟩ ⟨Nat.le_of_ble_eq_true rfl, Nat.le_of_ble_eq_true rfl⟩ hl rfl rfl (Nat.le_of_ble_eq_true rfl) dX10_rotAll_69 ⟨Nat.le_of_ble_eq_true rfl, Nat.le_of_ble_eq_true rfl⟩ (fun z16014 F9 H locs hT hz16014 => ?_)
              obtain ⟨fz16014, hz16014⟩ := hz16014
              rw [fz16014] at hT
              refine lv_iconst (v := 1) hx hb dX10_rotAll_72 (by decide) ?_
              refine lv_icmp_ne (tgt := 80) hx hb dX10_rotAll_73 (by decide) (fun c16015 => ?_) (fun c16015 => ?_)
              · have w16016 := cv_ne (rfl : z16014.toInt = z16014.toInt) (by decide : (1 : Int32).toInt = 1) c16015
                refine lv_iconst (v := 1) hx hb dX10_rotAll_80 (by decide) ?_
                exact K81 z16002 z16005 1 z16005 _ _ _ _ (by decide) (by omega) hT hfr  (lv_sub hl [2, 3, 4, 5, 1, 0] rfl)
              · have w16017 := cv_eq (rfl : z16014.toInt = z16014.toInt) (by decide : (1 : Int32).toInt = 1) c16015
                refine lv_iconst (v := 2) hx hb dX10_rotAll_76 (by decide) ?_
                refine lv_goto (tgt := 81) hx hb dX10_rotAll_77 (by decide) ?_
                exact K81 z16002 z16005 2 z16005 _ _ _ _ (by decide) (by omega) hT hfr  (lv_sub hl [2, 3, 4, 5, 1, 0] rfl)
  refine lv_iconst (v := 1) hx hb dX10_rotAll_0 (by decide) ?_
  refine lv_istore_n (lv' := [(3, .int 1), (0, .ref p0), (1, .ref p1), (2, .int p2)]) hx hb dX10_rotAll_1 rfl hl (by decide) rfl (fun ls hl => ?_)
  have kk16018 : (1 : Int32).toInt = 1 := by decide
  exact K2 7 1 _ _ _ _ (by omega) (by decide) hT hfr  (lv_sub hl [1, 2, 3, 0] rfl)
set_option maxHeartbeats 4000000 in
set_option maxRecDepth 100000 in
theorem kt47_X10_liveOn (l : Launch) (G : KG) (tag : Nat → Nat) (L : List Nat) (Fo : Nat → va_E) (ho : okT G ttC tag L Fo) (p0 : Nat) (p1 : Nat) (p2 : Int32) (m0 : p0 ∈ L) (g0 : tag p0 = 18) (m1 : p1 ∈ L) (g1 : tag p1 = 19) (h2 : 0 ≤ p2.toInt ∧ p2.toInt ≤ 3) : TMv l yX10_liveOn cX10_liveOn 3 { frames := 4, cells := 0, slots := 0, locals := 93 } G ttC tag L Fo [.ref p0, .ref p1, .int p2] (fun F1 => ((∀ b j : Nat, (tag b ≠ 19 ∨ j ≠ 1) → fld F1 b j = fld Fo b j) ∧ EF tag F1 Fo)) := by
  refine t_bodyv (y := yX10_liveOn) (cd := cX10_liveOn) (mL := 3) (rm := { frames := 4, cells := 0, slots := 0, locals := 93 }) (av := [.ref p0, .ref p1, .int p2]) (by decide) (Nat.le_of_ble_eq_true rfl) ho ?_
  intro p e s m args below meth c ls A Q hQ X hT hl
  have hx := X.1.1
  have hb := X.1.2.1
  have hl : lv_has ls 3 [(0, .ref p0), (1, .ref p1), (2, .int p2)] := hl
  obtain ⟨F, hFo⟩ : ∃ F : Nat → va_E, F = Fo := ⟨_, rfl⟩
  rw [← hFo] at hT
  have hfr : (∀ b j : Nat, (tag b ≠ 19 ∨ j ≠ 1) → fld F b j = fld Fo b j) ∧ EF tag F Fo := by
    rw [hFo]
    exact ⟨by intros; rfl, fun _ _ _ => rfl⟩
  have K63 : ∀ (z16398 : Int32) (z16399 : Int32) (F : Nat → va_E) (H : Heap) (locs : List Loc) (ls : Array Slot), TH G ttC A s tag L F H locs → ((∀ b j : Nat, (tag b ≠ 19 ∨ j ≠ 1) → fld F b j = fld Fo b j) ∧ EF tag F Fo) → fld F p0 6 = .int z16398 → fld F p0 4 = .int z16399 → lv_has ls 3 [(0, .ref p0), (1, .ref p1), (2, .int p2)] → W p l e { frames := 4, cells := 0, slots := 0, locals := 93 } s m args below meth c H locs 0 0 Q (F0 m 63 ls []) := by
    intro z16398 z16399 F H locs ls hT hfr qz16398 qz16399 hl
    have rz16398 := rg_all z16398
    have rz16399 := rg_all z16399
    refine lv_aload_n hx hb dX10_liveOn_63 rfl (lv_at hl 0 rfl) ?_
    refine lv_aload_n hx hb dX10_liveOn_64 rfl (lv_at hl 1 rfl) ?_
    refine lv_iload_n hx hb dX10_liveOn_65 rfl (lv_at hl 2 rfl) ?_
    refine t_cSv (n := 3) (As := [.ref p0, .ref p1, .int p2]) (rest := []) X hT (kt46_X10_rotAll l G tag L F hT.2.2.2 p0 p1 p2 m0 g0 m1 g1 (by omega)) qw_1116 qw_1117 qw_32 qw_1118 ⟨by decide +kernel, by decide +kernel, by decide +kernel⟩ ⟨Nat.le_of_ble_eq_true rfl, Nat.le_of_ble_eq_true rfl⟩ hl rfl rfl (Nat.le_of_ble_eq_true rfl) dX10_liveOn_66 ⟨Nat.le_of_ble_eq_true rfl, Nat.le_of_ble_eq_true rfl⟩ (fun F H locs hT hz16400 => ?_)
    have yz16400 := hz16400
    have qz16398 := (yz16400.1 _ 6 ).trans qz16398
    have qz16399 := (yz16400.1 _ 4 ).trans qz16399
    have hfr : (∀ b j : Nat, (tag b ≠ 19 ∨ j ≠ 1) → fld F b j = fld Fo b j) ∧ EF tag F Fo := ⟨fun b j n19_1 => (yz16400.1 b j ).trans (hfr.1 b j n19_1), fun b j hb => (yz16400.2 b j hb).trans (hfr.2 b j hb)⟩
    refine lv_aload_n hx hb dX10_liveOn_69 rfl (lv_at hl 1 rfl) ?_
    refine t_cVi (n := 0) (C := RX7) (T := TX7) (N := 7) (As := []) (rest := []) X hT (kt27_X7_draw l G tag L F hT.2.2.2 p1 m1 g1) m1 g1 rfl rfl qw_1111 qw_1112 qw_1113 qw_22 qw_1114 ⟨rfl, by decide +kernel, by decide +kernel, by decide +kernel⟩ ⟨Nat.le_of_ble_eq_true rfl, Nat.le_of_ble_eq_true rfl⟩ hl rfl rfl (Nat.le_of_ble_eq_true rfl) dX10_liveOn_70 ⟨Nat.le_of_ble_eq_true rfl, Nat.le_of_ble_eq_true rfl⟩ (fun z16401 F H locs hT hz16401 => ?_)
    obtain ⟨hz16401, yz16401⟩ := hz16401
    have qz16398 := (yz16401.1 _ 6 (Or.inr (by decide))).trans qz16398
    have qz16399 := (yz16401.1 _ 4 (Or.inr (by decide))).trans qz16399
    have hfr : (∀ b j : Nat, (tag b ≠ 19 ∨ j ≠ 1) → fld F b j = fld Fo b j) ∧ EF tag F Fo := ⟨fun b j n19_1 => (yz16401.1 b j n19_1).trans (hfr.1 b j n19_1), fun b j hb => (yz16401.2 b j hb).trans (hfr.2 b j hb)⟩
    refine lv_bipush (v := 100) hx hb dX10_liveOn_73 (by decide) ?_
    refine lv_irem hx hb dX10_liveOn_75 (by decide) ?_
    refine lv_topi (fun z16402 ez16402 => ?_)
    have rz16402 := rg_all z16402
    refine lv_aload_n hx hb dX10_liveOn_76 rfl (lv_at hl 0 rfl) ?_
    refine t_get (C := RX1) (T := TX1) (N := 20) X hT m0 g0 rfl rfl 5 (by decide) qw_1110 inlX1 rfl dX10_liveOn_77 (fun v16403 hv16403 ov16403 => ?_)
    obtain ⟨z16404, rfl, rz16404⟩ := okV_i ov16403
    refine lv_icmp_ge (tgt := 89) hx hb dX10_liveOn_80 (by decide) (fun c16405 => ?_) (fun c16405 => ?_)
    · have w16406 := cv_le (rfl : z16404.toInt = z16404.toInt) (rfl : z16402.toInt = z16402.toInt) c16405
      exact t_vret hQ X hT hfr (Nat.le_of_ble_eq_true rfl) (Nat.le_of_ble_eq_true rfl) dX10_liveOn_89
    · have w16407 := cv_nle (rfl : z16404.toInt = z16404.toInt) (rfl : z16402.toInt = z16402.toInt) c16405
      refine lv_aload_n hx hb dX10_liveOn_83 rfl (lv_at hl 0 rfl) ?_
      refine lv_aload_n hx hb dX10_liveOn_84 rfl (lv_at hl 1 rfl) ?_
      refine lv_iload_n hx hb dX10_liveOn_85 rfl (lv_at hl 2 rfl) ?_
      refine t_cSv (n := 3) (As := [.ref p0, .ref p1, .int p2]) (rest := []) X hT (kt42_X10_burn l G tag L F hT.2.2.2 p0 p1 p2 m0 g0 m1 g1 (by omega)) qw_1125 qw_1126 qw_32 qw_1127 ⟨by decide +kernel, by decide +kernel, by decide +kernel⟩ ⟨Nat.le_of_ble_eq_true rfl, Nat.le_of_ble_eq_true rfl⟩ hl rfl rfl (Nat.le_of_ble_eq_true rfl) dX10_liveOn_86 ⟨Nat.le_of_ble_eq_true rfl, Nat.le_of_ble_eq_true rfl⟩ (fun F H locs hT hz16408 => ?_)
      have yz16408 := hz16408
      have qz16398 := (yz16408.1 _ 6 ).trans qz16398
      have qz16399 := (yz16408.1 _ 4 ).trans qz16399
      have hv16403 := (yz16408.1 _ 5 ).trans hv16403
      have hfr : (∀ b j : Nat, (tag b ≠ 19 ∨ j ≠ 1) → fld F b j = fld Fo b j) ∧ EF tag F Fo := ⟨fun b j n19_1 => (yz16408.1 b j ).trans (hfr.1 b j n19_1), fun b j hb => (yz16408.2 b j hb).trans (hfr.2 b j hb)⟩
      exact t_vret hQ X hT hfr (Nat.le_of_ble_eq_true rfl) (Nat.le_of_ble_eq_true rfl) dX10_liveOn_89
  refine lv_aload_n hx hb dX10_liveOn_0 rfl (lv_at hl 1 rfl) ?_
  refine t_get (C := RX7) (T := TX7) (N := 7) X hT m1 g1 rfl rfl 4 (by decide) qw_1106 inlX7 rfl dX10_liveOn_1 (fun v16409 hv16409 ov16409 => ?_)
  obtain ⟨b16410, rfl, mb16410, gb16410⟩ := okV_r ov16409
  have gb16410 : tag b16410 = 5 := tg_of gb16410
  refine lv_iload_n hx hb dX10_liveOn_4 rfl (lv_at hl 2 rfl) ?_
  refine lv_sipush (v := 999) hx hb dX10_liveOn_5 (by decide) ?_
  refine lv_aload_n hx hb dX10_liveOn_8 rfl (lv_at hl 1 rfl) ?_
  refine t_get (C := RX7) (T := TX7) (N := 7) X hT m1 g1 rfl rfl 4 (by decide) qw_1106 inlX7 rfl dX10_liveOn_9 (fun v16411 hv16411 ov16411 => ?_)
  obtain rfl : v16411 = .ref b16410 := hv16411.symm.trans hv16409
  refine lv_iload_n hx hb dX10_liveOn_12 rfl (lv_at hl 2 rfl) ?_
  refine t_ild X hT mb16410 gb16410 rfl (by omega) dX10_liveOn_13 (fun z16412 vz16412 rz16412 => ?_)
  have rz16412 : (-2147483648) ≤ z16412.toInt ∧ z16412.toInt ≤ 2147483647 := rz16412
  refine lv_aload_n hx hb dX10_liveOn_14 rfl (lv_at hl 1 rfl) ?_
  refine t_get (C := RX7) (T := TX7) (N := 7) X hT m1 g1 rfl rfl 3 (by decide) qw_1101 inlX7 rfl dX10_liveOn_15 (fun v16413 hv16413 ov16413 => ?_)
  obtain ⟨b16414, rfl, mb16414, gb16414⟩ := okV_r ov16413
  have gb16414 : tag b16414 = 5 := tg_of gb16414
  refine lv_iload_n hx hb dX10_liveOn_18 rfl (lv_at hl 2 rfl) ?_
  refine t_ild X hT mb16414 gb16414 rfl (by omega) dX10_liveOn_19 (fun z16415 vz16415 rz16415 => ?_)
  have rz16415 : (-2147483648) ≤ z16415.toInt ∧ z16415.toInt ≤ 2147483647 := rz16415
  refine lv_aload_n hx hb dX10_liveOn_20 rfl (lv_at hl 0 rfl) ?_
  refine t_get (C := RX1) (T := TX1) (N := 20) X hT m0 g0 rfl rfl 6 (by decide) qw_1107 inlX1 rfl dX10_liveOn_21 (fun v16416 hv16416 ov16416 => ?_)
  obtain ⟨z16417, rfl, rz16417⟩ := okV_i ov16416
  refine lv_imul hx hb dX10_liveOn_24 ?_
  refine lv_topi (fun z16418 ez16418 => ?_)
  have rz16418 := rg_all z16418
  refine lv_iadd hx hb dX10_liveOn_25 ?_
  refine lv_topi (fun z16419 ez16419 => ?_)
  have rz16419 := rg_all z16419
  refine t_mmin X hl qw_1108 qw_1018 qw_850 qw_1019 (Nat.le_of_ble_eq_true rfl) (Nat.le_of_ble_eq_true rfl) (Nat.le_of_ble_eq_true rfl) (Nat.le_of_ble_eq_true rfl) dX10_liveOn_26 (fun z16420 ez16420 => ?_)
  have hz16420 := mmin_e ez16420 (by decide : (999 : Int32).toInt = 999) (rfl : z16419.toInt = z16419.toInt)
  refine t_ist X hT mb16410 gb16410 rfl (by omega) (show (-2147483648) ≤ (z16420 : Int32).toInt ∧ (z16420 : Int32).toInt ≤ 2147483647 from (by omega)) dX10_liveOn_29 (fun F H locs hT v16421 h1v16421 h2v16421 => ?_)
  have hv16409 := (h2v16421 _ _).trans hv16409
  have hv16413 := (h2v16421 _ _).trans hv16413
  have hv16416 := (h2v16421 _ _).trans hv16416
  have hfr : (∀ b j : Nat, (tag b ≠ 19 ∨ j ≠ 1) → fld F b j = fld Fo b j) ∧ EF tag F Fo := ⟨fun b j n19_1 => (h2v16421 b j).trans (hfr.1 b j n19_1), fun b j hb => (h1v16421 b j (Or.inl (ns_ne hb gb16410 (by decide)))).trans (hfr.2 b j hb)⟩
  refine lv_aload_n hx hb dX10_liveOn_30 rfl (lv_at hl 1 rfl) ?_
  refine t_cVi (n := 0) (C := RX7) (T := TX7) (N := 7) (As := []) (rest := []) X hT (kt27_X7_draw l G tag L F hT.2.2.2 p1 m1 g1) m1 g1 rfl rfl qw_1111 qw_1112 qw_1113 qw_22 qw_1114 ⟨rfl, by decide +kernel, by decide +kernel, by decide +kernel⟩ ⟨Nat.le_of_ble_eq_true rfl, Nat.le_of_ble_eq_true rfl⟩ hl rfl rfl (Nat.le_of_ble_eq_true rfl) dX10_liveOn_31 ⟨Nat.le_of_ble_eq_true rfl, Nat.le_of_ble_eq_true rfl⟩ (fun z16422 F H locs hT hz16422 => ?_)
  obtain ⟨hz16422, yz16422⟩ := hz16422
  have hv16409 := (yz16422.1 _ 4 (Or.inr (by decide))).trans hv16409
  have hv16413 := (yz16422.1 _ 3 (Or.inr (by decide))).trans hv16413
  have hv16416 := (yz16422.1 _ 6 (Or.inr (by decide))).trans hv16416
  have hfr : (∀ b j : Nat, (tag b ≠ 19 ∨ j ≠ 1) → fld F b j = fld Fo b j) ∧ EF tag F Fo := ⟨fun b j n19_1 => (yz16422.1 b j n19_1).trans (hfr.1 b j n19_1), fun b j hb => (yz16422.2 b j hb).trans (hfr.2 b j hb)⟩
  refine lv_bipush (v := 100) hx hb dX10_liveOn_34 (by decide) ?_
  refine lv_irem hx hb dX10_liveOn_36 (by decide) ?_
  refine lv_topi (fun z16423 ez16423 => ?_)
  have rz16423 := rg_all z16423
  refine lv_aload_n hx hb dX10_liveOn_37 rfl (lv_at hl 0 rfl) ?_
  refine t_get (C := RX1) (T := TX1) (N := 20) X hT m0 g0 rfl rfl 4 (by decide) qw_1109 inlX1 rfl dX10_liveOn_38 (fun v16424 hv16424 ov16424 => ?_)
  obtain ⟨z16425, rfl, rz16425⟩ := okV_i ov16424
  refine lv_icmp_ge (tgt := 63) hx hb dX10_liveOn_41 (by decide) (fun c16426 => ?_) (fun c16426 => ?_)
  · have w16427 := cv_le (rfl : z16425.toInt = z16425.toInt) (rfl : z16423.toInt = z16423.toInt) c16426
    exact K63 z16417 z16425 _ _ _ _  hT hfr hv16416 hv16424 (lv_sub hl [0, 1, 2] rfl)
  · have w16428 := cv_nle (rfl : z16425.toInt = z16425.toInt) (rfl : z16423.toInt = z16423.toInt) c16426
    refine lv_aload_n hx hb dX10_liveOn_44 rfl (lv_at hl 1 rfl) ?_
    refine t_get (C := RX7) (T := TX7) (N := 7) X hT m1 g1 rfl rfl 3 (by decide) qw_1101 inlX7 rfl dX10_liveOn_45 (fun v16429 hv16429 ov16429 => ?_)
    obtain rfl : v16429 = .ref b16414 := hv16429.symm.trans hv16413
    refine lv_iload_n hx hb dX10_liveOn_48 rfl (lv_at hl 2 rfl) ?_
    refine lv_bipush (v := 99) hx hb dX10_liveOn_49 (by decide) ?_
    refine lv_aload_n hx hb dX10_liveOn_51 rfl (lv_at hl 1 rfl) ?_
    refine t_get (C := RX7) (T := TX7) (N := 7) X hT m1 g1 rfl rfl 3 (by decide) qw_1101 inlX7 rfl dX10_liveOn_52 (fun v16430 hv16430 ov16430 => ?_)
    obtain rfl : v16430 = .ref b16414 := hv16430.symm.trans hv16413
    refine lv_iload_n hx hb dX10_liveOn_55 rfl (lv_at hl 2 rfl) ?_
    refine t_ild X hT mb16414 gb16414 rfl (by omega) dX10_liveOn_56 (fun z16431 vz16431 rz16431 => ?_)
    have rz16431 : (-2147483648) ≤ z16431.toInt ∧ z16431.toInt ≤ 2147483647 := rz16431
    refine lv_iconst (v := 1) hx hb dX10_liveOn_57 (by decide) ?_
    refine lv_iadd hx hb dX10_liveOn_58 ?_
    refine lv_topi (fun z16432 ez16432 => ?_)
    have rz16432 := rg_all z16432
    refine t_mmin X hl qw_1108 qw_1018 qw_850 qw_1019 (Nat.le_of_ble_eq_true rfl) (Nat.le_of_ble_eq_true rfl) (Nat.le_of_ble_eq_true rfl) (Nat.le_of_ble_eq_true rfl) dX10_liveOn_59 (fun z16433 ez16433 => ?_)
    have hz16433 := mmin_e ez16433 (by decide : (99 : Int32).toInt = 99) (rfl : z16432.toInt = z16432.toInt)
    refine t_ist X hT mb16414 gb16414 rfl (by omega) (show (-2147483648) ≤ (z16433 : Int32).toInt ∧ (z16433 : Int32).toInt ≤ 2147483647 from (by omega)) dX10_liveOn_62 (fun F H locs hT v16434 h1v16434 h2v16434 => ?_)
    have hv16409 := (h2v16434 _ _).trans hv16409
    have hv16413 := (h2v16434 _ _).trans hv16413
    have hv16416 := (h2v16434 _ _).trans hv16416
    have hv16424 := (h2v16434 _ _).trans hv16424
    have hfr : (∀ b j : Nat, (tag b ≠ 19 ∨ j ≠ 1) → fld F b j = fld Fo b j) ∧ EF tag F Fo := ⟨fun b j n19_1 => (h2v16434 b j).trans (hfr.1 b j n19_1), fun b j hb => (h1v16434 b j (Or.inl (ns_ne hb gb16414 (by decide)))).trans (hfr.2 b j hb)⟩
    exact K63 z16417 z16425 _ _ _ _  hT hfr hv16416 hv16424 (lv_sub hl [0, 1, 2] rfl)
set_option maxHeartbeats 4000000 in
set_option maxRecDepth 100000 in
theorem kt48_X5_begin (l : Launch) (G : KG) (tag : Nat → Nat) (L : List Nat) (Fo : Nat → va_E) (ho : okT G ttC tag L Fo) (p0 : Nat) (p1 : Int32) (m0 : p0 ∈ L) (g0 : tag p0 = 10) (h1 : 0 ≤ p1.toInt ∧ p1.toInt ≤ 4) : TMv l yX5_begin cX5_begin 3 { frames := 0, cells := 0, slots := 0, locals := 0 } G ttC tag L Fo [.ref p0, .int p1] (fun F1 => ((∀ b j : Nat, fld F1 b j = fld Fo b j) ∧ EF tag F1 Fo)) := by
  refine t_bodyv (y := yX5_begin) (cd := cX5_begin) (mL := 3) (rm := { frames := 0, cells := 0, slots := 0, locals := 0 }) (av := [.ref p0, .int p1]) (by decide) (Nat.le_of_ble_eq_true rfl) ho ?_
  intro p e s m args below meth c ls A Q hQ X hT hl
  have hx := X.1.1
  have hb := X.1.2.1
  have hl : lv_has ls 3 [(0, .ref p0), (1, .int p1)] := hl
  obtain ⟨F, hFo⟩ : ∃ F : Nat → va_E, F = Fo := ⟨_, rfl⟩
  rw [← hFo] at hT
  have hfr : (∀ b j : Nat, fld F b j = fld Fo b j) ∧ EF tag F Fo := by
    rw [hFo]
    exact ⟨by intros; rfl, fun _ _ _ => rfl⟩
  have K2 : ∀ (n : Nat) (z16589 : Int32) (F : Nat → va_E) (H : Heap) (locs : List Loc) (ls : Array Slot), (4 - z16589.toInt < (n : Int)) → (0 ≤ z16589.toInt ∧ z16589.toInt ≤ 4) → TH G ttC A s tag L F H locs → ((∀ b j : Nat, fld F b j = fld Fo b j) ∧ EF tag F Fo) → lv_has ls 3 [(0, .ref p0), (1, .int p1), (2, .int z16589)] → W p l e { frames := 0, cells := 0, slots := 0, locals := 0 } s m args below meth c H locs 0 0 Q (F0 m 2 ls []) := by
    intro n
    induction n with
    | zero =>
      intro z16589 F H locs ls hn rz16589 hT hfr hl
      exfalso
      omega
    | succ n ih2 =>
      intro z16589 F H locs ls hn rz16589 hT hfr hl
      refine lv_iload_n hx hb dX5_begin_2 rfl (lv_at hl 2 rfl) ?_
      refine lv_iload_n hx hb dX5_begin_3 rfl (lv_at hl 1 rfl) ?_
      refine lv_icmp_ge (tgt := 23) hx hb dX5_begin_4 (by decide) (fun c16590 => ?_) (fun c16590 => ?_)
      · have w16591 := cv_le (rfl : p1.toInt = p1.toInt) (rfl : z16589.toInt = z16589.toInt) c16590
        exact t_vret hQ X hT hfr (Nat.le_of_ble_eq_true rfl) (Nat.le_of_ble_eq_true rfl) dX5_begin_23
      · have w16592 := cv_nle (rfl : p1.toInt = p1.toInt) (rfl : z16589.toInt = z16589.toInt) c16590
        refine lv_iload_n hx hb dX5_begin_7 rfl (lv_at hl 2 rfl) ?_
        refine lv_aload_n hx hb dX5_begin_8 rfl (lv_at hl 0 rfl) ?_
        refine t_alen X hT m0 g0 rfl (by decide) dX5_begin_9 ?_
        refine lv_topi (fun z16593 ez16593 => ?_)
        obtain rfl : z16593 = 4 := ez16593.trans (by rfl)
        refine lv_icmp_ge (tgt := 23) hx hb dX5_begin_10 (by decide) (fun c16594 => ?_) (fun c16594 => ?_)
        · have w16595 := cv_le (by decide : (4 : Int32).toInt = 4) (rfl : z16589.toInt = z16589.toInt) c16594
          exfalso
          omega
        · have w16596 := cv_nle (by decide : (4 : Int32).toInt = 4) (rfl : z16589.toInt = z16589.toInt) c16594
          refine lv_aload_n hx hb dX5_begin_13 rfl (lv_at hl 0 rfl) ?_
          refine lv_iload_n hx hb dX5_begin_14 rfl (lv_at hl 2 rfl) ?_
          refine lv_iload_n hx hb dX5_begin_15 rfl (lv_at hl 2 rfl) ?_
          refine t_ist X hT m0 g0 rfl (by omega) (show 0 ≤ (z16589 : Int32).toInt ∧ (z16589 : Int32).toInt ≤ 3 from (by omega)) dX5_begin_16 (fun F H locs hT v16597 h1v16597 h2v16597 => ?_)
          have hfr : (∀ b j : Nat, fld F b j = fld Fo b j) ∧ EF tag F Fo := ⟨fun b j  => (h2v16597 b j).trans (hfr.1 b j ), fun b j hb => (h1v16597 b j (Or.inl (ns_ne hb g0 (by decide)))).trans (hfr.2 b j hb)⟩
          obtain ⟨z16598, ez16598⟩ : ∃ y : Int32, y = z16589 + 1 := ⟨_, rfl⟩
          have hz16598 : z16598.toInt = z16589.toInt + 1 := ar_add ez16598 rfl (by decide : (1 : Int32).toInt = 1) (by omega) (by omega)
          refine lv_iinc (v := z16598) (lv' := [(2, .int z16598), (0, .ref p0), (1, .int p1)]) hx hb dX5_begin_17 hl (k := 2) rfl (by rw [ez16598]; rfl) (by decide) rfl (fun ls hl => ?_)
          refine lv_goto (tgt := 2) hx hb dX5_begin_20 (by decide) ?_
          exact ih2 z16598 _ _ _ _ (by omega) (by omega) hT hfr  (lv_sub hl [1, 2, 0] rfl)
  refine lv_iconst (v := 0) hx hb dX5_begin_0 (by decide) ?_
  refine lv_istore_n (lv' := [(2, .int 0), (0, .ref p0), (1, .int p1)]) hx hb dX5_begin_1 rfl hl (by decide) rfl (fun ls hl => ?_)
  have kk16599 : (0 : Int32).toInt = 0 := by decide
  exact K2 5 0 _ _ _ _ (by omega) (by decide) hT hfr  (lv_sub hl [1, 2, 0] rfl)
set_option maxHeartbeats 4000000 in
set_option maxRecDepth 100000 in
theorem kt49_X7_copyFrom (l : Launch) (G : KG) (tag : Nat → Nat) (L : List Nat) (Fo : Nat → va_E) (ho : okT G ttC tag L Fo) (p0 : Nat) (p1 : Nat) (m0 : p0 ∈ L) (g0 : tag p0 = 19) (m1 : p1 ∈ L) (g1 : tag p1 = 19) : TMv l yX7_copyFrom cX7_copyFrom 2 { frames := 1, cells := 0, slots := 0, locals := 24 } G ttC tag L Fo [.ref p0, .ref p1] (fun F1 => ((∀ b j : Nat, (tag b ≠ 19 ∨ j ≠ 0) → (tag b ≠ 19 ∨ j ≠ 1) → fld F1 b j = fld Fo b j) ∧ EF tag F1 Fo)) := by
  refine t_bodyv (y := yX7_copyFrom) (cd := cX7_copyFrom) (mL := 2) (rm := { frames := 1, cells := 0, slots := 0, locals := 24 }) (av := [.ref p0, .ref p1]) (by decide) (Nat.le_of_ble_eq_true rfl) ho ?_
  intro p e s m args below meth c ls A Q hQ X hT hl
  have hx := X.1.1
  have hb := X.1.2.1
  have hl : lv_has ls 2 [(0, .ref p0), (1, .ref p1)] := hl
  obtain ⟨F, hFo⟩ : ∃ F : Nat → va_E, F = Fo := ⟨_, rfl⟩
  rw [← hFo] at hT
  have hfr : (∀ b j : Nat, (tag b ≠ 19 ∨ j ≠ 0) → (tag b ≠ 19 ∨ j ≠ 1) → fld F b j = fld Fo b j) ∧ EF tag F Fo := by
    rw [hFo]
    exact ⟨by intros; rfl, fun _ _ _ => rfl⟩
  refine lv_aload_n hx hb dX7_copyFrom_0 rfl (lv_at hl 0 rfl) ?_
  refine lv_aload_n hx hb dX7_copyFrom_1 rfl (lv_at hl 1 rfl) ?_
  refine t_get (C := RX7) (T := TX7) (N := 7) X hT m1 g1 rfl rfl 0 (by decide) qw_187 inlX7 rfl dX7_copyFrom_2 (fun v16951 hv16951 ov16951 => ?_)
  obtain ⟨z16952, rfl, rz16952⟩ := okV_i ov16951
  refine t_put (C := RX7) (T := TX7) (N := 7) (v := .int z16952) X hT m0 g0 rfl tyX7 tyX7_ok nmX7 rfl 0 (by decide) qw_187 inlX7 rfl (by first | rfl | decide) (by first | rfl | decide) rfl (⟨_, rfl, (show (-2147483648) ≤ (z16952 : Int32).toInt from (by omega)), (show (z16952 : Int32).toInt ≤ 2147483647 from (by omega))⟩) dX7_copyFrom_5 (fun F H locs hT v16953 h1v16953 h2v16953 => ?_)
  have hfr : (∀ b j : Nat, (tag b ≠ 19 ∨ j ≠ 0) → (tag b ≠ 19 ∨ j ≠ 1) → fld F b j = fld Fo b j) ∧ EF tag F Fo := ⟨fun b j n19_0 n19_1 => (h1v16953 b j (fr_ne g0 n19_0)).trans (hfr.1 b j n19_0 n19_1), fun b j hb => (h2v16953 b j).trans (hfr.2 b j hb)⟩
  refine lv_aload_n hx hb dX7_copyFrom_8 rfl (lv_at hl 0 rfl) ?_
  refine lv_aload_n hx hb dX7_copyFrom_9 rfl (lv_at hl 1 rfl) ?_
  refine t_get (C := RX7) (T := TX7) (N := 7) X hT m1 g1 rfl rfl 1 (by decide) qw_188 inlX7 rfl dX7_copyFrom_10 (fun v16954 hv16954 ov16954 => ?_)
  obtain ⟨z16955, rfl, rz16955⟩ := okV_i ov16954
  refine t_put (C := RX7) (T := TX7) (N := 7) (v := .int z16955) X hT m0 g0 rfl tyX7 tyX7_ok nmX7 rfl 1 (by decide) qw_188 inlX7 rfl (by first | rfl | decide) (by first | rfl | decide) rfl (⟨_, rfl, (show (-2147483648) ≤ (z16955 : Int32).toInt from (by omega)), (show (z16955 : Int32).toInt ≤ 2147483647 from (by omega))⟩) dX7_copyFrom_13 (fun F H locs hT v16956 h1v16956 h2v16956 => ?_)
  have v16953 := (h1v16956 _ _ (Or.inr (by decide))).trans v16953
  have hfr : (∀ b j : Nat, (tag b ≠ 19 ∨ j ≠ 0) → (tag b ≠ 19 ∨ j ≠ 1) → fld F b j = fld Fo b j) ∧ EF tag F Fo := ⟨fun b j n19_0 n19_1 => (h1v16956 b j (fr_ne g0 n19_1)).trans (hfr.1 b j n19_0 n19_1), fun b j hb => (h2v16956 b j).trans (hfr.2 b j hb)⟩
  refine lv_aload_n hx hb dX7_copyFrom_16 rfl (lv_at hl 1 rfl) ?_
  refine t_get (C := RX7) (T := TX7) (N := 7) X hT m1 g1 rfl rfl 2 (by decide) qw_62 inlX7 rfl dX7_copyFrom_17 (fun v16957 hv16957 ov16957 => ?_)
  obtain ⟨b16958, rfl, mb16958, gb16958⟩ := okV_r ov16957
  have gb16958 : tag b16958 = 8 := tg_of gb16958
  refine lv_iconst (v := 0) hx hb dX7_copyFrom_20 (by decide) ?_
  refine lv_aload_n hx hb dX7_copyFrom_21 rfl (lv_at hl 0 rfl) ?_
  refine t_get (C := RX7) (T := TX7) (N := 7) X hT m0 g0 rfl rfl 2 (by decide) qw_62 inlX7 rfl dX7_copyFrom_22 (fun v16959 hv16959 ov16959 => ?_)
  obtain ⟨b16960, rfl, mb16960, gb16960⟩ := okV_r ov16959
  have gb16960 : tag b16960 = 8 := tg_of gb16960
  refine lv_iconst (v := 0) hx hb dX7_copyFrom_25 (by decide) ?_
  refine lv_iconst (v := 4) hx hb dX7_copyFrom_26 (by decide) ?_
  refine t_copy X hT hl mb16958 gb16958 mb16960 gb16960 rfl rfl (by decide) (by decide) (by decide) (by decide) (by decide) (fun _ _ => ⟨by decide, by decide⟩) qw_453 qw_454 qw_455 qw_456 (Nat.le_of_ble_eq_true rfl) (Nat.le_of_ble_eq_true rfl) dX7_copyFrom_27 (fun F H locs hT h2v16961 h1v16961 => ?_)
  have v16953 := (h2v16961 _ _).trans v16953
  have v16956 := (h2v16961 _ _).trans v16956
  have hv16957 := (h2v16961 _ _).trans hv16957
  have hv16959 := (h2v16961 _ _).trans hv16959
  have hfr : (∀ b j : Nat, (tag b ≠ 19 ∨ j ≠ 0) → (tag b ≠ 19 ∨ j ≠ 1) → fld F b j = fld Fo b j) ∧ EF tag F Fo := ⟨fun b j n19_0 n19_1 => (h2v16961 b j).trans (hfr.1 b j n19_0 n19_1), fun b j hb => (h1v16961 b j (ns_ne hb gb16960 (by decide))).trans (hfr.2 b j hb)⟩
  refine lv_aload_n hx hb dX7_copyFrom_30 rfl (lv_at hl 1 rfl) ?_
  refine t_get (C := RX7) (T := TX7) (N := 7) X hT m1 g1 rfl rfl 3 (by decide) qw_63 inlX7 rfl dX7_copyFrom_31 (fun v16962 hv16962 ov16962 => ?_)
  obtain ⟨b16963, rfl, mb16963, gb16963⟩ := okV_r ov16962
  have gb16963 : tag b16963 = 5 := tg_of gb16963
  refine lv_iconst (v := 0) hx hb dX7_copyFrom_34 (by decide) ?_
  refine lv_aload_n hx hb dX7_copyFrom_35 rfl (lv_at hl 0 rfl) ?_
  refine t_get (C := RX7) (T := TX7) (N := 7) X hT m0 g0 rfl rfl 3 (by decide) qw_63 inlX7 rfl dX7_copyFrom_36 (fun v16964 hv16964 ov16964 => ?_)
  obtain ⟨b16965, rfl, mb16965, gb16965⟩ := okV_r ov16964
  have gb16965 : tag b16965 = 5 := tg_of gb16965
  refine lv_iconst (v := 0) hx hb dX7_copyFrom_39 (by decide) ?_
  refine lv_iconst (v := 4) hx hb dX7_copyFrom_40 (by decide) ?_
  refine t_copy X hT hl mb16963 gb16963 mb16965 gb16965 rfl rfl (by decide) (by decide) (by decide) (by decide) (by decide) (fun _ _ => ⟨by decide, by decide⟩) qw_453 qw_454 qw_455 qw_456 (Nat.le_of_ble_eq_true rfl) (Nat.le_of_ble_eq_true rfl) dX7_copyFrom_41 (fun F H locs hT h2v16966 h1v16966 => ?_)
  have v16953 := (h2v16966 _ _).trans v16953
  have v16956 := (h2v16966 _ _).trans v16956
  have hv16957 := (h2v16966 _ _).trans hv16957
  have hv16959 := (h2v16966 _ _).trans hv16959
  have hv16962 := (h2v16966 _ _).trans hv16962
  have hv16964 := (h2v16966 _ _).trans hv16964
  have hfr : (∀ b j : Nat, (tag b ≠ 19 ∨ j ≠ 0) → (tag b ≠ 19 ∨ j ≠ 1) → fld F b j = fld Fo b j) ∧ EF tag F Fo := ⟨fun b j n19_0 n19_1 => (h2v16966 b j).trans (hfr.1 b j n19_0 n19_1), fun b j hb => (h1v16966 b j (ns_ne hb gb16965 (by decide))).trans (hfr.2 b j hb)⟩
  refine lv_aload_n hx hb dX7_copyFrom_44 rfl (lv_at hl 1 rfl) ?_
  refine t_get (C := RX7) (T := TX7) (N := 7) X hT m1 g1 rfl rfl 4 (by decide) qw_64 inlX7 rfl dX7_copyFrom_45 (fun v16967 hv16967 ov16967 => ?_)
  obtain ⟨b16968, rfl, mb16968, gb16968⟩ := okV_r ov16967
  have gb16968 : tag b16968 = 5 := tg_of gb16968
  refine lv_iconst (v := 0) hx hb dX7_copyFrom_48 (by decide) ?_
  refine lv_aload_n hx hb dX7_copyFrom_49 rfl (lv_at hl 0 rfl) ?_
  refine t_get (C := RX7) (T := TX7) (N := 7) X hT m0 g0 rfl rfl 4 (by decide) qw_64 inlX7 rfl dX7_copyFrom_50 (fun v16969 hv16969 ov16969 => ?_)
  obtain ⟨b16970, rfl, mb16970, gb16970⟩ := okV_r ov16969
  have gb16970 : tag b16970 = 5 := tg_of gb16970
  refine lv_iconst (v := 0) hx hb dX7_copyFrom_53 (by decide) ?_
  refine lv_iconst (v := 4) hx hb dX7_copyFrom_54 (by decide) ?_
  refine t_copy X hT hl mb16968 gb16968 mb16970 gb16970 rfl rfl (by decide) (by decide) (by decide) (by decide) (by decide) (fun _ _ => ⟨by decide, by decide⟩) qw_453 qw_454 qw_455 qw_456 (Nat.le_of_ble_eq_true rfl) (Nat.le_of_ble_eq_true rfl) dX7_copyFrom_55 (fun F H locs hT h2v16971 h1v16971 => ?_)
  have v16953 := (h2v16971 _ _).trans v16953
  have v16956 := (h2v16971 _ _).trans v16956
  have hv16957 := (h2v16971 _ _).trans hv16957
  have hv16959 := (h2v16971 _ _).trans hv16959
  have hv16962 := (h2v16971 _ _).trans hv16962
  have hv16964 := (h2v16971 _ _).trans hv16964
  have hv16967 := (h2v16971 _ _).trans hv16967
  have hv16969 := (h2v16971 _ _).trans hv16969
  have hfr : (∀ b j : Nat, (tag b ≠ 19 ∨ j ≠ 0) → (tag b ≠ 19 ∨ j ≠ 1) → fld F b j = fld Fo b j) ∧ EF tag F Fo := ⟨fun b j n19_0 n19_1 => (h2v16971 b j).trans (hfr.1 b j n19_0 n19_1), fun b j hb => (h1v16971 b j (ns_ne hb gb16970 (by decide))).trans (hfr.2 b j hb)⟩
  refine lv_aload_n hx hb dX7_copyFrom_58 rfl (lv_at hl 1 rfl) ?_
  refine t_get (C := RX7) (T := TX7) (N := 7) X hT m1 g1 rfl rfl 5 (by decide) qw_65 inlX7 rfl dX7_copyFrom_59 (fun v16972 hv16972 ov16972 => ?_)
  obtain ⟨b16973, rfl, mb16973, gb16973⟩ := okV_r ov16972
  have gb16973 : tag b16973 = 7 := tg_of gb16973
  refine lv_iconst (v := 0) hx hb dX7_copyFrom_62 (by decide) ?_
  refine lv_aload_n hx hb dX7_copyFrom_63 rfl (lv_at hl 0 rfl) ?_
  refine t_get (C := RX7) (T := TX7) (N := 7) X hT m0 g0 rfl rfl 5 (by decide) qw_65 inlX7 rfl dX7_copyFrom_64 (fun v16974 hv16974 ov16974 => ?_)
  obtain ⟨b16975, rfl, mb16975, gb16975⟩ := okV_r ov16974
  have gb16975 : tag b16975 = 7 := tg_of gb16975
  refine lv_iconst (v := 0) hx hb dX7_copyFrom_67 (by decide) ?_
  refine lv_bipush (v := 6) hx hb dX7_copyFrom_68 (by decide) ?_
  refine t_copy X hT hl mb16973 gb16973 mb16975 gb16975 rfl rfl (by decide) (by decide) (by decide) (by decide) (by decide) (fun _ _ => ⟨by decide, by decide⟩) qw_453 qw_454 qw_455 qw_456 (Nat.le_of_ble_eq_true rfl) (Nat.le_of_ble_eq_true rfl) dX7_copyFrom_70 (fun F H locs hT h2v16976 h1v16976 => ?_)
  have v16953 := (h2v16976 _ _).trans v16953
  have v16956 := (h2v16976 _ _).trans v16956
  have hv16957 := (h2v16976 _ _).trans hv16957
  have hv16959 := (h2v16976 _ _).trans hv16959
  have hv16962 := (h2v16976 _ _).trans hv16962
  have hv16964 := (h2v16976 _ _).trans hv16964
  have hv16967 := (h2v16976 _ _).trans hv16967
  have hv16969 := (h2v16976 _ _).trans hv16969
  have hv16972 := (h2v16976 _ _).trans hv16972
  have hv16974 := (h2v16976 _ _).trans hv16974
  have hfr : (∀ b j : Nat, (tag b ≠ 19 ∨ j ≠ 0) → (tag b ≠ 19 ∨ j ≠ 1) → fld F b j = fld Fo b j) ∧ EF tag F Fo := ⟨fun b j n19_0 n19_1 => (h2v16976 b j).trans (hfr.1 b j n19_0 n19_1), fun b j hb => (h1v16976 b j (ns_ne hb gb16975 (by decide))).trans (hfr.2 b j hb)⟩
  refine lv_aload_n hx hb dX7_copyFrom_73 rfl (lv_at hl 1 rfl) ?_
  refine t_get (C := RX7) (T := TX7) (N := 7) X hT m1 g1 rfl rfl 6 (by decide) qw_66 inlX7 rfl dX7_copyFrom_74 (fun v16977 hv16977 ov16977 => ?_)
  obtain ⟨b16978, rfl, mb16978, gb16978⟩ := okV_r ov16977
  have gb16978 : tag b16978 = 9 := tg_of gb16978
  refine lv_iconst (v := 0) hx hb dX7_copyFrom_77 (by decide) ?_
  refine lv_aload_n hx hb dX7_copyFrom_78 rfl (lv_at hl 0 rfl) ?_
  refine t_get (C := RX7) (T := TX7) (N := 7) X hT m0 g0 rfl rfl 6 (by decide) qw_66 inlX7 rfl dX7_copyFrom_79 (fun v16979 hv16979 ov16979 => ?_)
  obtain ⟨b16980, rfl, mb16980, gb16980⟩ := okV_r ov16979
  have gb16980 : tag b16980 = 9 := tg_of gb16980
  refine lv_iconst (v := 0) hx hb dX7_copyFrom_82 (by decide) ?_
  refine lv_sipush (v := 192) hx hb dX7_copyFrom_83 (by decide) ?_
  refine t_copy X hT hl mb16978 gb16978 mb16980 gb16980 rfl rfl (by decide) (by decide) (by decide) (by decide) (by decide) (fun _ _ => ⟨by decide, by decide⟩) qw_453 qw_454 qw_455 qw_456 (Nat.le_of_ble_eq_true rfl) (Nat.le_of_ble_eq_true rfl) dX7_copyFrom_86 (fun F H locs hT h2v16981 h1v16981 => ?_)
  have v16953 := (h2v16981 _ _).trans v16953
  have v16956 := (h2v16981 _ _).trans v16956
  have hv16957 := (h2v16981 _ _).trans hv16957
  have hv16959 := (h2v16981 _ _).trans hv16959
  have hv16962 := (h2v16981 _ _).trans hv16962
  have hv16964 := (h2v16981 _ _).trans hv16964
  have hv16967 := (h2v16981 _ _).trans hv16967
  have hv16969 := (h2v16981 _ _).trans hv16969
  have hv16972 := (h2v16981 _ _).trans hv16972
  have hv16974 := (h2v16981 _ _).trans hv16974
  have hv16977 := (h2v16981 _ _).trans hv16977
  have hv16979 := (h2v16981 _ _).trans hv16979
  have hfr : (∀ b j : Nat, (tag b ≠ 19 ∨ j ≠ 0) → (tag b ≠ 19 ∨ j ≠ 1) → fld F b j = fld Fo b j) ∧ EF tag F Fo := ⟨fun b j n19_0 n19_1 => (h2v16981 b j).trans (hfr.1 b j n19_0 n19_1), fun b j hb => (h1v16981 b j (ns_ne hb gb16980 (by decide))).trans (hfr.2 b j hb)⟩
  exact t_vret hQ X hT hfr (Nat.le_of_ble_eq_true rfl) (Nat.le_of_ble_eq_true rfl) dX7_copyFrom_89
set_option maxHeartbeats 4000000 in
set_option maxRecDepth 100000 in
theorem kt50_X10_pass (l : Launch) (G : KG) (tag : Nat → Nat) (L : List Nat) (Fo : Nat → va_E) (ho : okT G ttC tag L Fo) (p0 : Nat) (p1 : Nat) (p2 : Nat) (m0 : p0 ∈ L) (g0 : tag p0 = 18) (m1 : p1 ∈ L) (g1 : tag p1 = 19) (m2 : p2 ∈ L) (g2 : tag p2 = 10) : TMv l yX10_pass cX10_pass 5 { frames := 5, cells := 0, slots := 0, locals := 133 } G ttC tag L Fo [.ref p0, .ref p1, .ref p2] (fun F1 => ((∀ b j : Nat, (tag b ≠ 19 ∨ j ≠ 0) → (tag b ≠ 19 ∨ j ≠ 1) → fld F1 b j = fld Fo b j) ∧ EF tag F1 Fo)) := by
  refine t_bodyv (y := yX10_pass) (cd := cX10_pass) (mL := 5) (rm := { frames := 5, cells := 0, slots := 0, locals := 133 }) (av := [.ref p0, .ref p1, .ref p2]) (by decide) (Nat.le_of_ble_eq_true rfl) ho ?_
  intro p e s m args below meth c ls A Q hQ X hT hl
  have hx := X.1.1
  have hb := X.1.2.1
  have hl : lv_has ls 5 [(0, .ref p0), (1, .ref p1), (2, .ref p2)] := hl
  obtain ⟨F, hFo⟩ : ∃ F : Nat → va_E, F = Fo := ⟨_, rfl⟩
  rw [← hFo] at hT
  have hfr : (∀ b j : Nat, (tag b ≠ 19 ∨ j ≠ 0) → (tag b ≠ 19 ∨ j ≠ 1) → fld F b j = fld Fo b j) ∧ EF tag F Fo := by
    rw [hFo]
    exact ⟨by intros; rfl, fun _ _ _ => rfl⟩
  have K51 : ∀ (z17544 : Int32) (z17545 : Int32) (F : Nat → va_E) (H : Heap) (locs : List Loc) (ls : Array Slot), (0 ≤ z17544.toInt ∧ z17544.toInt ≤ 4) → (0 ≤ z17545.toInt ∧ z17545.toInt ≤ 4) → TH G ttC A s tag L F H locs → ((∀ b j : Nat, (tag b ≠ 19 ∨ j ≠ 0) → (tag b ≠ 19 ∨ j ≠ 1) → fld F b j = fld Fo b j) ∧ EF tag F Fo) → fld F p0 10 = .int z17545 → lv_has ls 5 [(0, .ref p0), (1, .ref p1), (2, .ref p2), (3, .int z17544)] → W p l e { frames := 5, cells := 0, slots := 0, locals := 133 } s m args below meth c H locs 0 0 Q (F0 m 51 ls []) := by
    intro z17544 z17545 F H locs ls rz17544 rz17545 hT hfr qz17545 hl
    refine lv_aload_n hx hb dX10_pass_51 rfl (lv_at hl 1 rfl) ?_
    refine lv_dup hx hb dX10_pass_52 rfl ?_
    refine t_get (C := RX7) (T := TX7) (N := 7) X hT m1 g1 rfl rfl 0 (by decide) qw_1102 inlX7 rfl dX10_pass_53 (fun v17546 hv17546 ov17546 => ?_)
    obtain ⟨z17547, rfl, rz17547⟩ := okV_i ov17546
    refine lv_iconst (v := 1) hx hb dX10_pass_56 (by decide) ?_
    refine lv_iadd hx hb dX10_pass_57 ?_
    refine lv_topi (fun z17548 ez17548 => ?_)
    have rz17548 := rg_all z17548
    refine t_put (C := RX7) (T := TX7) (N := 7) (v := .int z17548) X hT m1 g1 rfl tyX7 tyX7_ok nmX7 rfl 0 (by decide) qw_1102 inlX7 rfl (by first | rfl | decide) (by first | rfl | decide) rfl (⟨_, rfl, (show (-2147483648) ≤ (z17548 : Int32).toInt from (by omega)), (show (z17548 : Int32).toInt ≤ 2147483647 from (by omega))⟩) dX10_pass_58 (fun F H locs hT v17549 h1v17549 h2v17549 => ?_)
    have qz17545 := (h1v17549 _ _ (Or.inr (by decide))).trans qz17545
    have hfr : (∀ b j : Nat, (tag b ≠ 19 ∨ j ≠ 0) → (tag b ≠ 19 ∨ j ≠ 1) → fld F b j = fld Fo b j) ∧ EF tag F Fo := ⟨fun b j n19_0 n19_1 => (h1v17549 b j (fr_ne g1 n19_0)).trans (hfr.1 b j n19_0 n19_1), fun b j hb => (h2v17549 b j).trans (hfr.2 b j hb)⟩
    exact t_vret hQ X hT hfr (Nat.le_of_ble_eq_true rfl) (Nat.le_of_ble_eq_true rfl) dX10_pass_61
  have K2 : ∀ (n : Nat) (z17550 : Int32) (F : Nat → va_E) (H : Heap) (locs : List Loc) (ls : Array Slot), (4 - z17550.toInt < (n : Int)) → (0 ≤ z17550.toInt ∧ z17550.toInt ≤ 4) → TH G ttC A s tag L F H locs → ((∀ b j : Nat, (tag b ≠ 19 ∨ j ≠ 0) → (tag b ≠ 19 ∨ j ≠ 1) → fld F b j = fld Fo b j) ∧ EF tag F Fo) → lv_has ls 5 [(0, .ref p0), (1, .ref p1), (2, .ref p2), (3, .int z17550)] → W p l e { frames := 5, cells := 0, slots := 0, locals := 133 } s m args below meth c H locs 0 0 Q (F0 m 2 ls []) := by
    intro n
    induction n with
    | zero =>
      intro z17550 F H locs ls hn rz17550 hT hfr hl
      exfalso
      omega
    | succ n ih2 =>
      intro z17550 F H locs ls hn rz17550 hT hfr hl
      have K45 : ∀ (z17552 : Int32) (z17553 : Int32) (F : Nat → va_E) (H : Heap) (locs : List Loc) (ls : Array Slot), (0 ≤ z17552.toInt ∧ z17552.toInt ≤ 3) → (1 ≤ z17553.toInt ∧ z17553.toInt ≤ 4) → (0 ≤ z17550.toInt ∧ z17550.toInt ≤ 3) → TH G ttC A s tag L F H locs → ((∀ b j : Nat, (tag b ≠ 19 ∨ j ≠ 0) → (tag b ≠ 19 ∨ j ≠ 1) → fld F b j = fld Fo b j) ∧ EF tag F Fo) → fld F p0 10 = .int z17553 → lv_has ls 5 [(0, .ref p0), (1, .ref p1), (2, .ref p2), (3, .int z17550), (4, .int z17552)] → W p l e { frames := 5, cells := 0, slots := 0, locals := 133 } s m args below meth c H locs 0 0 Q (F0 m 45 ls []) := by
        intro z17552 z17553 F H locs ls rz17552 rz17553 r9s17551 hT hfr qz17553 hl
        obtain ⟨z17554, ez17554⟩ : ∃ y : Int32, y = z17550 + 1 := ⟨_, rfl⟩
        have hz17554 : z17554.toInt = z17550.toInt + 1 := ar_add ez17554 rfl (by decide : (1 : Int32).toInt = 1) (by omega) (by omega)
        refine lv_iinc (v := z17554) (lv' := [(3, .int z17554), (0, .ref p0), (1, .ref p1), (2, .ref p2), (4, .int z17552)]) hx hb dX10_pass_45 hl (k := 3) rfl (by rw [ez17554]; rfl) (by decide) rfl (fun ls hl => ?_)
        refine lv_goto (tgt := 2) hx hb dX10_pass_48 (by decide) ?_
        exact ih2 z17554 _ _ _ _ (by omega) (by omega) hT hfr  (lv_sub hl [1, 2, 3, 0] rfl)
      refine lv_iload_n hx hb dX10_pass_2 rfl (lv_at hl 3 rfl) ?_
      refine lv_aload_n hx hb dX10_pass_3 rfl (lv_at hl 0 rfl) ?_
      refine t_get (C := RX1) (T := TX1) (N := 20) X hT m0 g0 rfl rfl 10 (by decide) qw_1100 inlX1 rfl dX10_pass_4 (fun v17555 hv17555 ov17555 => ?_)
      obtain ⟨z17556, rfl, rz17556⟩ := okV_i ov17555
      refine lv_icmp_ge (tgt := 51) hx hb dX10_pass_7 (by decide) (fun c17557 => ?_) (fun c17557 => ?_)
      · have w17558 := cv_le (rfl : z17556.toInt = z17556.toInt) (rfl : z17550.toInt = z17550.toInt) c17557
        exact K51 z17550 z17556 _ _ _ _ (by omega) (by omega) hT hfr hv17555 (lv_sub hl [0, 1, 2, 3] rfl)
      · have w17559 := cv_nle (rfl : z17556.toInt = z17556.toInt) (rfl : z17550.toInt = z17550.toInt) c17557
        refine lv_iload_n hx hb dX10_pass_10 rfl (lv_at hl 3 rfl) ?_
        refine lv_aload_n hx hb dX10_pass_11 rfl (lv_at hl 2 rfl) ?_
        refine t_alen X hT m2 g2 rfl (by decide) dX10_pass_12 ?_
        refine lv_topi (fun z17560 ez17560 => ?_)
        obtain rfl : z17560 = 4 := ez17560.trans (by rfl)
        refine lv_icmp_ge (tgt := 51) hx hb dX10_pass_13 (by decide) (fun c17561 => ?_) (fun c17561 => ?_)
        · have w17562 := cv_le (by decide : (4 : Int32).toInt = 4) (rfl : z17550.toInt = z17550.toInt) c17561
          exfalso
          omega
        · have w17563 := cv_nle (by decide : (4 : Int32).toInt = 4) (rfl : z17550.toInt = z17550.toInt) c17561
          refine lv_aload_n hx hb dX10_pass_16 rfl (lv_at hl 2 rfl) ?_
          refine lv_iload_n hx hb dX10_pass_17 rfl (lv_at hl 3 rfl) ?_
          refine t_ild X hT m2 g2 rfl (by omega) dX10_pass_18 (fun z17564 vz17564 rz17564 => ?_)
          have rz17564 : 0 ≤ z17564.toInt ∧ z17564.toInt ≤ 3 := rz17564
          refine lv_istore (lv' := [(4, .int z17564), (0, .ref p0), (1, .ref p1), (2, .ref p2), (3, .int z17550)]) hx hb dX10_pass_19 hl (by decide) rfl (fun ls hl => ?_)
          refine lv_aload_n hx hb dX10_pass_21 rfl (lv_at hl 2 rfl) ?_
          refine t_get (C := RX7) (T := TX7) (N := 7) X hT m1 g1 rfl rfl 3 (by decide) qw_1101 inlX7 rfl dX10_pass_22 (fun v17565 hv17565 ov17565 => ?_)
          obtain ⟨b17566, rfl, mb17566, gb17566⟩ := okV_r ov17565
          have gb17566 : tag b17566 = 5 := tg_of gb17566
          refine lv_iload hx hb dX10_pass_25 (lv_at hl 0 rfl) ?_
          refine t_ild X hT mb17566 gb17566 rfl (by omega) dX10_pass_27 (fun z17567 vz17567 rz17567 => ?_)
          have rz17567 : (-2147483648) ≤ z17567.toInt ∧ z17567.toInt ≤ 2147483647 := rz17567
          refine lv_if_le (tgt := 45) hx hb dX10_pass_28 (by decide) (fun c17568 => ?_) (fun c17568 => ?_)
          · have w17569 := cv_le (rfl : z17567.toInt = z17567.toInt) (by decide : (0 : Int32).toInt = 0) c17568
            exact K45 z17564 z17556 _ _ _ _ (by omega) (by omega) (by omega) hT hfr hv17555 (lv_sub hl [1, 2, 3, 4, 0] rfl)
          · have w17570 := cv_nle (rfl : z17567.toInt = z17567.toInt) (by decide : (0 : Int32).toInt = 0) c17568
            refine lv_aload_n hx hb dX10_pass_31 rfl (lv_at hl 1 rfl) ?_
            refine lv_aload_n hx hb dX10_pass_32 rfl (lv_at hl 2 rfl) ?_
            refine lv_iload hx hb dX10_pass_33 (lv_at hl 0 rfl) ?_
            refine t_cSv (n := 3) (As := [.ref p0, .ref p1, .int z17564]) (rest := []) X hT (kt47_X10_liveOn l G tag L F hT.2.2.2 p0 p1 z17564 m0 g0 m1 g1 (by omega)) qw_1103 qw_1104 qw_32 qw_1105 ⟨by decide +kernel, by decide +kernel, by decide +kernel⟩ ⟨Nat.le_of_ble_eq_true rfl, Nat.le_of_ble_eq_true rfl⟩ hl rfl rfl (Nat.le_of_ble_eq_true rfl) dX10_pass_35 ⟨Nat.le_of_ble_eq_true rfl, Nat.le_of_ble_eq_true rfl⟩ (fun F H locs hT hz17571 => ?_)
            have yz17571 := hz17571
            have hv17555 := (yz17571.1 _ 10 (Or.inr (by decide))).trans hv17555
            have hv17565 := (yz17571.1 _ 3 (Or.inr (by decide))).trans hv17565
            have hfr : (∀ b j : Nat, (tag b ≠ 19 ∨ j ≠ 0) → (tag b ≠ 19 ∨ j ≠ 1) → fld F b j = fld Fo b j) ∧ EF tag F Fo := ⟨fun b j n19_0 n19_1 => (yz17571.1 b j n19_1).trans (hfr.1 b j n19_0 n19_1), fun b j hb => (yz17571.2 b j hb).trans (hfr.2 b j hb)⟩
            refine lv_aload_n hx hb dX10_pass_38 rfl (lv_at hl 1 rfl) ?_
            refine lv_aload_n hx hb dX10_pass_39 rfl (lv_at hl 2 rfl) ?_
            refine lv_iload hx hb dX10_pass_40 (lv_at hl 0 rfl) ?_
            refine t_cSv (n := 3) (As := [.ref p0, .ref p1, .int z17564]) (rest := []) X hT (kt45_X10_grow l G tag L F hT.2.2.2 p0 p1 z17564 m0 g0 m1 g1 (by omega)) qw_1128 qw_1129 qw_32 qw_1130 ⟨by decide +kernel, by decide +kernel, by decide +kernel⟩ ⟨Nat.le_of_ble_eq_true rfl, Nat.le_of_ble_eq_true rfl⟩ hl rfl rfl (Nat.le_of_ble_eq_true rfl) dX10_pass_42 ⟨Nat.le_of_ble_eq_true rfl, Nat.le_of_ble_eq_true rfl⟩ (fun F H locs hT hz17572 => ?_)
            have yz17572 := hz17572
            have hv17555 := (yz17572.1 _ 10 ).trans hv17555
            have hv17565 := (yz17572.1 _ 3 ).trans hv17565
            have hfr : (∀ b j : Nat, (tag b ≠ 19 ∨ j ≠ 0) → (tag b ≠ 19 ∨ j ≠ 1) → fld F b j = fld Fo b j) ∧ EF tag F Fo := ⟨fun b j n19_0 n19_1 => (yz17572.1 b j ).trans (hfr.1 b j n19_0 n19_1), fun b j hb => (yz17572.2 b j hb).trans (hfr.2 b j hb)⟩
            exact K45 z17564 z17556 _ _ _ _ (by omega) (by omega) (by omega) hT hfr hv17555 (lv_sub hl [1, 2, 3, 4, 0] rfl)
  refine lv_iconst (v := 0) hx hb dX10_pass_0 (by decide) ?_
  refine lv_istore_n (lv' := [(3, .int 0), (0, .ref p0), (1, .ref p1), (2, .ref p2)]) hx hb dX10_pass_1 rfl hl (by decide) rfl (fun ls hl => ?_)
  have kk17573 : (0 : Int32).toInt = 0 := by decide
  exact K2 5 0 _ _ _ _ (by omega) (by decide) hT hfr  (lv_sub hl [1, 2, 3, 0] rfl)
