set_option maxHeartbeats 4000000 in
set_option maxRecDepth 100000 in
theorem km224_X13_canBe (l : Launch) (G : KG) (tag : Nat → Nat) (L : List Nat) (Fo : Nat → va_E) (ho : okT G ttC tag L Fo) (p0 : Nat) (x0 : Nat) (m0 : p0 ∈ L) (g0 : tag p0 = 46) (mx0 : x0 ∈ L) (gx0 : tag x0 = 45) (pf0 : fld Fo p0 3 = .ref x0) : TMi l yX13_canBe cX13_canBe 5 (some .boolean) { frames := 2, cells := 0, slots := 0, locals := 42 } G ttC tag L Fo [.ref p0] (fun r F1 => (0 ≤ r.toInt ∧ r.toInt ≤ 1) ∧ ((∀ b j : Nat, fld F1 b j = fld Fo b j) ∧ (∀ b j : Nat, tag b ≠ 33 → elm F1 b j = elm Fo b j))) := by
  refine t_bodyi (y := yX13_canBe) (cd := cX13_canBe) (mL := 5) (rt := (some .boolean)) (rm := { frames := 2, cells := 0, slots := 0, locals := 42 }) (av := [.ref p0]) (by decide) (Nat.le_of_ble_eq_true rfl) ho ?_
  intro p e s m args below meth c ls A Q hQ X hT hl
  have hx := X.1.1
  have hb := X.1.2.1
  have hl : lv_has ls 5 [(0, .ref p0)] := hl
  obtain ⟨F, hFo⟩ : ∃ F : Nat → va_E, F = Fo := ⟨_, rfl⟩
  rw [← hFo] at hT pf0
  have hfr : (∀ b j : Nat, fld F b j = fld Fo b j) ∧ (∀ b j : Nat, tag b ≠ 33 → elm F b j = elm Fo b j) := by
    rw [hFo]
    exact ⟨by intros; rfl, by intros; rfl⟩
  have K144 : ∀ (n : Nat) (z66289 : Int32) (z66290 : Int32) (z66291 : Int32) (z66292 : Int32) (F : Nat → va_E) (H : Heap) (locs : List Loc) (ls : Array Slot), (z66291.toInt - (-1) < (n : Int)) → (0 ≤ z66289.toInt ∧ z66289.toInt ≤ 6) → ((-1) ≤ z66291.toInt ∧ z66291.toInt ≤ 5) → (0 ≤ z66292.toInt ∧ z66292.toInt ≤ 6) → TH G ttC A s tag L F H locs → ((∀ b j : Nat, fld F b j = fld Fo b j) ∧ (∀ b j : Nat, tag b ≠ 33 → elm F b j = elm Fo b j)) → (fld F p0 3 = .ref x0) → (fld F x0 10 = .int z66292) → lv_has ls 5 [(0, .ref p0), (1, .int z66289), (2, .int z66290), (3, .int z66291)] → W p l e { frames := 2, cells := 0, slots := 0, locals := 42 } s m args below meth c H locs 0 0 Q (F0 m 144 ls []) := by
    intro n
    induction n with
    | zero =>
      intro z66289 z66290 z66291 z66292 F H locs ls hn rz66289 rz66291 rz66292 hT hfr pf0 qz66292 hl
      have rz66290 := rg_all z66290
      exfalso
      omega
    | succ n ih144 =>
      intro z66289 z66290 z66291 z66292 F H locs ls hn rz66289 rz66291 rz66292 hT hfr pf0 qz66292 hl
      have rz66290 := rg_all z66290
      refine lv_iload_n hx hb dX13_canBe_144 rfl (lv_at hl 3 rfl) ?_
      refine lv_if_lt (tgt := 178) hx hb dX13_canBe_145 (by decide) (fun c66293 => ?_) (fun c66293 => ?_)
      · have w66294 := cv_lt (rfl : z66291.toInt = z66291.toInt) (by decide : (0 : Int32).toInt = 0) c66293
        refine lv_iconst (v := 1) hx hb dX13_canBe_178 (by decide) ?_
        have k66295 : (1 : Int32).toInt = 1 := by decide
        exact t_zret hQ X hT (by decide) (⟨(by decide), hfr⟩) (Nat.le_of_ble_eq_true rfl) (Nat.le_of_ble_eq_true rfl) dX13_canBe_179
      · have w66296 := cv_nlt (rfl : z66291.toInt = z66291.toInt) (by decide : (0 : Int32).toInt = 0) c66293
        refine lv_iload_n hx hb dX13_canBe_148 rfl (lv_at hl 2 rfl) ?_
        refine lv_aload_n hx hb dX13_canBe_149 rfl (lv_at hl 0 rfl) ?_
        refine lv_aload_n hx hb dX13_canBe_150 rfl (lv_at hl 0 rfl) ?_
        refine t_get (C := RX13) (T := TX13) (N := 37) X hT m0 g0 rfl rfl 29 (by decide) qw_120 inlX13 rfl dX13_canBe_151 (fun v66297 hv66297 ov66297 => ?_)
        obtain ⟨b66298, rfl, mb66298, gb66298⟩ := okV_r ov66297
        have gb66298 : tag b66298 = 43 := tg_of gb66298
        refine lv_iload_n hx hb dX13_canBe_154 rfl (lv_at hl 3 rfl) ?_
        refine t_ild X hT mb66298 gb66298 rfl (by omega) dX13_canBe_155 (fun z66299 vz66299 rz66299 => ?_)
        have rz66299 : 0 ≤ z66299.toInt ∧ z66299.toInt ≤ 5 := rz66299
        refine t_cVi (n := 1) (C := RX13) (T := TX13) (N := 37) (As := [.int z66299]) (rest := [.int z66290]) X hT (km223_X13_before l G tag L F hT.2.2.2 p0 z66299 x0 m0 g0 (by omega) mx0 gx0 pf0) m0 g0 rfl rfl qw_1370 qw_1371 qw_1372 qw_5 qw_1373 ⟨rfl, by decide +kernel, by decide +kernel, by decide +kernel⟩ ⟨Nat.le_of_ble_eq_true rfl, Nat.le_of_ble_eq_true rfl⟩ hl rfl rfl (Nat.le_of_ble_eq_true rfl) dX13_canBe_156 ⟨Nat.le_of_ble_eq_true rfl, Nat.le_of_ble_eq_true rfl⟩ (fun z66300 F9 H locs hT hz66300 => ?_)
        obtain ⟨fz66300, hz66300⟩ := hz66300
        rw [fz66300] at hT
        refine t_cSi (n := 2) (As := [.int z66290, .int z66300]) (rest := []) X hT (km161_X13_least l G tag L F hT.2.2.2 z66290 z66300 ) qw_1065 qw_1066 qw_5 qw_1067 ⟨by decide +kernel, by decide +kernel, by decide +kernel⟩ ⟨Nat.le_of_ble_eq_true rfl, Nat.le_of_ble_eq_true rfl⟩ hl rfl rfl (Nat.le_of_ble_eq_true rfl) dX13_canBe_159 ⟨Nat.le_of_ble_eq_true rfl, Nat.le_of_ble_eq_true rfl⟩ (fun z66301 F9 H locs hT hz66301 => ?_)
        obtain ⟨fz66301, hz66301⟩ := hz66301
        rw [fz66301] at hT
        refine lv_iconst (v := 1) hx hb dX13_canBe_162 (by decide) ?_
        refine lv_isub hx hb dX13_canBe_163 ?_
        refine lv_topi (fun z66302 ez66302 => ?_)
        have rz66302 := rg_all z66302
        refine lv_istore_n (lv' := [(2, .int z66302), (0, .ref p0), (1, .int z66289), (3, .int z66291)]) hx hb dX13_canBe_164 rfl hl (by decide) rfl (fun ls hl => ?_)
        refine lv_aload_n hx hb dX13_canBe_165 rfl (lv_at hl 1 rfl) ?_
        refine t_get (C := RX13) (T := TX13) (N := 37) X hT m0 g0 rfl rfl 34 (by decide) qw_125 inlX13 rfl dX13_canBe_166 (fun v66303 hv66303 ov66303 => ?_)
        obtain ⟨b66304, rfl, mb66304, gb66304⟩ := okV_r ov66303
        have gb66304 : tag b66304 = 33 := tg_of gb66304
        refine lv_iload_n hx hb dX13_canBe_169 rfl (lv_at hl 3 rfl) ?_
        refine lv_iload_n hx hb dX13_canBe_170 rfl (lv_at hl 0 rfl) ?_
        refine t_ist X hT mb66304 gb66304 rfl (by omega) (show (-2147483648) ≤ (z66302 : Int32).toInt ∧ (z66302 : Int32).toInt ≤ 2147483647 from (rg_all _)) dX13_canBe_171 (fun F H locs hT v66305 h1v66305 h2v66305 => ?_)
        have qz66292 := (h2v66305 _ _).trans qz66292
        have pf0 := (h2v66305 _ _).trans pf0
        have hv66297 := (h2v66305 _ _).trans hv66297
        have vz66299 := (h1v66305 _ _ (Or.inl (tne gb66298 gb66304 (by decide)))).trans vz66299
        have hv66303 := (h2v66305 _ _).trans hv66303
        have hfr : (∀ b j : Nat, fld F b j = fld Fo b j) ∧ (∀ b j : Nat, tag b ≠ 33 → elm F b j = elm Fo b j) := ⟨fun b j  => (h2v66305 b j).trans (hfr.1 b j ), fun b j a33 => (h1v66305 b j (Or.inl (at_ne gb66304 a33))).trans (hfr.2 b j a33)⟩
        obtain ⟨z66306, ez66306⟩ : ∃ y : Int32, y = z66291 + (-1) := ⟨_, rfl⟩
        have hz66306 : z66306.toInt = z66291.toInt + (-1) := ar_add ez66306 rfl (by decide : ((-1) : Int32).toInt = (-1)) (by omega) (by omega)
        refine lv_iinc (v := z66306) (lv' := [(3, .int z66306), (2, .int z66302), (0, .ref p0), (1, .int z66289)]) hx hb dX13_canBe_172 hl (k := 3) rfl (by rw [ez66306]; rfl) (by decide) rfl (fun ls hl => ?_)
        refine lv_goto (tgt := 144) hx hb dX13_canBe_175 (by decide) ?_
        exact ih144 z66289 z66302 z66306 z66292 _ _ _ _ (by omega) (by omega) (by omega) (by omega) hT hfr pf0 qz66292 (lv_sub hl [2, 3, 1, 0] rfl)
  have K66 : ∀ (n : Nat) (z66307 : Int32) (z66308 : Int32) (z66309 : Int32) (z66310 : Int32) (F : Nat → va_E) (H : Heap) (locs : List Loc) (ls : Array Slot), (6 - z66309.toInt < (n : Int)) → (0 ≤ z66307.toInt ∧ z66307.toInt ≤ 6) → ((-1) ≤ z66308.toInt ∧ z66308.toInt ≤ 2147483646) → (0 ≤ z66309.toInt ∧ z66309.toInt ≤ 6) → (0 ≤ z66310.toInt ∧ z66310.toInt ≤ 6) → TH G ttC A s tag L F H locs → ((∀ b j : Nat, fld F b j = fld Fo b j) ∧ (∀ b j : Nat, tag b ≠ 33 → elm F b j = elm Fo b j)) → (fld F p0 3 = .ref x0) → (fld F x0 10 = .int z66310) → lv_has ls 5 [(0, .ref p0), (1, .int z66307), (2, .int z66308), (3, .int z66309)] → W p l e { frames := 2, cells := 0, slots := 0, locals := 42 } s m args below meth c H locs 0 0 Q (F0 m 66 ls []) := by
    intro n
    induction n with
    | zero =>
      intro z66307 z66308 z66309 z66310 F H locs ls hn rz66307 rz66308 rz66309 rz66310 hT hfr pf0 qz66310 hl
      exfalso
      omega
    | succ n ih66 =>
      intro z66307 z66308 z66309 z66310 F H locs ls hn rz66307 rz66308 rz66309 rz66310 hT hfr pf0 qz66310 hl
      have K101 : ∀ (z66313 : Int32) (z66314 : Int32) (z66315 : Int32) (F : Nat → va_E) (H : Heap) (locs : List Loc) (ls : Array Slot), (0 ≤ z66314.toInt ∧ z66314.toInt ≤ 2147483647) → (0 ≤ z66315.toInt ∧ z66315.toInt ≤ 6) → (1 ≤ z66307.toInt ∧ z66307.toInt ≤ 6) → (0 ≤ z66309.toInt ∧ z66309.toInt ≤ 5) → TH G ttC A s tag L F H locs → ((∀ b j : Nat, fld F b j = fld Fo b j) ∧ (∀ b j : Nat, tag b ≠ 33 → elm F b j = elm Fo b j)) → (fld F p0 3 = .ref x0) → (fld F x0 10 = .int z66315) → lv_has ls 5 [(0, .ref p0), (1, .int z66307), (2, .int z66308), (3, .int z66309), (4, .int z66313)] → W p l e { frames := 2, cells := 0, slots := 0, locals := 42 } s m args below meth c H locs 0 0 Q (F0 m 101 ls [.int z66314]) := by
        intro z66313 z66314 z66315 F H locs ls rz66314 rz66315 r9s66311 r9s66312 hT hfr pf0 qz66315 hl
        have rz66313 := rg_all z66313
        refine lv_istore_n (lv' := [(2, .int z66314), (0, .ref p0), (1, .int z66307), (3, .int z66309), (4, .int z66313)]) hx hb dX13_canBe_101 rfl hl (by decide) rfl (fun ls hl => ?_)
        refine lv_iload_n hx hb dX13_canBe_102 rfl (lv_at hl 0 rfl) ?_
        refine lv_aload_n hx hb dX13_canBe_103 rfl (lv_at hl 1 rfl) ?_
        refine lv_aload_n hx hb dX13_canBe_104 rfl (lv_at hl 1 rfl) ?_
        refine t_get (C := RX13) (T := TX13) (N := 37) X hT m0 g0 rfl rfl 29 (by decide) qw_120 inlX13 rfl dX13_canBe_105 (fun v66316 hv66316 ov66316 => ?_)
        obtain ⟨b66317, rfl, mb66317, gb66317⟩ := okV_r ov66316
        have gb66317 : tag b66317 = 43 := tg_of gb66317
        refine lv_iload_n hx hb dX13_canBe_108 rfl (lv_at hl 3 rfl) ?_
        refine t_ild X hT mb66317 gb66317 rfl (by omega) dX13_canBe_109 (fun z66318 vz66318 rz66318 => ?_)
        have rz66318 : 0 ≤ z66318.toInt ∧ z66318.toInt ≤ 5 := rz66318
        refine t_cVi (n := 1) (C := RX13) (T := TX13) (N := 37) (As := [.int z66318]) (rest := [.int z66314]) X hT (km223_X13_before l G tag L F hT.2.2.2 p0 z66318 x0 m0 g0 (by omega) mx0 gx0 pf0) m0 g0 rfl rfl qw_1370 qw_1371 qw_1372 qw_5 qw_1373 ⟨rfl, by decide +kernel, by decide +kernel, by decide +kernel⟩ ⟨Nat.le_of_ble_eq_true rfl, Nat.le_of_ble_eq_true rfl⟩ hl rfl rfl (Nat.le_of_ble_eq_true rfl) dX13_canBe_110 ⟨Nat.le_of_ble_eq_true rfl, Nat.le_of_ble_eq_true rfl⟩ (fun z66319 F9 H locs hT hz66319 => ?_)
        obtain ⟨fz66319, hz66319⟩ := hz66319
        rw [fz66319] at hT
        refine lv_icmp_lt (tgt := 118) hx hb dX13_canBe_113 (by decide) (fun c66320 => ?_) (fun c66320 => ?_)
        · have w66321 := cv_lt (rfl : z66314.toInt = z66314.toInt) (rfl : z66319.toInt = z66319.toInt) c66320
          refine lv_aload_n hx hb dX13_canBe_118 rfl (lv_at hl 1 rfl) ?_
          refine t_get (C := RX13) (T := TX13) (N := 37) X hT m0 g0 rfl rfl 33 (by decide) qw_124 inlX13 rfl dX13_canBe_119 (fun v66322 hv66322 ov66322 => ?_)
          obtain ⟨b66323, rfl, mb66323, gb66323⟩ := okV_r ov66322
          have gb66323 : tag b66323 = 33 := tg_of gb66323
          refine lv_iload_n hx hb dX13_canBe_122 rfl (lv_at hl 3 rfl) ?_
          refine lv_iload_n hx hb dX13_canBe_123 rfl (lv_at hl 0 rfl) ?_
          refine t_ist X hT mb66323 gb66323 rfl (by omega) (show (-2147483648) ≤ (z66314 : Int32).toInt ∧ (z66314 : Int32).toInt ≤ 2147483647 from (rg_all _)) dX13_canBe_124 (fun F H locs hT v66324 h1v66324 h2v66324 => ?_)
          have qz66315 := (h2v66324 _ _).trans qz66315
          have pf0 := (h2v66324 _ _).trans pf0
          have hv66316 := (h2v66324 _ _).trans hv66316
          have vz66318 := (h1v66324 _ _ (Or.inl (tne gb66317 gb66323 (by decide)))).trans vz66318
          have hv66322 := (h2v66324 _ _).trans hv66322
          have hfr : (∀ b j : Nat, fld F b j = fld Fo b j) ∧ (∀ b j : Nat, tag b ≠ 33 → elm F b j = elm Fo b j) := ⟨fun b j  => (h2v66324 b j).trans (hfr.1 b j ), fun b j a33 => (h1v66324 b j (Or.inl (at_ne gb66323 a33))).trans (hfr.2 b j a33)⟩
          obtain ⟨z66325, ez66325⟩ : ∃ y : Int32, y = z66309 + 1 := ⟨_, rfl⟩
          have hz66325 : z66325.toInt = z66309.toInt + 1 := ar_add ez66325 rfl (by decide : (1 : Int32).toInt = 1) (by omega) (by omega)
          refine lv_iinc (v := z66325) (lv' := [(3, .int z66325), (2, .int z66314), (0, .ref p0), (1, .int z66307), (4, .int z66313)]) hx hb dX13_canBe_125 hl (k := 3) rfl (by rw [ez66325]; rfl) (by decide) rfl (fun ls hl => ?_)
          refine lv_goto (tgt := 66) hx hb dX13_canBe_128 (by decide) ?_
          exact ih66 z66307 z66314 z66325 z66315 _ _ _ _ (by omega) (by omega) (by omega) (by omega) (by omega) hT hfr pf0 qz66315 (lv_sub hl [2, 3, 1, 0] rfl)
        · have w66326 := cv_nlt (rfl : z66314.toInt = z66314.toInt) (rfl : z66319.toInt = z66319.toInt) c66320
          refine lv_iconst (v := 0) hx hb dX13_canBe_116 (by decide) ?_
          have k66327 : (0 : Int32).toInt = 0 := by decide
          exact t_zret hQ X hT (by decide) (⟨(by decide), hfr⟩) (Nat.le_of_ble_eq_true rfl) (Nat.le_of_ble_eq_true rfl) dX13_canBe_117
      refine lv_iload_n hx hb dX13_canBe_66 rfl (lv_at hl 3 rfl) ?_
      refine lv_iload_n hx hb dX13_canBe_67 rfl (lv_at hl 1 rfl) ?_
      refine lv_icmp_ge (tgt := 131) hx hb dX13_canBe_68 (by decide) (fun c66328 => ?_) (fun c66328 => ?_)
      · have w66329 := cv_le (rfl : z66307.toInt = z66307.toInt) (rfl : z66309.toInt = z66309.toInt) c66328
        refine lv_aload_n hx hb dX13_canBe_131 rfl (lv_at hl 0 rfl) ?_
        refine t_get (C := RX13) (T := TX13) (N := 37) X hT m0 g0 rfl rfl 16 (by decide) qw_112 inlX13 rfl dX13_canBe_132 (fun v66330 hv66330 ov66330 => ?_)
        obtain ⟨b66331, rfl, mb66331, gb66331⟩ := okV_r ov66330
        have gb66331 : tag b66331 = 37 := tg_of gb66331
        refine lv_sipush (v := 210) hx hb dX13_canBe_135 (by decide) ?_
        refine t_ild X hT mb66331 gb66331 rfl (by decide) dX13_canBe_138 (fun z66332 vz66332 rz66332 => ?_)
        have oz66332 := rz66332
        have rz66332 := rg_all z66332
        refine lv_istore_n (lv' := [(2, .int z66332), (0, .ref p0), (1, .int z66307), (3, .int z66309)]) hx hb dX13_canBe_139 rfl hl (by decide) rfl (fun ls hl => ?_)
        refine lv_iload_n hx hb dX13_canBe_140 rfl (lv_at hl 2 rfl) ?_
        refine lv_iconst (v := 1) hx hb dX13_canBe_141 (by decide) ?_
        refine lv_isub hx hb dX13_canBe_142 ?_
        refine lv_topi (fun z66333 ez66333 => ?_)
        have hz66333 : z66333.toInt = z66307.toInt - 1 := ar_sub ez66333 (rfl : z66307.toInt = z66307.toInt) (by decide : (1 : Int32).toInt = 1) (by omega) (by omega)
        have rz66333 : (-1) ≤ z66333.toInt ∧ z66333.toInt ≤ 5 := by omega
        refine lv_istore_n (lv' := [(3, .int z66333), (2, .int z66332), (0, .ref p0), (1, .int z66307)]) hx hb dX13_canBe_143 rfl hl (by decide) rfl (fun ls hl => ?_)
        exact K144 7 z66307 z66332 z66333 z66310 _ _ _ _ (by omega) (by omega) (by omega) (by omega) hT hfr pf0 qz66310 (lv_sub hl [2, 3, 1, 0] rfl)
      · have w66334 := cv_nle (rfl : z66307.toInt = z66307.toInt) (rfl : z66309.toInt = z66309.toInt) c66328
        refine lv_aload_n hx hb dX13_canBe_71 rfl (lv_at hl 0 rfl) ?_
        refine t_get (C := RX13) (T := TX13) (N := 37) X hT m0 g0 rfl rfl 3 (by decide) qw_481 inlX13 rfl dX13_canBe_72 (fun v66335 hv66335 ov66335 => ?_)
        obtain rfl : v66335 = .ref x0 := hv66335.symm.trans pf0
        refine t_getN (C := RX12) (T := TX12) (N := 31) X hT mx0 gx0 rfl rfl 25 (by decide) (List.mem_of_getElem? (i := 29) rfl) inlX12 rfl dX13_canBe_75 (fun v66336 hv66336 ov66336 => ?_)
        obtain ⟨b66337, rfl, mb66337, gb66337⟩ := okV_r ov66336
        have gb66337 : tag b66337 = 33 := tg_of gb66337
        refine lv_aload_n hx hb dX13_canBe_78 rfl (lv_at hl 0 rfl) ?_
        refine t_get (C := RX13) (T := TX13) (N := 37) X hT m0 g0 rfl rfl 29 (by decide) qw_120 inlX13 rfl dX13_canBe_79 (fun v66338 hv66338 ov66338 => ?_)
        obtain ⟨b66339, rfl, mb66339, gb66339⟩ := okV_r ov66338
        have gb66339 : tag b66339 = 43 := tg_of gb66339
        refine lv_iload_n hx hb dX13_canBe_82 rfl (lv_at hl 3 rfl) ?_
        refine t_ild X hT mb66339 gb66339 rfl (by omega) dX13_canBe_83 (fun z66340 vz66340 rz66340 => ?_)
        have rz66340 : 0 ≤ z66340.toInt ∧ z66340.toInt ≤ 5 := rz66340
        refine t_ild X hT mb66337 gb66337 rfl (by omega) dX13_canBe_84 (fun z66341 vz66341 rz66341 => ?_)
        have rz66341 : (-2147483648) ≤ z66341.toInt ∧ z66341.toInt ≤ 2147483647 := rz66341
        refine lv_istore (lv' := [(4, .int z66341), (0, .ref p0), (1, .int z66307), (2, .int z66308), (3, .int z66309)]) hx hb dX13_canBe_85 hl (by decide) rfl (fun ls hl => ?_)
        refine lv_iload hx hb dX13_canBe_87 (lv_at hl 0 rfl) ?_
        refine lv_iload_n hx hb dX13_canBe_89 rfl (lv_at hl 3 rfl) ?_
        refine lv_icmp_le (tgt := 98) hx hb dX13_canBe_90 (by decide) (fun c66342 => ?_) (fun c66342 => ?_)
        · have w66343 := cv_le (rfl : z66341.toInt = z66341.toInt) (rfl : z66308.toInt = z66308.toInt) c66342
          refine lv_iload_n hx hb dX13_canBe_98 rfl (lv_at hl 3 rfl) ?_
          refine lv_iconst (v := 1) hx hb dX13_canBe_99 (by decide) ?_
          refine lv_iadd hx hb dX13_canBe_100 ?_
          refine lv_topi (fun z66344 ez66344 => ?_)
          have hz66344 : z66344.toInt = z66308.toInt + 1 := ar_add ez66344 (rfl : z66308.toInt = z66308.toInt) (by decide : (1 : Int32).toInt = 1) (by omega) (by omega)
          have rz66344 : 0 ≤ z66344.toInt ∧ z66344.toInt ≤ 2147483647 := by omega
          exact K101 z66341 z66344 z66310 _ _ _ _ (by omega) (by omega) (by omega) (by omega) hT hfr pf0 qz66310 (lv_sub hl [1, 2, 3, 4, 0] rfl)
        · have w66345 := cv_nle (rfl : z66341.toInt = z66341.toInt) (rfl : z66308.toInt = z66308.toInt) c66342
          refine lv_iload hx hb dX13_canBe_93 (lv_at hl 0 rfl) ?_
          refine lv_goto (tgt := 101) hx hb dX13_canBe_95 (by decide) ?_
          exact K101 z66341 z66341 z66310 _ _ _ _ (by omega) (by omega) (by omega) (by omega) hT hfr pf0 qz66310 (lv_sub hl [1, 2, 3, 4, 0] rfl)
  have K10 : ∀ (n : Nat) (z66346 : Int32) (z66347 : Int32) (z66348 : Int32) (F : Nat → va_E) (H : Heap) (locs : List Loc) (ls : Array Slot), (6 - z66347.toInt < (n : Int)) → (0 ≤ z66346.toInt ∧ z66346.toInt ≤ 6) → (0 ≤ z66347.toInt ∧ z66347.toInt ≤ 6) → (0 ≤ z66348.toInt ∧ z66348.toInt ≤ 6) → TH G ttC A s tag L F H locs → ((∀ b j : Nat, fld F b j = fld Fo b j) ∧ (∀ b j : Nat, tag b ≠ 33 → elm F b j = elm Fo b j)) → (fld F p0 3 = .ref x0) → (fld F x0 10 = .int z66348) → lv_has ls 5 [(0, .ref p0), (1, .int z66346), (2, .int z66347)] → W p l e { frames := 2, cells := 0, slots := 0, locals := 42 } s m args below meth c H locs 0 0 Q (F0 m 10 ls []) := by
    intro n
    induction n with
    | zero =>
      intro z66346 z66347 z66348 F H locs ls hn rz66346 rz66347 rz66348 hT hfr pf0 qz66348 hl
      exfalso
      omega
    | succ n ih10 =>
      intro z66346 z66347 z66348 F H locs ls hn rz66346 rz66347 rz66348 hT hfr pf0 qz66348 hl
      have K17 : ∀ (n : Nat) (z66351 : Int32) (z66352 : Int32) (F : Nat → va_E) (H : Heap) (locs : List Loc) (ls : Array Slot), (5 - z66351.toInt < (n : Int)) → (0 ≤ z66351.toInt ∧ z66351.toInt ≤ 5) → (0 ≤ z66352.toInt ∧ z66352.toInt ≤ 6) → (1 ≤ z66346.toInt ∧ z66346.toInt ≤ 6) → (0 ≤ z66347.toInt ∧ z66347.toInt ≤ 5) → TH G ttC A s tag L F H locs → ((∀ b j : Nat, fld F b j = fld Fo b j) ∧ (∀ b j : Nat, tag b ≠ 33 → elm F b j = elm Fo b j)) → (fld F p0 3 = .ref x0) → (fld F x0 10 = .int z66352) → lv_has ls 5 [(0, .ref p0), (1, .int z66346), (2, .int z66347), (3, .int z66351)] → W p l e { frames := 2, cells := 0, slots := 0, locals := 42 } s m args below meth c H locs 0 0 Q (F0 m 17 ls []) := by
        intro n
        induction n with
        | zero =>
          intro z66351 z66352 F H locs ls hn rz66351 rz66352 r9s66349 r9s66350 hT hfr pf0 qz66352 hl
          exfalso
          omega
        | succ n ih17 =>
          intro z66351 z66352 F H locs ls hn rz66351 rz66352 r9s66349 r9s66350 hT hfr pf0 qz66352 hl
          refine lv_iload_n hx hb dX13_canBe_17 rfl (lv_at hl 3 rfl) ?_
          refine lv_iload_n hx hb dX13_canBe_18 rfl (lv_at hl 2 rfl) ?_
          refine lv_icmp_ge (tgt := 56) hx hb dX13_canBe_19 (by decide) (fun c66353 => ?_) (fun c66353 => ?_)
          · have w66354 := cv_le (rfl : z66347.toInt = z66347.toInt) (rfl : z66351.toInt = z66351.toInt) c66353
            obtain ⟨z66355, ez66355⟩ : ∃ y : Int32, y = z66347 + 1 := ⟨_, rfl⟩
            have hz66355 : z66355.toInt = z66347.toInt + 1 := ar_add ez66355 rfl (by decide : (1 : Int32).toInt = 1) (by omega) (by omega)
            refine lv_iinc (v := z66355) (lv' := [(2, .int z66355), (0, .ref p0), (1, .int z66346), (3, .int z66351)]) hx hb dX13_canBe_56 hl (k := 2) rfl (by rw [ez66355]; rfl) (by decide) rfl (fun ls hl => ?_)
            refine lv_goto (tgt := 10) hx hb dX13_canBe_59 (by decide) ?_
            exact ih10 z66346 z66355 z66352 _ _ _ _ (by omega) (by omega) (by omega) (by omega) hT hfr pf0 qz66352 (lv_sub hl [1, 2, 0] rfl)
          · have w66356 := cv_nle (rfl : z66347.toInt = z66347.toInt) (rfl : z66351.toInt = z66351.toInt) c66353
            refine lv_aload_n hx hb dX13_canBe_22 rfl (lv_at hl 0 rfl) ?_
            refine t_get (C := RX13) (T := TX13) (N := 37) X hT m0 g0 rfl rfl 3 (by decide) qw_481 inlX13 rfl dX13_canBe_23 (fun v66357 hv66357 ov66357 => ?_)
            obtain rfl : v66357 = .ref x0 := hv66357.symm.trans pf0
            refine t_getN (C := RX12) (T := TX12) (N := 31) X hT mx0 gx0 rfl rfl 24 (by decide) (List.mem_of_getElem? (i := 28) rfl) inlX12 rfl dX13_canBe_26 (fun v66358 hv66358 ov66358 => ?_)
            obtain ⟨b66359, rfl, mb66359, gb66359⟩ := okV_r ov66358
            have gb66359 : tag b66359 = 33 := tg_of gb66359
            refine lv_aload_n hx hb dX13_canBe_29 rfl (lv_at hl 0 rfl) ?_
            refine t_get (C := RX13) (T := TX13) (N := 37) X hT m0 g0 rfl rfl 29 (by decide) qw_120 inlX13 rfl dX13_canBe_30 (fun v66360 hv66360 ov66360 => ?_)
            obtain ⟨b66361, rfl, mb66361, gb66361⟩ := okV_r ov66360
            have gb66361 : tag b66361 = 43 := tg_of gb66361
            refine lv_iload_n hx hb dX13_canBe_33 rfl (lv_at hl 2 rfl) ?_
            refine t_ild X hT mb66361 gb66361 rfl (by omega) dX13_canBe_34 (fun z66362 vz66362 rz66362 => ?_)
            have rz66362 : 0 ≤ z66362.toInt ∧ z66362.toInt ≤ 5 := rz66362
            refine t_ild X hT mb66359 gb66359 rfl (by omega) dX13_canBe_35 (fun z66363 vz66363 rz66363 => ?_)
            have rz66363 : (-2147483648) ≤ z66363.toInt ∧ z66363.toInt ≤ 2147483647 := rz66363
            refine lv_aload_n hx hb dX13_canBe_36 rfl (lv_at hl 0 rfl) ?_
            refine t_get (C := RX13) (T := TX13) (N := 37) X hT m0 g0 rfl rfl 29 (by decide) qw_120 inlX13 rfl dX13_canBe_37 (fun v66364 hv66364 ov66364 => ?_)
            obtain rfl : v66364 = .ref b66361 := hv66364.symm.trans hv66360
            refine lv_iload_n hx hb dX13_canBe_40 rfl (lv_at hl 3 rfl) ?_
            refine t_ild X hT mb66361 gb66361 rfl (by omega) dX13_canBe_41 (fun z66365 vz66365 rz66365 => ?_)
            have rz66365 : 0 ≤ z66365.toInt ∧ z66365.toInt ≤ 5 := rz66365
            refine t_cSi (n := 2) (As := [.int z66363, .int z66365]) (rest := []) X hT (km24_X13_bit l G tag L F hT.2.2.2 z66363 z66365 ) qw_676 qw_677 qw_5 qw_678 ⟨by decide +kernel, by decide +kernel, by decide +kernel⟩ ⟨Nat.le_of_ble_eq_true rfl, Nat.le_of_ble_eq_true rfl⟩ hl rfl rfl (Nat.le_of_ble_eq_true rfl) dX13_canBe_42 ⟨Nat.le_of_ble_eq_true rfl, Nat.le_of_ble_eq_true rfl⟩ (fun z66366 F9 H locs hT hz66366 => ?_)
            obtain ⟨fz66366, hz66366⟩ := hz66366
            rw [fz66366] at hT
            refine lv_if_eq (tgt := 50) hx hb dX13_canBe_45 (by decide) (fun c66367 => ?_) (fun c66367 => ?_)
            · have w66368 := cv_eq (rfl : z66366.toInt = z66366.toInt) (by decide : (0 : Int32).toInt = 0) c66367
              obtain ⟨z66369, ez66369⟩ : ∃ y : Int32, y = z66351 + 1 := ⟨_, rfl⟩
              have hz66369 : z66369.toInt = z66351.toInt + 1 := ar_add ez66369 rfl (by decide : (1 : Int32).toInt = 1) (by omega) (by omega)
              refine lv_iinc (v := z66369) (lv' := [(3, .int z66369), (0, .ref p0), (1, .int z66346), (2, .int z66347)]) hx hb dX13_canBe_50 hl (k := 3) rfl (by rw [ez66369]; rfl) (by decide) rfl (fun ls hl => ?_)
              refine lv_goto (tgt := 17) hx hb dX13_canBe_53 (by decide) ?_
              exact ih17 z66369 z66352 _ _ _ _ (by omega) (by omega) (by omega) (by omega) (by omega) hT hfr pf0 qz66352 (lv_sub hl [1, 2, 3, 0] rfl)
            · have w66370 := cv_ne (rfl : z66366.toInt = z66366.toInt) (by decide : (0 : Int32).toInt = 0) c66367
              refine lv_iconst (v := 0) hx hb dX13_canBe_48 (by decide) ?_
              have k66371 : (0 : Int32).toInt = 0 := by decide
              exact t_zret hQ X hT (by decide) (⟨(by decide), hfr⟩) (Nat.le_of_ble_eq_true rfl) (Nat.le_of_ble_eq_true rfl) dX13_canBe_49
      refine lv_iload_n hx hb dX13_canBe_10 rfl (lv_at hl 2 rfl) ?_
      refine lv_iload_n hx hb dX13_canBe_11 rfl (lv_at hl 1 rfl) ?_
      refine lv_icmp_ge (tgt := 62) hx hb dX13_canBe_12 (by decide) (fun c66372 => ?_) (fun c66372 => ?_)
      · have w66373 := cv_le (rfl : z66346.toInt = z66346.toInt) (rfl : z66347.toInt = z66347.toInt) c66372
        refine lv_iconst (v := (-1)) hx hb dX13_canBe_62 (by decide) ?_
        refine lv_istore_n (lv' := [(2, .int (-1)), (0, .ref p0), (1, .int z66346)]) hx hb dX13_canBe_63 rfl hl (by decide) rfl (fun ls hl => ?_)
        refine lv_iconst (v := 0) hx hb dX13_canBe_64 (by decide) ?_
        refine lv_istore_n (lv' := [(3, .int 0), (2, .int (-1)), (0, .ref p0), (1, .int z66346)]) hx hb dX13_canBe_65 rfl hl (by decide) rfl (fun ls hl => ?_)
        have k66374 : ((-1) : Int32).toInt = (-1) := by decide
        have k66375 : (0 : Int32).toInt = 0 := by decide
        exact K66 7 z66346 (-1) 0 z66348 _ _ _ _ (by omega) (by omega) (by decide) (by decide) (by omega) hT hfr pf0 qz66348 (lv_sub hl [2, 3, 1, 0] rfl)
      · have w66376 := cv_nle (rfl : z66346.toInt = z66346.toInt) (rfl : z66347.toInt = z66347.toInt) c66372
        refine lv_iconst (v := 0) hx hb dX13_canBe_15 (by decide) ?_
        refine lv_istore_n (lv' := [(3, .int 0), (0, .ref p0), (1, .int z66346), (2, .int z66347)]) hx hb dX13_canBe_16 rfl hl (by decide) rfl (fun ls hl => ?_)
        have k66377 : (0 : Int32).toInt = 0 := by decide
        exact K17 6 0 z66348 _ _ _ _ (by omega) (by decide) (by omega) (by omega) (by omega) hT hfr pf0 qz66348 (lv_sub hl [1, 2, 3, 0] rfl)
  refine lv_aload_n hx hb dX13_canBe_0 rfl (lv_at hl 0 rfl) ?_
  refine t_get (C := RX13) (T := TX13) (N := 37) X hT m0 g0 rfl rfl 3 (by decide) qw_481 inlX13 rfl dX13_canBe_1 (fun v66378 hv66378 ov66378 => ?_)
  obtain rfl : v66378 = .ref x0 := hv66378.symm.trans pf0
  refine t_getN (C := RX12) (T := TX12) (N := 31) X hT mx0 gx0 rfl rfl 10 (by decide) (List.mem_of_getElem? (i := 14) rfl) inlX12 rfl dX13_canBe_4 (fun v66379 hv66379 ov66379 => ?_)
  obtain ⟨z66380, rfl, rz66380⟩ := okV_i ov66379
  refine lv_istore_n (lv' := [(1, .int z66380), (0, .ref p0)]) hx hb dX13_canBe_7 rfl hl (by decide) rfl (fun ls hl => ?_)
  refine lv_iconst (v := 0) hx hb dX13_canBe_8 (by decide) ?_
  refine lv_istore_n (lv' := [(2, .int 0), (1, .int z66380), (0, .ref p0)]) hx hb dX13_canBe_9 rfl hl (by decide) rfl (fun ls hl => ?_)
  have k66381 : (0 : Int32).toInt = 0 := by decide
  exact K10 7 z66380 0 z66380 _ _ _ _ (by omega) (by omega) (by decide) (by omega) hT hfr pf0 hv66379 (lv_sub hl [2, 1, 0] rfl)
set_option maxHeartbeats 4000000 in
set_option maxRecDepth 100000 in
theorem km225_X13_swaps (l : Launch) (G : KG) (tag : Nat → Nat) (L : List Nat) (Fo : Nat → va_E) (ho : okT G ttC tag L Fo) (p0 : Nat) (p1 : Int32) (p2 : Int32) (m0 : p0 ∈ L) (g0 : tag p0 = 43) (h1 : 0 ≤ p1.toInt ∧ p1.toInt ≤ 5) (h2 : 0 ≤ p2.toInt ∧ p2.toInt ≤ 5) : TMv l yX13_swaps cX13_swaps 4 { frames := 0, cells := 0, slots := 0, locals := 0 } G ttC tag L Fo [.ref p0, .int p1, .int p2] (fun F1 => ((∀ b j : Nat, fld F1 b j = fld Fo b j) ∧ (∀ b j : Nat, tag b ≠ 43 → elm F1 b j = elm Fo b j)) ∧ (SWP Fo F1 p0 p1.toNatClampNeg p2.toNatClampNeg)) := by
  refine t_bodyv (y := yX13_swaps) (cd := cX13_swaps) (mL := 4) (rm := { frames := 0, cells := 0, slots := 0, locals := 0 }) (av := [.ref p0, .int p1, .int p2]) (by decide) (Nat.le_of_ble_eq_true rfl) ho ?_
  intro p e s m args below meth c ls A Q hQ X hT hl
  have hx := X.1.1
  have hb := X.1.2.1
  have hl : lv_has ls 4 [(0, .ref p0), (1, .int p1), (2, .int p2)] := hl
  obtain ⟨F, hFo⟩ : ∃ F : Nat → va_E, F = Fo := ⟨_, rfl⟩
  rw [← hFo] at hT
  have hfr : (∀ b j : Nat, fld F b j = fld Fo b j) ∧ (∀ b j : Nat, tag b ≠ 43 → elm F b j = elm Fo b j) := by
    rw [hFo]
    exact ⟨by intros; rfl, by intros; rfl⟩
  have hgh : ∀ k : Nat, elm F p0 k = elm Fo p0 k := fun k => by rw [hFo]
  refine lv_aload_n hx hb dX13_swaps_0 rfl (lv_at hl 0 rfl) ?_
  refine lv_iload_n hx hb dX13_swaps_1 rfl (lv_at hl 1 rfl) ?_
  refine t_ild X hT m0 g0 rfl (by omega) dX13_swaps_2 (fun z66496 vz66496 rz66496 => ?_)
  have gz66496 := vz66496.symm.trans (hgh _)
  have rz66496 : 0 ≤ z66496.toInt ∧ z66496.toInt ≤ 5 := rz66496
  refine lv_istore_n (lv' := [(3, .int z66496), (0, .ref p0), (1, .int p1), (2, .int p2)]) hx hb dX13_swaps_3 rfl hl (by decide) rfl (fun ls hl => ?_)
  refine lv_aload_n hx hb dX13_swaps_4 rfl (lv_at hl 1 rfl) ?_
  refine lv_iload_n hx hb dX13_swaps_5 rfl (lv_at hl 2 rfl) ?_
  refine lv_aload_n hx hb dX13_swaps_6 rfl (lv_at hl 1 rfl) ?_
  refine lv_iload_n hx hb dX13_swaps_7 rfl (lv_at hl 3 rfl) ?_
  refine t_ild X hT m0 g0 rfl (by omega) dX13_swaps_8 (fun z66497 vz66497 rz66497 => ?_)
  have gz66497 := vz66497.symm.trans (hgh _)
  have rz66497 : 0 ≤ z66497.toInt ∧ z66497.toInt ≤ 5 := rz66497
  refine t_ist X hT m0 g0 rfl (by omega) (show 0 ≤ (z66497 : Int32).toInt ∧ (z66497 : Int32).toInt ≤ 5 from (by omega)) dX13_swaps_9 (fun F H locs hT v66498 h1v66498 h2v66498 => ?_)
  have hgh : ∀ k : Nat, elm F p0 k = if k = p1.toNatClampNeg then z66497 else elm Fo p0 k := fun k => by
    by_cases h9 : k = p1.toNatClampNeg
    · rw [if_pos h9, h9]; exact v66498
    · rw [if_neg h9]; exact (h1v66498 _ _ (Or.inr h9)).trans (hgh k)
  have hfr : (∀ b j : Nat, fld F b j = fld Fo b j) ∧ (∀ b j : Nat, tag b ≠ 43 → elm F b j = elm Fo b j) := ⟨fun b j  => (h2v66498 b j).trans (hfr.1 b j ), fun b j a43 => (h1v66498 b j (Or.inl (at_ne g0 a43))).trans (hfr.2 b j a43)⟩
  refine lv_aload_n hx hb dX13_swaps_10 rfl (lv_at hl 1 rfl) ?_
  refine lv_iload_n hx hb dX13_swaps_11 rfl (lv_at hl 3 rfl) ?_
  refine lv_iload_n hx hb dX13_swaps_12 rfl (lv_at hl 0 rfl) ?_
  refine t_ist X hT m0 g0 rfl (by omega) (show 0 ≤ (z66496 : Int32).toInt ∧ (z66496 : Int32).toInt ≤ 5 from (by omega)) dX13_swaps_13 (fun F H locs hT v66499 h1v66499 h2v66499 => ?_)
  have hgh : ∀ k : Nat, elm F p0 k = if k = p2.toNatClampNeg then z66496 else (if k = p1.toNatClampNeg then z66497 else elm Fo p0 k) := fun k => by
    by_cases h9 : k = p2.toNatClampNeg
    · rw [if_pos h9, h9]; exact v66499
    · rw [if_neg h9]; exact (h1v66499 _ _ (Or.inr h9)).trans (hgh k)
  have hfr : (∀ b j : Nat, fld F b j = fld Fo b j) ∧ (∀ b j : Nat, tag b ≠ 43 → elm F b j = elm Fo b j) := ⟨fun b j  => (h2v66499 b j).trans (hfr.1 b j ), fun b j a43 => (h1v66499 b j (Or.inl (at_ne g0 a43))).trans (hfr.2 b j a43)⟩
  exact t_vret hQ X hT ⟨hfr, (fun k => by rw [hgh k, gz66496, gz66497])⟩ (Nat.le_of_ble_eq_true rfl) (Nat.le_of_ble_eq_true rfl) dX13_swaps_14
set_option maxHeartbeats 4000000 in
set_option maxRecDepth 100000 in
theorem km226_X13_turns (l : Launch) (G : KG) (tag : Nat → Nat) (L : List Nat) (Fo : Nat → va_E) (ho : okT G ttC tag L Fo) (p0 : Nat) (p1 : Int32) (lx : Int) (m0 : p0 ∈ L) (g0 : tag p0 = 43) (h1 : 0 ≤ p1.toInt ∧ p1.toInt ≤ 6) (xh0 : CAR Fo p0 6 lx) : TMi l yX13_turns cX13_turns 6 (some .boolean) { frames := 1, cells := 0, slots := 0, locals := 23 } G ttC tag L Fo [.ref p0, .int p1] (fun r F1 => (0 ≤ r.toInt ∧ r.toInt ≤ 1) ∧ ((∀ b j : Nat, fld F1 b j = fld Fo b j) ∧ (∀ b j : Nat, tag b ≠ 43 → elm F1 b j = elm Fo b j)) ∧ (r.toInt ≠ 0 → ∃ lx9 : Int, CAR F1 p0 6 lx9 ∧ lx < lx9)) := by
  refine t_bodyi (y := yX13_turns) (cd := cX13_turns) (mL := 6) (rt := (some .boolean)) (rm := { frames := 1, cells := 0, slots := 0, locals := 23 }) (av := [.ref p0, .int p1]) (by decide) (Nat.le_of_ble_eq_true rfl) ho ?_
  intro p e s m args below meth c ls A Q hQ X hT hl
  have hx := X.1.1
  have hb := X.1.2.1
  have hl : lv_has ls 6 [(0, .ref p0), (1, .int p1)] := hl
  obtain ⟨F, hFo⟩ : ∃ F : Nat → va_E, F = Fo := ⟨_, rfl⟩
  rw [← hFo] at hT
  have hfr : (∀ b j : Nat, fld F b j = fld Fo b j) ∧ (∀ b j : Nat, tag b ≠ 43 → elm F b j = elm Fo b j) := by
    rw [hFo]
    exact ⟨by intros; rfl, by intros; rfl⟩
  have K66 : ∀ (n : Nat) (z66878 : Int32) (z66879 : Int32) (z66880 : Int32) (z66881 : Int32) (F : Nat → va_E) (H : Heap) (locs : List Loc) (ls : Array Slot), (5 - z66880.toInt < (n : Int)) → (0 ≤ z66878.toInt ∧ z66878.toInt ≤ 4) → (1 ≤ z66879.toInt ∧ z66879.toInt ≤ 5) → (1 ≤ z66880.toInt ∧ z66880.toInt ≤ 5) → ((-1) ≤ z66881.toInt ∧ z66881.toInt ≤ 5) → TH G ttC A s tag L F H locs → ((∀ b j : Nat, fld F b j = fld Fo b j) ∧ (∀ b j : Nat, tag b ≠ 43 → elm F b j = elm Fo b j)) → (DJ F p0 6) → (∀ k : Nat, k < z66878.toNatClampNeg → elm F p0 k = elm Fo p0 k) → ((elm Fo p0 z66878.toNatClampNeg).toInt < (elm F p0 z66878.toNatClampNeg).toInt) → (z66878.toInt + 1 ≤ z66880.toInt) → lv_has ls 6 [(0, .ref p0), (1, .int p1), (2, .int z66878), (3, .int z66879), (4, .int z66880), (5, .int z66881)] → W p l e { frames := 1, cells := 0, slots := 0, locals := 23 } s m args below meth c H locs 0 0 Q (F0 m 66 ls []) := by
    intro n
    induction n with
    | zero =>
      intro z66878 z66879 z66880 z66881 F H locs ls hn rz66878 rz66879 rz66880 rz66881 hT hfr ex66_0 ex66_1 ex66_2 ex66_3 hl
      exfalso
      omega
    | succ n ih66 =>
      intro z66878 z66879 z66880 z66881 F H locs ls hn rz66878 rz66879 rz66880 rz66881 hT hfr ex66_0 ex66_1 ex66_2 ex66_3 hl
      refine lv_iload hx hb dX13_turns_66 (lv_at hl 4 rfl) ?_
      refine lv_iload hx hb dX13_turns_68 (lv_at hl 5 rfl) ?_
      refine lv_icmp_ge (tgt := 90) hx hb dX13_turns_70 (by decide) (fun c66882 => ?_) (fun c66882 => ?_)
      · have w66883 := cv_le (rfl : z66881.toInt = z66881.toInt) (rfl : z66880.toInt = z66880.toInt) c66882
        refine lv_iconst (v := 1) hx hb dX13_turns_90 (by decide) ?_
        have k66884 : (1 : Int32).toInt = 1 := by decide
        exact t_zret hQ X hT (by decide) (⟨(by decide), hfr, (fun _ => tj_end (N := 6) (i := z66878) xh0 (t_rng hT m0 g0 rfl (by decide) (by decide)) ex66_0 ex66_1 ex66_2 (by omega) (by omega))⟩) (Nat.le_of_ble_eq_true rfl) (Nat.le_of_ble_eq_true rfl) dX13_turns_91
      · have w66885 := cv_nle (rfl : z66881.toInt = z66881.toInt) (rfl : z66880.toInt = z66880.toInt) c66882
        refine lv_aload_n hx hb dX13_turns_73 rfl (lv_at hl 0 rfl) ?_
        refine lv_iload hx hb dX13_turns_74 (lv_at hl 4 rfl) ?_
        refine lv_iload hx hb dX13_turns_76 (lv_at hl 5 rfl) ?_
        refine t_cSv (n := 3) (As := [.ref p0, .int z66880, .int z66881]) (rest := []) X hT (km225_X13_swaps l G tag L F hT.2.2.2 p0 z66880 z66881 m0 g0 (by omega) (by omega)) qw_1265 qw_1266 qw_5 qw_1267 ⟨by decide +kernel, by decide +kernel, by decide +kernel⟩ ⟨Nat.le_of_ble_eq_true rfl, Nat.le_of_ble_eq_true rfl⟩ hl rfl rfl (Nat.le_of_ble_eq_true rfl) dX13_turns_78 ⟨Nat.le_of_ble_eq_true rfl, Nat.le_of_ble_eq_true rfl⟩ (fun F H locs hT hz66886 => ?_)
        obtain ⟨yz66886, xz66886_0⟩ := hz66886
        have hfr : (∀ b j : Nat, fld F b j = fld Fo b j) ∧ (∀ b j : Nat, tag b ≠ 43 → elm F b j = elm Fo b j) := ⟨fun b j  => (yz66886.1 b j ).trans (hfr.1 b j ), fun b j a43 => (yz66886.2 b j a43).trans (hfr.2 b j a43)⟩
        have htj := tj_lp (N := 6) (i := z66878) ex66_0 ex66_1 ex66_2 xz66886_0 (by omega) (by omega) (by omega) (by omega)
        obtain ⟨z66887, ez66887⟩ : ∃ y : Int32, y = z66880 + 1 := ⟨_, rfl⟩
        have hz66887 : z66887.toInt = z66880.toInt + 1 := ar_add ez66887 rfl (by decide : (1 : Int32).toInt = 1) (by omega) (by omega)
        refine lv_iinc (v := z66887) (lv' := [(4, .int z66887), (0, .ref p0), (1, .int p1), (2, .int z66878), (3, .int z66879), (5, .int z66881)]) hx hb dX13_turns_81 hl (k := 4) rfl (by rw [ez66887]; rfl) (by decide) rfl (fun ls hl => ?_)
        obtain ⟨z66888, ez66888⟩ : ∃ y : Int32, y = z66881 + (-1) := ⟨_, rfl⟩
        have hz66888 : z66888.toInt = z66881.toInt + (-1) := ar_add ez66888 rfl (by decide : ((-1) : Int32).toInt = (-1)) (by omega) (by omega)
        refine lv_iinc (v := z66888) (lv' := [(5, .int z66888), (4, .int z66887), (0, .ref p0), (1, .int p1), (2, .int z66878), (3, .int z66879)]) hx hb dX13_turns_84 hl (k := 5) rfl (by rw [ez66888]; rfl) (by decide) rfl (fun ls hl => ?_)
        refine lv_goto (tgt := 66) hx hb dX13_turns_87 (by decide) ?_
        exact ih66 z66878 z66879 z66887 z66888 _ _ _ _ (by omega) (by omega) (by omega) (by omega) (by omega) hT hfr htj.1 htj.2.1 htj.2.2 (by omega) (lv_sub hl [2, 3, 4, 5, 1, 0] rfl)
  have K35 : ∀ (n : Nat) (z66889 : Int32) (z66890 : Int32) (F : Nat → va_E) (H : Heap) (locs : List Loc) (ls : Array Slot), (z66890.toInt - 0 < (n : Int)) → (0 ≤ z66889.toInt ∧ z66889.toInt ≤ 4) → ((-1) ≤ z66890.toInt ∧ z66890.toInt ≤ 5) → TH G ttC A s tag L F H locs → ((∀ b j : Nat, fld F b j = fld Fo b j) ∧ (∀ b j : Nat, tag b ≠ 43 → elm F b j = elm Fo b j)) → (∀ k : Nat, elm F p0 k = elm Fo p0 k) → (z66889.toInt + 1 ≤ z66890.toInt) → ((elm Fo p0 z66889.toNatClampNeg).toInt ≤ (elm Fo p0 (z66889.toNatClampNeg + 1)).toInt) → lv_has ls 6 [(0, .ref p0), (1, .int p1), (2, .int z66889), (3, .int z66890)] → W p l e { frames := 1, cells := 0, slots := 0, locals := 23 } s m args below meth c H locs 0 0 Q (F0 m 35 ls []) := by
    intro n
    induction n with
    | zero =>
      intro z66889 z66890 F H locs ls hn rz66889 rz66890 hT hfr ex35_0 ex35_1 ex35_2 hl
      exfalso
      omega
    | succ n ih35 =>
      intro z66889 z66890 F H locs ls hn rz66889 rz66890 hT hfr ex35_0 ex35_1 ex35_2 hl
      have w66891 : 1 ≤ z66890.toInt ∧ z66890.toInt ≤ 5 := by omega
      refine lv_aload_n hx hb dX13_turns_35 rfl (lv_at hl 0 rfl) ?_
      refine lv_iload_n hx hb dX13_turns_36 rfl (lv_at hl 3 rfl) ?_
      refine t_ild X hT m0 g0 rfl (by omega) dX13_turns_37 (fun z66892 vz66892 rz66892 => ?_)
      have rz66892 : 0 ≤ z66892.toInt ∧ z66892.toInt ≤ 5 := rz66892
      refine lv_aload_n hx hb dX13_turns_38 rfl (lv_at hl 0 rfl) ?_
      refine lv_iload_n hx hb dX13_turns_39 rfl (lv_at hl 2 rfl) ?_
      refine t_ild X hT m0 g0 rfl (by omega) dX13_turns_40 (fun z66893 vz66893 rz66893 => ?_)
      have rz66893 : 0 ≤ z66893.toInt ∧ z66893.toInt ≤ 5 := rz66893
      refine lv_icmp_ge (tgt := 50) hx hb dX13_turns_41 (by decide) (fun c66894 => ?_) (fun c66894 => ?_)
      · have w66895 := cv_le (rfl : z66893.toInt = z66893.toInt) (rfl : z66892.toInt = z66892.toInt) c66894
        refine lv_aload_n hx hb dX13_turns_50 rfl (lv_at hl 0 rfl) ?_
        refine lv_iload_n hx hb dX13_turns_51 rfl (lv_at hl 2 rfl) ?_
        refine lv_iload_n hx hb dX13_turns_52 rfl (lv_at hl 3 rfl) ?_
        refine t_cSv (n := 3) (As := [.ref p0, .int z66889, .int z66890]) (rest := []) X hT (km225_X13_swaps l G tag L F hT.2.2.2 p0 z66889 z66890 m0 g0 (by omega) (by omega)) qw_1265 qw_1266 qw_5 qw_1267 ⟨by decide +kernel, by decide +kernel, by decide +kernel⟩ ⟨Nat.le_of_ble_eq_true rfl, Nat.le_of_ble_eq_true rfl⟩ hl rfl rfl (Nat.le_of_ble_eq_true rfl) dX13_turns_53 ⟨Nat.le_of_ble_eq_true rfl, Nat.le_of_ble_eq_true rfl⟩ (fun F H locs hT hz66896 => ?_)
        obtain ⟨yz66896, xz66896_0⟩ := hz66896
        have hfr : (∀ b j : Nat, fld F b j = fld Fo b j) ∧ (∀ b j : Nat, tag b ≠ 43 → elm F b j = elm Fo b j) := ⟨fun b j  => (yz66896.1 b j ).trans (hfr.1 b j ), fun b j a43 => (yz66896.2 b j a43).trans (hfr.2 b j a43)⟩
        have htj := tj_in (N := 6) ex35_0 xh0 xz66896_0 (by omega) (by omega) (by omega) vz66893 vz66892 (by omega)
        refine lv_iload_n hx hb dX13_turns_56 rfl (lv_at hl 2 rfl) ?_
        refine lv_iconst (v := 1) hx hb dX13_turns_57 (by decide) ?_
        refine lv_iadd hx hb dX13_turns_58 ?_
        refine lv_topi (fun z66897 ez66897 => ?_)
        have hz66897 : z66897.toInt = z66889.toInt + 1 := ar_add ez66897 (rfl : z66889.toInt = z66889.toInt) (by decide : (1 : Int32).toInt = 1) (by omega) (by omega)
        have rz66897 : 1 ≤ z66897.toInt ∧ z66897.toInt ≤ 5 := by omega
        refine lv_istore (lv' := [(4, .int z66897), (0, .ref p0), (1, .int p1), (2, .int z66889), (3, .int z66890)]) hx hb dX13_turns_59 hl (by decide) rfl (fun ls hl => ?_)
        refine lv_iload_n hx hb dX13_turns_61 rfl (lv_at hl 2 rfl) ?_
        refine lv_iconst (v := 1) hx hb dX13_turns_62 (by decide) ?_
        refine lv_isub hx hb dX13_turns_63 ?_
        refine lv_topi (fun z66898 ez66898 => ?_)
        have hz66898 : z66898.toInt = p1.toInt - 1 := ar_sub ez66898 (rfl : p1.toInt = p1.toInt) (by decide : (1 : Int32).toInt = 1) (by omega) (by omega)
        have rz66898 : (-1) ≤ z66898.toInt ∧ z66898.toInt ≤ 5 := by omega
        refine lv_istore (lv' := [(5, .int z66898), (4, .int z66897), (0, .ref p0), (1, .int p1), (2, .int z66889), (3, .int z66890)]) hx hb dX13_turns_64 hl (by decide) rfl (fun ls hl => ?_)
        exact K66 5 z66889 z66890 z66897 z66898 _ _ _ _ (by omega) (by omega) (by omega) (by omega) (by omega) hT hfr htj.1 htj.2.1 htj.2.2 (by omega) (lv_sub hl [2, 3, 4, 5, 1, 0] rfl)
      · have w66899 := cv_nle (rfl : z66893.toInt = z66893.toInt) (rfl : z66892.toInt = z66892.toInt) c66894
        obtain ⟨z66900, ez66900⟩ : ∃ y : Int32, y = z66890 + (-1) := ⟨_, rfl⟩
        have hz66900 : z66900.toInt = z66890.toInt + (-1) := ar_add ez66900 rfl (by decide : ((-1) : Int32).toInt = (-1)) (by omega) (by omega)
        refine lv_iinc (v := z66900) (lv' := [(3, .int z66900), (0, .ref p0), (1, .int p1), (2, .int z66889)]) hx hb dX13_turns_44 hl (k := 3) rfl (by rw [ez66900]; rfl) (by decide) rfl (fun ls hl => ?_)
        refine lv_goto (tgt := 35) hx hb dX13_turns_47 (by decide) ?_
        exact ih35 z66889 z66900 _ _ _ _ (by omega) (by omega) (by omega) hT hfr (by first | exact ex35_0 | exact ex4_0 | exact fun k => by rw [hFo]) (by have h9 := tj_step ex35_0 vz66893 vz66892 (by omega) ex35_2 (by omega) (by omega); omega) ex35_2 (lv_sub hl [1, 2, 3, 0] rfl)
  have K4 : ∀ (n : Nat) (z66901 : Int32) (F : Nat → va_E) (H : Heap) (locs : List Loc) (ls : Array Slot), (z66901.toInt - (-1) < (n : Int)) → ((-2) ≤ z66901.toInt ∧ z66901.toInt ≤ 4) → TH G ttC A s tag L F H locs → ((∀ b j : Nat, fld F b j = fld Fo b j) ∧ (∀ b j : Nat, tag b ≠ 43 → elm F b j = elm Fo b j)) → (∀ k : Nat, elm F p0 k = elm Fo p0 k) → (z66901.toInt ≤ p1.toInt - 2) → lv_has ls 6 [(0, .ref p0), (1, .int p1), (2, .int z66901)] → W p l e { frames := 1, cells := 0, slots := 0, locals := 23 } s m args below meth c H locs 0 0 Q (F0 m 4 ls []) := by
    intro n
    induction n with
    | zero =>
      intro z66901 F H locs ls hn rz66901 hT hfr ex4_0 ex4_1 hl
      refine lv_iload_n hx hb dX13_turns_4 rfl (lv_at hl 2 rfl) ?_
      refine lv_if_lt (tgt := 25) hx hb dX13_turns_5 (by decide) (fun c66902 => ?_) (fun c66902 => ?_)
      · have w66903 := cv_lt (rfl : z66901.toInt = z66901.toInt) (by decide : (0 : Int32).toInt = 0) c66902
        refine lv_iload_n hx hb dX13_turns_25 rfl (lv_at hl 2 rfl) ?_
        refine lv_if_ge (tgt := 31) hx hb dX13_turns_26 (by decide) (fun c66904 => ?_) (fun c66904 => ?_)
        · have w66905 := cv_le (by decide : (0 : Int32).toInt = 0) (rfl : z66901.toInt = z66901.toInt) c66904
          exfalso
          omega
        · have w66906 := cv_nle (by decide : (0 : Int32).toInt = 0) (rfl : z66901.toInt = z66901.toInt) c66904
          refine lv_iconst (v := 0) hx hb dX13_turns_29 (by decide) ?_
          have k66907 : (0 : Int32).toInt = 0 := by decide
          exact t_zret hQ X hT (by decide) (⟨(by decide), hfr, (fun h9 => absurd (by decide) h9)⟩) (Nat.le_of_ble_eq_true rfl) (Nat.le_of_ble_eq_true rfl) dX13_turns_30
      · have w66908 := cv_nlt (rfl : z66901.toInt = z66901.toInt) (by decide : (0 : Int32).toInt = 0) c66902
        exfalso
        omega
    | succ n ih4 =>
      intro z66901 F H locs ls hn rz66901 hT hfr ex4_0 ex4_1 hl
      refine lv_iload_n hx hb dX13_turns_4 rfl (lv_at hl 2 rfl) ?_
      refine lv_if_lt (tgt := 25) hx hb dX13_turns_5 (by decide) (fun c66909 => ?_) (fun c66909 => ?_)
      · have w66910 := cv_lt (rfl : z66901.toInt = z66901.toInt) (by decide : (0 : Int32).toInt = 0) c66909
        refine lv_iload_n hx hb dX13_turns_25 rfl (lv_at hl 2 rfl) ?_
        refine lv_if_ge (tgt := 31) hx hb dX13_turns_26 (by decide) (fun c66911 => ?_) (fun c66911 => ?_)
        · have w66912 := cv_le (by decide : (0 : Int32).toInt = 0) (rfl : z66901.toInt = z66901.toInt) c66911
          exfalso
          omega
        · have w66913 := cv_nle (by decide : (0 : Int32).toInt = 0) (rfl : z66901.toInt = z66901.toInt) c66911
          refine lv_iconst (v := 0) hx hb dX13_turns_29 (by decide) ?_
          have k66914 : (0 : Int32).toInt = 0 := by decide
          exact t_zret hQ X hT (by decide) (⟨(by decide), hfr, (fun h9 => absurd (by decide) h9)⟩) (Nat.le_of_ble_eq_true rfl) (Nat.le_of_ble_eq_true rfl) dX13_turns_30
      · have w66915 := cv_nlt (rfl : z66901.toInt = z66901.toInt) (by decide : (0 : Int32).toInt = 0) c66909
        refine lv_aload_n hx hb dX13_turns_8 rfl (lv_at hl 0 rfl) ?_
        refine lv_iload_n hx hb dX13_turns_9 rfl (lv_at hl 2 rfl) ?_
        refine t_ild X hT m0 g0 rfl (by omega) dX13_turns_10 (fun z66916 vz66916 rz66916 => ?_)
        have rz66916 : 0 ≤ z66916.toInt ∧ z66916.toInt ≤ 5 := rz66916
        refine lv_aload_n hx hb dX13_turns_11 rfl (lv_at hl 0 rfl) ?_
        refine lv_iload_n hx hb dX13_turns_12 rfl (lv_at hl 2 rfl) ?_
        refine lv_iconst (v := 1) hx hb dX13_turns_13 (by decide) ?_
        refine lv_iadd hx hb dX13_turns_14 ?_
        refine lv_topi (fun z66917 ez66917 => ?_)
        have hz66917 : z66917.toInt = z66901.toInt + 1 := ar_add ez66917 (rfl : z66901.toInt = z66901.toInt) (by decide : (1 : Int32).toInt = 1) (by omega) (by omega)
        have rz66917 : 1 ≤ z66917.toInt ∧ z66917.toInt ≤ 5 := by omega
        refine t_ild X hT m0 g0 rfl (by omega) dX13_turns_15 (fun z66918 vz66918 rz66918 => ?_)
        have rz66918 : 0 ≤ z66918.toInt ∧ z66918.toInt ≤ 5 := rz66918
        refine lv_icmp_le (tgt := 25) hx hb dX13_turns_16 (by decide) (fun c66919 => ?_) (fun c66919 => ?_)
        · have w66920 := cv_le (rfl : z66916.toInt = z66916.toInt) (rfl : z66918.toInt = z66918.toInt) c66919
          refine lv_iload_n hx hb dX13_turns_25 rfl (lv_at hl 2 rfl) ?_
          refine lv_if_ge (tgt := 31) hx hb dX13_turns_26 (by decide) (fun c66921 => ?_) (fun c66921 => ?_)
          · have w66922 := cv_le (by decide : (0 : Int32).toInt = 0) (rfl : z66901.toInt = z66901.toInt) c66921
            refine lv_iload_n hx hb dX13_turns_31 rfl (lv_at hl 1 rfl) ?_
            refine lv_iconst (v := 1) hx hb dX13_turns_32 (by decide) ?_
            refine lv_isub hx hb dX13_turns_33 ?_
            refine lv_topi (fun z66923 ez66923 => ?_)
            have hz66923 : z66923.toInt = p1.toInt - 1 := ar_sub ez66923 (rfl : p1.toInt = p1.toInt) (by decide : (1 : Int32).toInt = 1) (by omega) (by omega)
            have rz66923 : (-1) ≤ z66923.toInt ∧ z66923.toInt ≤ 5 := by omega
            refine lv_istore_n (lv' := [(3, .int z66923), (0, .ref p0), (1, .int p1), (2, .int z66901)]) hx hb dX13_turns_34 rfl hl (by decide) rfl (fun ls hl => ?_)
            exact K35 6 z66901 z66923 _ _ _ _ (by omega) (by omega) (by omega) hT hfr (by first | exact ex35_0 | exact ex4_0 | exact fun k => by rw [hFo]) (by omega) (tj_le ex4_0 vz66916 vz66918 (by omega) (by omega) (by omega)) (lv_sub hl [1, 2, 3, 0] rfl)
          · have w66924 := cv_nle (by decide : (0 : Int32).toInt = 0) (rfl : z66901.toInt = z66901.toInt) c66921
            exfalso
            omega
        · have w66925 := cv_nle (rfl : z66916.toInt = z66916.toInt) (rfl : z66918.toInt = z66918.toInt) c66919
          obtain ⟨z66926, ez66926⟩ : ∃ y : Int32, y = z66901 + (-1) := ⟨_, rfl⟩
          have hz66926 : z66926.toInt = z66901.toInt + (-1) := ar_add ez66926 rfl (by decide : ((-1) : Int32).toInt = (-1)) (by omega) (by omega)
          refine lv_iinc (v := z66926) (lv' := [(2, .int z66926), (0, .ref p0), (1, .int p1)]) hx hb dX13_turns_19 hl (k := 2) rfl (by rw [ez66926]; rfl) (by decide) rfl (fun ls hl => ?_)
          refine lv_goto (tgt := 4) hx hb dX13_turns_22 (by decide) ?_
          exact ih4 z66926 _ _ _ _ (by omega) (by omega) hT hfr (by first | exact ex35_0 | exact ex4_0 | exact fun k => by rw [hFo]) (by omega) (lv_sub hl [1, 2, 0] rfl)
  refine lv_iload_n hx hb dX13_turns_0 rfl (lv_at hl 1 rfl) ?_
  refine lv_iconst (v := 2) hx hb dX13_turns_1 (by decide) ?_
  refine lv_isub hx hb dX13_turns_2 ?_
  refine lv_topi (fun z66927 ez66927 => ?_)
  have hz66927 : z66927.toInt = p1.toInt - 2 := ar_sub ez66927 (rfl : p1.toInt = p1.toInt) (by decide : (2 : Int32).toInt = 2) (by omega) (by omega)
  have rz66927 : (-2) ≤ z66927.toInt ∧ z66927.toInt ≤ 4 := by omega
  refine lv_istore_n (lv' := [(2, .int z66927), (0, .ref p0), (1, .int p1)]) hx hb dX13_turns_3 rfl hl (by decide) rfl (fun ls hl => ?_)
  exact K4 6 z66927 _ _ _ _ (by omega) (by omega) hT hfr (by first | exact ex35_0 | exact ex4_0 | exact fun k => by rw [hFo]) (by omega) (lv_sub hl [1, 2, 0] rfl)
set_option maxHeartbeats 4000000 in
set_option maxRecDepth 100000 in
theorem km227_X13_findsOrders (l : Launch) (G : KG) (tag : Nat → Nat) (L : List Nat) (Fo : Nat → va_E) (ho : okT G ttC tag L Fo) (p0 : Nat) (p1 : Int32) (x0 : Nat) (x1 : Nat) (m0 : p0 ∈ L) (g0 : tag p0 = 46) (mx0 : x0 ∈ L) (gx0 : tag x0 = 45) (pf0 : fld Fo p0 3 = .ref x0) (mx1 : x1 ∈ L) (gx1 : tag x1 = 43) (pf1 : fld Fo p0 29 = .ref x1) : TMv l yX13_findsOrders cX13_findsOrders 6 { frames := 3, cells := 0, slots := 0, locals := 66 } G ttC tag L Fo [.ref p0, .int p1] (fun F1 => ((∀ b j : Nat, (tag b ≠ 46 ∨ j ≠ 36) → fld F1 b j = fld Fo b j) ∧ (∀ b j : Nat, tag b ≠ 33 → tag b ≠ 43 → elm F1 b j = elm Fo b j))) := by
  refine t_bodyv (y := yX13_findsOrders) (cd := cX13_findsOrders) (mL := 6) (rm := { frames := 3, cells := 0, slots := 0, locals := 66 }) (av := [.ref p0, .int p1]) (by decide) (Nat.le_of_ble_eq_true rfl) ho ?_
  intro p e s m args below meth c ls A Q hQ X hT hl
  have hx := X.1.1
  have hb := X.1.2.1
  have hl : lv_has ls 6 [(0, .ref p0), (1, .int p1)] := hl
  have rp1 := rg_all p1
  obtain ⟨F, hFo⟩ : ∃ F : Nat → va_E, F = Fo := ⟨_, rfl⟩
  rw [← hFo] at hT pf0 pf1
  have hfr : (∀ b j : Nat, (tag b ≠ 46 ∨ j ≠ 36) → fld F b j = fld Fo b j) ∧ (∀ b j : Nat, tag b ≠ 33 → tag b ≠ 43 → elm F b j = elm Fo b j) := by
    rw [hFo]
    exact ⟨by intros; rfl, by intros; rfl⟩
  have K56 : ∀ (n : Nat) (lx : Int) (z72792 : Int32) (z72793 : Int32) (F : Nat → va_E) (H : Heap) (locs : List Loc) (ls : Array Slot), (46655 - lx < (n : Int)) → (1 ≤ z72792.toInt ∧ z72792.toInt ≤ 1) → TH G ttC A s tag L F H locs → ((∀ b j : Nat, (tag b ≠ 46 ∨ j ≠ 36) → fld F b j = fld Fo b j) ∧ (∀ b j : Nat, tag b ≠ 33 → tag b ≠ 43 → elm F b j = elm Fo b j)) → (fld F p0 3 = .ref x0) → (fld F p0 29 = .ref x1) → (fld F p0 36 = .int z72793) → (CAR F x1 6 lx) → lv_has ls 6 [(0, .ref p0), (1, .int p1), (2, .int z72792)] → W p l e { frames := 3, cells := 0, slots := 0, locals := 66 } s m args below meth c H locs 0 0 Q (F0 m 56 ls []) := by
    intro n
    induction n with
    | zero =>
      intro lx z72792 z72793 F H locs ls hn rz72792 hT hfr pf0 pf1 qz72793 hcar hl
      have rz72793 := rg_all z72793
      have h9 := car_b6 hcar
      exfalso
      omega
    | succ n ih56 =>
      intro lx z72792 z72793 F H locs ls hn rz72792 hT hfr pf0 pf1 qz72793 hcar hl
      have rz72793 := rg_all z72793
      have K226 : ∀ (z72794 : Int32) (F : Nat → va_E) (H : Heap) (locs : List Loc) (ls : Array Slot), TH G ttC A s tag L F H locs → ((∀ b j : Nat, (tag b ≠ 46 ∨ j ≠ 36) → fld F b j = fld Fo b j) ∧ (∀ b j : Nat, tag b ≠ 33 → tag b ≠ 43 → elm F b j = elm Fo b j)) → (fld F p0 3 = .ref x0) → (fld F p0 29 = .ref x1) → (fld F p0 36 = .int z72794) → (CAR F x1 6 lx) → lv_has ls 6 [(0, .ref p0), (1, .int p1), (2, .int z72792)] → W p l e { frames := 3, cells := 0, slots := 0, locals := 66 } s m args below meth c H locs 0 0 Q (F0 m 226 ls []) := by
        intro z72794 F H locs ls hT hfr pf0 pf1 qz72794 hcar hl
        have rz72794 := rg_all z72794
        refine lv_aload_n hx hb dX13_findsOrders_226 rfl (lv_at hl 0 rfl) ?_
        refine t_get (C := RX13) (T := TX13) (N := 37) X hT m0 g0 rfl rfl 29 (by decide) qw_120 inlX13 rfl dX13_findsOrders_227 (fun v72795 hv72795 ov72795 => ?_)
        obtain rfl : v72795 = .ref x1 := hv72795.symm.trans pf1
        refine lv_aload_n hx hb dX13_findsOrders_230 rfl (lv_at hl 0 rfl) ?_
        refine t_get (C := RX13) (T := TX13) (N := 37) X hT m0 g0 rfl rfl 3 (by decide) qw_481 inlX13 rfl dX13_findsOrders_231 (fun v72796 hv72796 ov72796 => ?_)
        obtain rfl : v72796 = .ref x0 := hv72796.symm.trans pf0
        refine t_getN (C := RX12) (T := TX12) (N := 31) X hT mx0 gx0 rfl rfl 10 (by decide) (List.mem_of_getElem? (i := 14) rfl) inlX12 rfl dX13_findsOrders_234 (fun v72797 hv72797 ov72797 => ?_)
        obtain ⟨z72798, rfl, rz72798⟩ := okV_i ov72797
        refine t_cSi (n := 2) (As := [.ref x1, .int z72798]) (rest := []) X hT (km226_X13_turns l G tag L F hT.2.2.2 x1 z72798 lx mx1 gx1 (by omega) hcar) qw_1262 qw_1263 qw_5 qw_1264 ⟨by decide +kernel, by decide +kernel, by decide +kernel⟩ ⟨Nat.le_of_ble_eq_true rfl, Nat.le_of_ble_eq_true rfl⟩ hl rfl rfl (Nat.le_of_ble_eq_true rfl) dX13_findsOrders_237 ⟨Nat.le_of_ble_eq_true rfl, Nat.le_of_ble_eq_true rfl⟩ (fun z72799 F H locs hT hz72799 => ?_)
        obtain ⟨hz72799, yz72799, xz72799_0⟩ := hz72799
        have qz72794 := (yz72799.1 _ 36 ).trans qz72794
        have pf0 := (yz72799.1 _ 3 ).trans pf0
        have pf1 := (yz72799.1 _ 29 ).trans pf1
        have hv72797 := (yz72799.1 _ 10 ).trans hv72797
        have hfr : (∀ b j : Nat, (tag b ≠ 46 ∨ j ≠ 36) → fld F b j = fld Fo b j) ∧ (∀ b j : Nat, tag b ≠ 33 → tag b ≠ 43 → elm F b j = elm Fo b j) := ⟨fun b j n46_36 => (yz72799.1 b j ).trans (hfr.1 b j n46_36), fun b j a33 a43 => (yz72799.2 b j a43).trans (hfr.2 b j a33 a43)⟩
        refine lv_istore_n (lv' := [(2, .int z72799), (0, .ref p0), (1, .int p1)]) hx hb dX13_findsOrders_240 rfl hl (by decide) rfl (fun ls hl => ?_)
        refine lv_goto (tgt := 52) hx hb dX13_findsOrders_241 (by decide) ?_
        refine lv_iload_n hx hb dX13_findsOrders_52 rfl (lv_at hl 0 rfl) ?_
        refine lv_if_eq (tgt := 244) hx hb dX13_findsOrders_53 (by decide) (fun c72800 => ?_) (fun c72800 => ?_)
        · have w72801 := cv_eq (rfl : z72799.toInt = z72799.toInt) (by decide : (0 : Int32).toInt = 0) c72800
          exact t_vret hQ X hT hfr (Nat.le_of_ble_eq_true rfl) (Nat.le_of_ble_eq_true rfl) dX13_findsOrders_244
        · have w72802 := cv_ne (rfl : z72799.toInt = z72799.toInt) (by decide : (0 : Int32).toInt = 0) c72800
          obtain ⟨lx72803, hcar, hlx72803⟩ := xz72799_0 (by omega)
          have h9k72804 := car_b6 hcar
          exact ih56 lx72803 z72799 z72794 _ _ _ _ (by omega) (by omega) hT hfr pf0 pf1 qz72794 hcar (lv_sub hl [1, 2, 0] rfl)
      have K68 : ∀ (n : Nat) (z72805 : Int32) (z72806 : Int32) (z72807 : Int32) (F : Nat → va_E) (H : Heap) (locs : List Loc) (ls : Array Slot), (6 - z72806.toInt < (n : Int)) → (0 ≤ z72805.toInt ∧ z72805.toInt ≤ 255) → (0 ≤ z72806.toInt ∧ z72806.toInt ≤ 6) → TH G ttC A s tag L F H locs → ((∀ b j : Nat, (tag b ≠ 46 ∨ j ≠ 36) → fld F b j = fld Fo b j) ∧ (∀ b j : Nat, tag b ≠ 33 → tag b ≠ 43 → elm F b j = elm Fo b j)) → (fld F p0 3 = .ref x0) → (fld F p0 29 = .ref x1) → (fld F p0 36 = .int z72807) → (CAR F x1 6 lx) → lv_has ls 6 [(0, .ref p0), (1, .int p1), (2, .int z72792), (3, .int z72805), (4, .int z72806)] → W p l e { frames := 3, cells := 0, slots := 0, locals := 66 } s m args below meth c H locs 0 0 Q (F0 m 68 ls []) := by
        intro n
        induction n with
        | zero =>
          intro z72805 z72806 z72807 F H locs ls hn rz72805 rz72806 hT hfr pf0 pf1 qz72807 hcar hl
          have rz72807 := rg_all z72807
          exfalso
          omega
        | succ n ih68 =>
          intro z72805 z72806 z72807 F H locs ls hn rz72805 rz72806 hT hfr pf0 pf1 qz72807 hcar hl
          have rz72807 := rg_all z72807
          have K192 : ∀ (z72809 : Int32) (z72810 : Int32) (z72811 : Int32) (F : Nat → va_E) (H : Heap) (locs : List Loc) (ls : Array Slot), (0 ≤ z72809.toInt ∧ z72809.toInt ≤ 5) → (1 ≤ z72811.toInt ∧ z72811.toInt ≤ 6) → (0 ≤ z72806.toInt ∧ z72806.toInt ≤ 5) → TH G ttC A s tag L F H locs → ((∀ b j : Nat, (tag b ≠ 46 ∨ j ≠ 36) → fld F b j = fld Fo b j) ∧ (∀ b j : Nat, tag b ≠ 33 → tag b ≠ 43 → elm F b j = elm Fo b j)) → (fld F p0 3 = .ref x0) → (fld F p0 29 = .ref x1) → (fld F p0 36 = .int z72810) → (fld F x0 10 = .int z72811) → (CAR F x1 6 lx) → lv_has ls 6 [(0, .ref p0), (1, .int p1), (2, .int z72792), (3, .int z72805), (4, .int z72806), (5, .int z72809)] → W p l e { frames := 3, cells := 0, slots := 0, locals := 66 } s m args below meth c H locs 0 0 Q (F0 m 192 ls []) := by
            intro z72809 z72810 z72811 F H locs ls rz72809 rz72811 r9s72808 hT hfr pf0 pf1 qz72810 qz72811 hcar hl
            have rz72810 := rg_all z72810
            refine lv_aload_n hx hb dX13_findsOrders_192 rfl (lv_at hl 0 rfl) ?_
            refine t_get (C := RX13) (T := TX13) (N := 37) X hT m0 g0 rfl rfl 32 (by decide) qw_123 inlX13 rfl dX13_findsOrders_193 (fun v72812 hv72812 ov72812 => ?_)
            obtain ⟨b72813, rfl, mb72813, gb72813⟩ := okV_r ov72812
            have gb72813 : tag b72813 = 33 := tg_of gb72813
            refine lv_iload hx hb dX13_findsOrders_196 (lv_at hl 5 rfl) ?_
            refine lv_dup2_11 hx hb dX13_findsOrders_198 rfl rfl ?_
            refine t_ild X hT mb72813 gb72813 rfl (by omega) dX13_findsOrders_199 (fun z72814 vz72814 rz72814 => ?_)
            have rz72814 : (-2147483648) ≤ z72814.toInt ∧ z72814.toInt ≤ 2147483647 := rz72814
            refine lv_iload_n hx hb dX13_findsOrders_200 rfl (lv_at hl 3 rfl) ?_
            refine lv_iand hx hb dX13_findsOrders_201 ?_
            refine lv_topi (fun z72815 ez72815 => ?_)
            have rz72815 := rg_all z72815
            refine t_ist X hT mb72813 gb72813 rfl (by omega) (show (-2147483648) ≤ (z72815 : Int32).toInt ∧ (z72815 : Int32).toInt ≤ 2147483647 from (rg_all _)) dX13_findsOrders_202 (fun F H locs hT v72816 h1v72816 h2v72816 => ?_)
            have qz72810 := (h2v72816 _ _).trans qz72810
            have qz72811 := (h2v72816 _ _).trans qz72811
            have pf0 := (h2v72816 _ _).trans pf0
            have pf1 := (h2v72816 _ _).trans pf1
            have hv72812 := (h2v72816 _ _).trans hv72812
            have hfr : (∀ b j : Nat, (tag b ≠ 46 ∨ j ≠ 36) → fld F b j = fld Fo b j) ∧ (∀ b j : Nat, tag b ≠ 33 → tag b ≠ 43 → elm F b j = elm Fo b j) := ⟨fun b j n46_36 => (h2v72816 b j).trans (hfr.1 b j n46_36), fun b j a33 a43 => (h1v72816 b j (Or.inl (at_ne gb72813 a33))).trans (hfr.2 b j a33 a43)⟩
            have hcar := car_of (fun j => h1v72816 _ j (Or.inl (tne gx1 gb72813 (by decide)))) hcar
            refine lv_iload_n hx hb dX13_findsOrders_203 rfl (lv_at hl 3 rfl) ?_
            refine lv_iconst (v := 1) hx hb dX13_findsOrders_204 (by decide) ?_
            refine lv_iload hx hb dX13_findsOrders_205 (lv_at hl 5 rfl) ?_
            refine lv_ishl hx hb dX13_findsOrders_207 ?_
            refine lv_topi (fun z72817 ez72817 => ?_)
            have hz72817 := ar_shl3 ez72817 (by omega)
            have rz72817 : 1 ≤ z72817.toInt ∧ z72817.toInt ≤ 32 := by omega
            refine lv_ior hx hb dX13_findsOrders_208 ?_
            refine lv_topi (fun z72818 ez72818 => ?_)
            have rz72818 : 0 ≤ z72818.toInt ∧ z72818.toInt ≤ 255 := ar_or ez72818 8 (by omega) (by omega) (by decide)
            refine lv_istore_n (lv' := [(3, .int z72818), (0, .ref p0), (1, .int p1), (2, .int z72792), (4, .int z72806), (5, .int z72809)]) hx hb dX13_findsOrders_209 rfl hl (by decide) rfl (fun ls hl => ?_)
            obtain ⟨z72819, ez72819⟩ : ∃ y : Int32, y = z72806 + 1 := ⟨_, rfl⟩
            have hz72819 : z72819.toInt = z72806.toInt + 1 := ar_add ez72819 rfl (by decide : (1 : Int32).toInt = 1) (by omega) (by omega)
            refine lv_iinc (v := z72819) (lv' := [(4, .int z72819), (3, .int z72818), (0, .ref p0), (1, .int p1), (2, .int z72792), (5, .int z72809)]) hx hb dX13_findsOrders_210 hl (k := 4) rfl (by rw [ez72819]; rfl) (by decide) rfl (fun ls hl => ?_)
            refine lv_goto (tgt := 68) hx hb dX13_findsOrders_213 (by decide) ?_
            exact ih68 z72818 z72819 z72810 _ _ _ _ (by omega) (by omega) (by omega) hT hfr pf0 pf1 qz72810 hcar (lv_sub hl [2, 3, 4, 1, 0] rfl)
          have K178 : ∀ (z72821 : Int32) (z72822 : Int32) (z72823 : Int32) (F : Nat → va_E) (H : Heap) (locs : List Loc) (ls : Array Slot), (0 ≤ z72821.toInt ∧ z72821.toInt ≤ 5) → (1 ≤ z72823.toInt ∧ z72823.toInt ≤ 6) → (0 ≤ z72806.toInt ∧ z72806.toInt ≤ 5) → TH G ttC A s tag L F H locs → ((∀ b j : Nat, (tag b ≠ 46 ∨ j ≠ 36) → fld F b j = fld Fo b j) ∧ (∀ b j : Nat, tag b ≠ 33 → tag b ≠ 43 → elm F b j = elm Fo b j)) → (fld F p0 3 = .ref x0) → (fld F p0 29 = .ref x1) → (fld F p0 36 = .int z72822) → (fld F x0 10 = .int z72823) → (CAR F x1 6 lx) → lv_has ls 6 [(0, .ref p0), (1, .int p1), (2, .int z72792), (3, .int z72805), (4, .int z72806), (5, .int z72821)] → W p l e { frames := 3, cells := 0, slots := 0, locals := 66 } s m args below meth c H locs 0 0 Q (F0 m 178 ls []) := by
            intro z72821 z72822 z72823 F H locs ls rz72821 rz72823 r9s72820 hT hfr pf0 pf1 qz72822 qz72823 hcar hl
            have rz72822 := rg_all z72822
            refine lv_aload_n hx hb dX13_findsOrders_178 rfl (lv_at hl 0 rfl) ?_
            refine t_get (C := RX13) (T := TX13) (N := 37) X hT m0 g0 rfl rfl 31 (by decide) qw_122 inlX13 rfl dX13_findsOrders_179 (fun v72824 hv72824 ov72824 => ?_)
            obtain ⟨b72825, rfl, mb72825, gb72825⟩ := okV_r ov72824
            have gb72825 : tag b72825 = 33 := tg_of gb72825
            refine lv_iload hx hb dX13_findsOrders_182 (lv_at hl 5 rfl) ?_
            refine lv_aload_n hx hb dX13_findsOrders_184 rfl (lv_at hl 0 rfl) ?_
            refine t_get (C := RX13) (T := TX13) (N := 37) X hT m0 g0 rfl rfl 34 (by decide) qw_125 inlX13 rfl dX13_findsOrders_185 (fun v72826 hv72826 ov72826 => ?_)
            obtain ⟨b72827, rfl, mb72827, gb72827⟩ := okV_r ov72826
            have gb72827 : tag b72827 = 33 := tg_of gb72827
            refine lv_iload hx hb dX13_findsOrders_188 (lv_at hl 4 rfl) ?_
            refine t_ild X hT mb72827 gb72827 rfl (by omega) dX13_findsOrders_190 (fun z72828 vz72828 rz72828 => ?_)
            have rz72828 : (-2147483648) ≤ z72828.toInt ∧ z72828.toInt ≤ 2147483647 := rz72828
            refine t_ist X hT mb72825 gb72825 rfl (by omega) (show (-2147483648) ≤ (z72828 : Int32).toInt ∧ (z72828 : Int32).toInt ≤ 2147483647 from (rg_all _)) dX13_findsOrders_191 (fun F H locs hT v72829 h1v72829 h2v72829 => ?_)
            have qz72822 := (h2v72829 _ _).trans qz72822
            have qz72823 := (h2v72829 _ _).trans qz72823
            have pf0 := (h2v72829 _ _).trans pf0
            have pf1 := (h2v72829 _ _).trans pf1
            have hv72824 := (h2v72829 _ _).trans hv72824
            have hv72826 := (h2v72829 _ _).trans hv72826
            have hfr : (∀ b j : Nat, (tag b ≠ 46 ∨ j ≠ 36) → fld F b j = fld Fo b j) ∧ (∀ b j : Nat, tag b ≠ 33 → tag b ≠ 43 → elm F b j = elm Fo b j) := ⟨fun b j n46_36 => (h2v72829 b j).trans (hfr.1 b j n46_36), fun b j a33 a43 => (h1v72829 b j (Or.inl (at_ne gb72825 a33))).trans (hfr.2 b j a33 a43)⟩
            have hcar := car_of (fun j => h1v72829 _ j (Or.inl (tne gx1 gb72825 (by decide)))) hcar
            exact K192 z72821 z72822 z72823 _ _ _ _ (by omega) (by omega) (by omega) hT hfr pf0 pf1 qz72822 qz72823 hcar (lv_sub hl [0, 1, 2, 3, 4, 5] rfl)
          have K149 : ∀ (z72831 : Int32) (z72832 : Int32) (z72833 : Int32) (F : Nat → va_E) (H : Heap) (locs : List Loc) (ls : Array Slot), (0 ≤ z72831.toInt ∧ z72831.toInt ≤ 5) → (1 ≤ z72833.toInt ∧ z72833.toInt ≤ 6) → (0 ≤ z72806.toInt ∧ z72806.toInt ≤ 5) → TH G ttC A s tag L F H locs → ((∀ b j : Nat, (tag b ≠ 46 ∨ j ≠ 36) → fld F b j = fld Fo b j) ∧ (∀ b j : Nat, tag b ≠ 33 → tag b ≠ 43 → elm F b j = elm Fo b j)) → (fld F p0 3 = .ref x0) → (fld F p0 29 = .ref x1) → (fld F p0 36 = .int z72832) → (fld F x0 10 = .int z72833) → (CAR F x1 6 lx) → lv_has ls 6 [(0, .ref p0), (1, .int p1), (2, .int z72792), (3, .int z72805), (4, .int z72806), (5, .int z72831)] → W p l e { frames := 3, cells := 0, slots := 0, locals := 66 } s m args below meth c H locs 0 0 Q (F0 m 149 ls []) := by
            intro z72831 z72832 z72833 F H locs ls rz72831 rz72833 r9s72830 hT hfr pf0 pf1 qz72832 qz72833 hcar hl
            have rz72832 := rg_all z72832
            refine lv_aload_n hx hb dX13_findsOrders_149 rfl (lv_at hl 0 rfl) ?_
            refine t_get (C := RX13) (T := TX13) (N := 37) X hT m0 g0 rfl rfl 31 (by decide) qw_122 inlX13 rfl dX13_findsOrders_150 (fun v72834 hv72834 ov72834 => ?_)
            obtain ⟨b72835, rfl, mb72835, gb72835⟩ := okV_r ov72834
            have gb72835 : tag b72835 = 33 := tg_of gb72835
            refine lv_iload hx hb dX13_findsOrders_153 (lv_at hl 5 rfl) ?_
            refine t_ild X hT mb72835 gb72835 rfl (by omega) dX13_findsOrders_155 (fun z72836 vz72836 rz72836 => ?_)
            have rz72836 : (-2147483648) ≤ z72836.toInt ∧ z72836.toInt ≤ 2147483647 := rz72836
            refine lv_bipush (v := (-2)) hx hb dX13_findsOrders_156 (by decide) ?_
            refine lv_icmp_eq (tgt := 178) hx hb dX13_findsOrders_158 (by decide) (fun c72837 => ?_) (fun c72837 => ?_)
            · have w72838 := cv_eq (rfl : z72836.toInt = z72836.toInt) (by decide : ((-2) : Int32).toInt = (-2)) c72837
              exact K178 z72831 z72832 z72833 _ _ _ _ (by omega) (by omega) (by omega) hT hfr pf0 pf1 qz72832 qz72833 hcar (lv_sub hl [0, 1, 2, 3, 4, 5] rfl)
            · have w72839 := cv_ne (rfl : z72836.toInt = z72836.toInt) (by decide : ((-2) : Int32).toInt = (-2)) c72837
              refine lv_aload_n hx hb dX13_findsOrders_161 rfl (lv_at hl 0 rfl) ?_
              refine t_get (C := RX13) (T := TX13) (N := 37) X hT m0 g0 rfl rfl 34 (by decide) qw_125 inlX13 rfl dX13_findsOrders_162 (fun v72840 hv72840 ov72840 => ?_)
              obtain ⟨b72841, rfl, mb72841, gb72841⟩ := okV_r ov72840
              have gb72841 : tag b72841 = 33 := tg_of gb72841
              refine lv_iload hx hb dX13_findsOrders_165 (lv_at hl 4 rfl) ?_
              refine t_ild X hT mb72841 gb72841 rfl (by omega) dX13_findsOrders_167 (fun z72842 vz72842 rz72842 => ?_)
              have rz72842 : (-2147483648) ≤ z72842.toInt ∧ z72842.toInt ≤ 2147483647 := rz72842
              refine lv_aload_n hx hb dX13_findsOrders_168 rfl (lv_at hl 0 rfl) ?_
              refine t_get (C := RX13) (T := TX13) (N := 37) X hT m0 g0 rfl rfl 31 (by decide) qw_122 inlX13 rfl dX13_findsOrders_169 (fun v72843 hv72843 ov72843 => ?_)
              obtain rfl : v72843 = .ref b72835 := hv72843.symm.trans hv72834
              refine lv_iload hx hb dX13_findsOrders_172 (lv_at hl 5 rfl) ?_
              refine t_ild X hT mb72835 gb72835 rfl (by omega) dX13_findsOrders_174 (fun z72844 vz72844 rz72844 => ?_)
              obtain rfl : z72836 = z72844 := vz72836.symm.trans vz72844
              refine lv_icmp_le (tgt := 192) hx hb dX13_findsOrders_175 (by decide) (fun c72845 => ?_) (fun c72845 => ?_)
              · have w72846 := cv_le (rfl : z72842.toInt = z72842.toInt) (rfl : z72836.toInt = z72836.toInt) c72845
                exact K192 z72831 z72832 z72833 _ _ _ _ (by omega) (by omega) (by omega) hT hfr pf0 pf1 qz72832 qz72833 hcar (lv_sub hl [0, 1, 2, 3, 4, 5] rfl)
              · have w72847 := cv_nle (rfl : z72842.toInt = z72842.toInt) (rfl : z72836.toInt = z72836.toInt) c72845
                exact K178 z72831 z72832 z72833 _ _ _ _ (by omega) (by omega) (by omega) hT hfr pf0 pf1 qz72832 qz72833 hcar (lv_sub hl [0, 1, 2, 3, 4, 5] rfl)
          have K135 : ∀ (z72849 : Int32) (z72850 : Int32) (z72851 : Int32) (F : Nat → va_E) (H : Heap) (locs : List Loc) (ls : Array Slot), (0 ≤ z72849.toInt ∧ z72849.toInt ≤ 5) → (1 ≤ z72851.toInt ∧ z72851.toInt ≤ 6) → (0 ≤ z72806.toInt ∧ z72806.toInt ≤ 5) → TH G ttC A s tag L F H locs → ((∀ b j : Nat, (tag b ≠ 46 ∨ j ≠ 36) → fld F b j = fld Fo b j) ∧ (∀ b j : Nat, tag b ≠ 33 → tag b ≠ 43 → elm F b j = elm Fo b j)) → (fld F p0 3 = .ref x0) → (fld F p0 29 = .ref x1) → (fld F p0 36 = .int z72850) → (fld F x0 10 = .int z72851) → (CAR F x1 6 lx) → lv_has ls 6 [(0, .ref p0), (1, .int p1), (2, .int z72792), (3, .int z72805), (4, .int z72806), (5, .int z72849)] → W p l e { frames := 3, cells := 0, slots := 0, locals := 66 } s m args below meth c H locs 0 0 Q (F0 m 135 ls []) := by
            intro z72849 z72850 z72851 F H locs ls rz72849 rz72851 r9s72848 hT hfr pf0 pf1 qz72850 qz72851 hcar hl
            have rz72850 := rg_all z72850
            refine lv_aload_n hx hb dX13_findsOrders_135 rfl (lv_at hl 0 rfl) ?_
            refine t_get (C := RX13) (T := TX13) (N := 37) X hT m0 g0 rfl rfl 30 (by decide) qw_121 inlX13 rfl dX13_findsOrders_136 (fun v72852 hv72852 ov72852 => ?_)
            obtain ⟨b72853, rfl, mb72853, gb72853⟩ := okV_r ov72852
            have gb72853 : tag b72853 = 33 := tg_of gb72853
            refine lv_iload hx hb dX13_findsOrders_139 (lv_at hl 5 rfl) ?_
            refine lv_aload_n hx hb dX13_findsOrders_141 rfl (lv_at hl 0 rfl) ?_
            refine t_get (C := RX13) (T := TX13) (N := 37) X hT m0 g0 rfl rfl 33 (by decide) qw_124 inlX13 rfl dX13_findsOrders_142 (fun v72854 hv72854 ov72854 => ?_)
            obtain ⟨b72855, rfl, mb72855, gb72855⟩ := okV_r ov72854
            have gb72855 : tag b72855 = 33 := tg_of gb72855
            refine lv_iload hx hb dX13_findsOrders_145 (lv_at hl 4 rfl) ?_
            refine t_ild X hT mb72855 gb72855 rfl (by omega) dX13_findsOrders_147 (fun z72856 vz72856 rz72856 => ?_)
            have rz72856 : (-2147483648) ≤ z72856.toInt ∧ z72856.toInt ≤ 2147483647 := rz72856
            refine t_ist X hT mb72853 gb72853 rfl (by omega) (show (-2147483648) ≤ (z72856 : Int32).toInt ∧ (z72856 : Int32).toInt ≤ 2147483647 from (rg_all _)) dX13_findsOrders_148 (fun F H locs hT v72857 h1v72857 h2v72857 => ?_)
            have qz72850 := (h2v72857 _ _).trans qz72850
            have qz72851 := (h2v72857 _ _).trans qz72851
            have pf0 := (h2v72857 _ _).trans pf0
            have pf1 := (h2v72857 _ _).trans pf1
            have hv72852 := (h2v72857 _ _).trans hv72852
            have hv72854 := (h2v72857 _ _).trans hv72854
            have hfr : (∀ b j : Nat, (tag b ≠ 46 ∨ j ≠ 36) → fld F b j = fld Fo b j) ∧ (∀ b j : Nat, tag b ≠ 33 → tag b ≠ 43 → elm F b j = elm Fo b j) := ⟨fun b j n46_36 => (h2v72857 b j).trans (hfr.1 b j n46_36), fun b j a33 a43 => (h1v72857 b j (Or.inl (at_ne gb72853 a33))).trans (hfr.2 b j a33 a43)⟩
            have hcar := car_of (fun j => h1v72857 _ j (Or.inl (tne gx1 gb72853 (by decide)))) hcar
            exact K149 z72849 z72850 z72851 _ _ _ _ (by omega) (by omega) (by omega) hT hfr pf0 pf1 qz72850 qz72851 hcar (lv_sub hl [0, 1, 2, 3, 4, 5] rfl)
          have K106 : ∀ (z72859 : Int32) (z72860 : Int32) (z72861 : Int32) (F : Nat → va_E) (H : Heap) (locs : List Loc) (ls : Array Slot), (0 ≤ z72859.toInt ∧ z72859.toInt ≤ 5) → (1 ≤ z72861.toInt ∧ z72861.toInt ≤ 6) → (0 ≤ z72806.toInt ∧ z72806.toInt ≤ 5) → TH G ttC A s tag L F H locs → ((∀ b j : Nat, (tag b ≠ 46 ∨ j ≠ 36) → fld F b j = fld Fo b j) ∧ (∀ b j : Nat, tag b ≠ 33 → tag b ≠ 43 → elm F b j = elm Fo b j)) → (fld F p0 3 = .ref x0) → (fld F p0 29 = .ref x1) → (fld F p0 36 = .int z72860) → (fld F x0 10 = .int z72861) → (CAR F x1 6 lx) → lv_has ls 6 [(0, .ref p0), (1, .int p1), (2, .int z72792), (3, .int z72805), (4, .int z72806), (5, .int z72859)] → W p l e { frames := 3, cells := 0, slots := 0, locals := 66 } s m args below meth c H locs 0 0 Q (F0 m 106 ls []) := by
            intro z72859 z72860 z72861 F H locs ls rz72859 rz72861 r9s72858 hT hfr pf0 pf1 qz72860 qz72861 hcar hl
            have rz72860 := rg_all z72860
            refine lv_aload_n hx hb dX13_findsOrders_106 rfl (lv_at hl 0 rfl) ?_
            refine t_get (C := RX13) (T := TX13) (N := 37) X hT m0 g0 rfl rfl 30 (by decide) qw_121 inlX13 rfl dX13_findsOrders_107 (fun v72862 hv72862 ov72862 => ?_)
            obtain ⟨b72863, rfl, mb72863, gb72863⟩ := okV_r ov72862
            have gb72863 : tag b72863 = 33 := tg_of gb72863
            refine lv_iload hx hb dX13_findsOrders_110 (lv_at hl 5 rfl) ?_
            refine t_ild X hT mb72863 gb72863 rfl (by omega) dX13_findsOrders_112 (fun z72864 vz72864 rz72864 => ?_)
            have rz72864 : (-2147483648) ≤ z72864.toInt ∧ z72864.toInt ≤ 2147483647 := rz72864
            refine lv_bipush (v := (-2)) hx hb dX13_findsOrders_113 (by decide) ?_
            refine lv_icmp_eq (tgt := 135) hx hb dX13_findsOrders_115 (by decide) (fun c72865 => ?_) (fun c72865 => ?_)
            · have w72866 := cv_eq (rfl : z72864.toInt = z72864.toInt) (by decide : ((-2) : Int32).toInt = (-2)) c72865
              exact K135 z72859 z72860 z72861 _ _ _ _ (by omega) (by omega) (by omega) hT hfr pf0 pf1 qz72860 qz72861 hcar (lv_sub hl [0, 1, 2, 3, 4, 5] rfl)
            · have w72867 := cv_ne (rfl : z72864.toInt = z72864.toInt) (by decide : ((-2) : Int32).toInt = (-2)) c72865
              refine lv_aload_n hx hb dX13_findsOrders_118 rfl (lv_at hl 0 rfl) ?_
              refine t_get (C := RX13) (T := TX13) (N := 37) X hT m0 g0 rfl rfl 33 (by decide) qw_124 inlX13 rfl dX13_findsOrders_119 (fun v72868 hv72868 ov72868 => ?_)
              obtain ⟨b72869, rfl, mb72869, gb72869⟩ := okV_r ov72868
              have gb72869 : tag b72869 = 33 := tg_of gb72869
              refine lv_iload hx hb dX13_findsOrders_122 (lv_at hl 4 rfl) ?_
              refine t_ild X hT mb72869 gb72869 rfl (by omega) dX13_findsOrders_124 (fun z72870 vz72870 rz72870 => ?_)
              have rz72870 : (-2147483648) ≤ z72870.toInt ∧ z72870.toInt ≤ 2147483647 := rz72870
              refine lv_aload_n hx hb dX13_findsOrders_125 rfl (lv_at hl 0 rfl) ?_
              refine t_get (C := RX13) (T := TX13) (N := 37) X hT m0 g0 rfl rfl 30 (by decide) qw_121 inlX13 rfl dX13_findsOrders_126 (fun v72871 hv72871 ov72871 => ?_)
              obtain rfl : v72871 = .ref b72863 := hv72871.symm.trans hv72862
              refine lv_iload hx hb dX13_findsOrders_129 (lv_at hl 5 rfl) ?_
              refine t_ild X hT mb72863 gb72863 rfl (by omega) dX13_findsOrders_131 (fun z72872 vz72872 rz72872 => ?_)
              obtain rfl : z72864 = z72872 := vz72864.symm.trans vz72872
              refine lv_icmp_ge (tgt := 149) hx hb dX13_findsOrders_132 (by decide) (fun c72873 => ?_) (fun c72873 => ?_)
              · have w72874 := cv_le (rfl : z72864.toInt = z72864.toInt) (rfl : z72870.toInt = z72870.toInt) c72873
                exact K149 z72859 z72860 z72861 _ _ _ _ (by omega) (by omega) (by omega) hT hfr pf0 pf1 qz72860 qz72861 hcar (lv_sub hl [0, 1, 2, 3, 4, 5] rfl)
              · have w72875 := cv_nle (rfl : z72864.toInt = z72864.toInt) (rfl : z72870.toInt = z72870.toInt) c72873
                exact K135 z72859 z72860 z72861 _ _ _ _ (by omega) (by omega) (by omega) hT hfr pf0 pf1 qz72860 qz72861 hcar (lv_sub hl [0, 1, 2, 3, 4, 5] rfl)
          refine lv_iload hx hb dX13_findsOrders_68 (lv_at hl 4 rfl) ?_
          refine lv_aload_n hx hb dX13_findsOrders_70 rfl (lv_at hl 0 rfl) ?_
          refine t_get (C := RX13) (T := TX13) (N := 37) X hT m0 g0 rfl rfl 3 (by decide) qw_481 inlX13 rfl dX13_findsOrders_71 (fun v72876 hv72876 ov72876 => ?_)
          obtain rfl : v72876 = .ref x0 := hv72876.symm.trans pf0
          refine t_getN (C := RX12) (T := TX12) (N := 31) X hT mx0 gx0 rfl rfl 10 (by decide) (List.mem_of_getElem? (i := 14) rfl) inlX12 rfl dX13_findsOrders_74 (fun v72877 hv72877 ov72877 => ?_)
          obtain ⟨z72878, rfl, rz72878⟩ := okV_i ov72877
          refine lv_icmp_ge (tgt := 216) hx hb dX13_findsOrders_77 (by decide) (fun c72879 => ?_) (fun c72879 => ?_)
          · have w72880 := cv_le (rfl : z72878.toInt = z72878.toInt) (rfl : z72806.toInt = z72806.toInt) c72879
            refine lv_aload_n hx hb dX13_findsOrders_216 rfl (lv_at hl 0 rfl) ?_
            refine lv_dup hx hb dX13_findsOrders_217 rfl ?_
            refine t_get (C := RX13) (T := TX13) (N := 37) X hT m0 g0 rfl rfl 36 (by decide) qw_1361 inlX13 rfl dX13_findsOrders_218 (fun v72881 hv72881 ov72881 => ?_)
            obtain rfl : v72881 = .int z72807 := hv72881.symm.trans qz72807
            refine lv_iconst (v := 1) hx hb dX13_findsOrders_221 (by decide) ?_
            refine lv_iadd hx hb dX13_findsOrders_222 ?_
            refine lv_topi (fun z72882 ez72882 => ?_)
            have rz72882 := rg_all z72882
            refine t_put (C := RX13) (T := TX13) (N := 37) (v := .int z72882) X hT m0 g0 rfl tyX13 tyX13_ok nmX13 rfl 36 (by decide) qw_1361 inlX13 rfl (by first | rfl | decide) (by first | rfl | decide) rfl (⟨_, rfl, (show (-2147483648) ≤ (z72882 : Int32).toInt from (by omega)), (show (z72882 : Int32).toInt ≤ 2147483647 from (by omega))⟩) dX13_findsOrders_223 (fun F H locs hT v72883 h1v72883 h2v72883 => ?_)
            have pf0 := (h1v72883 _ _ (Or.inr (by decide))).trans pf0
            have pf1 := (h1v72883 _ _ (Or.inr (by decide))).trans pf1
            have hv72877 := (h1v72883 _ _ (Or.inr (by decide))).trans hv72877
            have hfr : (∀ b j : Nat, (tag b ≠ 46 ∨ j ≠ 36) → fld F b j = fld Fo b j) ∧ (∀ b j : Nat, tag b ≠ 33 → tag b ≠ 43 → elm F b j = elm Fo b j) := ⟨fun b j n46_36 => (h1v72883 b j (fr_ne g0 n46_36)).trans (hfr.1 b j n46_36), fun b j a33 a43 => (h2v72883 b j).trans (hfr.2 b j a33 a43)⟩
            have hcar := car_of (fun j => h2v72883 _ j) hcar
            exact K226 z72882 _ _ _ _  hT hfr pf0 pf1 v72883 hcar (lv_sub hl [0, 1, 2] rfl)
          · have w72884 := cv_nle (rfl : z72878.toInt = z72878.toInt) (rfl : z72806.toInt = z72806.toInt) c72879
            refine lv_aload_n hx hb dX13_findsOrders_80 rfl (lv_at hl 0 rfl) ?_
            refine t_get (C := RX13) (T := TX13) (N := 37) X hT m0 g0 rfl rfl 29 (by decide) qw_120 inlX13 rfl dX13_findsOrders_81 (fun v72885 hv72885 ov72885 => ?_)
            obtain rfl : v72885 = .ref x1 := hv72885.symm.trans pf1
            refine lv_iload hx hb dX13_findsOrders_84 (lv_at hl 4 rfl) ?_
            refine t_ild X hT mx1 gx1 rfl (by omega) dX13_findsOrders_86 (fun z72886 vz72886 rz72886 => ?_)
            have rz72886 : 0 ≤ z72886.toInt ∧ z72886.toInt ≤ 5 := rz72886
            refine lv_istore (lv' := [(5, .int z72886), (0, .ref p0), (1, .int p1), (2, .int z72792), (3, .int z72805), (4, .int z72806)]) hx hb dX13_findsOrders_87 hl (by decide) rfl (fun ls hl => ?_)
            refine lv_aload_n hx hb dX13_findsOrders_89 rfl (lv_at hl 1 rfl) ?_
            refine t_get (C := RX13) (T := TX13) (N := 37) X hT m0 g0 rfl rfl 36 (by decide) qw_1361 inlX13 rfl dX13_findsOrders_90 (fun v72887 hv72887 ov72887 => ?_)
            obtain rfl : v72887 = .int z72807 := hv72887.symm.trans qz72807
            refine lv_iload_n hx hb dX13_findsOrders_93 rfl (lv_at hl 2 rfl) ?_
            refine lv_icmp_ne (tgt := 106) hx hb dX13_findsOrders_94 (by decide) (fun c72888 => ?_) (fun c72888 => ?_)
            · have w72889 := cv_ne (rfl : z72807.toInt = z72807.toInt) (rfl : p1.toInt = p1.toInt) c72888
              exact K106 z72886 z72807 z72878 _ _ _ _ (by omega) (by omega) (by omega) hT hfr pf0 pf1 qz72807 hv72877 hcar (lv_sub hl [1, 2, 3, 4, 5, 0] rfl)
            · have w72890 := cv_eq (rfl : z72807.toInt = z72807.toInt) (rfl : p1.toInt = p1.toInt) c72888
              refine lv_aload_n hx hb dX13_findsOrders_97 rfl (lv_at hl 1 rfl) ?_
              refine t_get (C := RX13) (T := TX13) (N := 37) X hT m0 g0 rfl rfl 35 (by decide) qw_126 inlX13 rfl dX13_findsOrders_98 (fun v72891 hv72891 ov72891 => ?_)
              obtain ⟨b72892, rfl, mb72892, gb72892⟩ := okV_r ov72891
              have gb72892 : tag b72892 = 33 := tg_of gb72892
              refine lv_iload hx hb dX13_findsOrders_101 (lv_at hl 5 rfl) ?_
              refine lv_iload hx hb dX13_findsOrders_103 (lv_at hl 0 rfl) ?_
              refine t_ist X hT mb72892 gb72892 rfl (by omega) (show (-2147483648) ≤ (z72886 : Int32).toInt ∧ (z72886 : Int32).toInt ≤ 2147483647 from (rg_all _)) dX13_findsOrders_105 (fun F H locs hT v72893 h1v72893 h2v72893 => ?_)
              have qz72807 := (h2v72893 _ _).trans qz72807
              have pf0 := (h2v72893 _ _).trans pf0
              have pf1 := (h2v72893 _ _).trans pf1
              have hv72877 := (h2v72893 _ _).trans hv72877
              have vz72886 := (h1v72893 _ _ (Or.inl (tne gx1 gb72892 (by decide)))).trans vz72886
              have hv72891 := (h2v72893 _ _).trans hv72891
              have hfr : (∀ b j : Nat, (tag b ≠ 46 ∨ j ≠ 36) → fld F b j = fld Fo b j) ∧ (∀ b j : Nat, tag b ≠ 33 → tag b ≠ 43 → elm F b j = elm Fo b j) := ⟨fun b j n46_36 => (h2v72893 b j).trans (hfr.1 b j n46_36), fun b j a33 a43 => (h1v72893 b j (Or.inl (at_ne gb72892 a33))).trans (hfr.2 b j a33 a43)⟩
              have hcar := car_of (fun j => h1v72893 _ j (Or.inl (tne gx1 gb72892 (by decide)))) hcar
              exact K106 z72886 z72807 z72878 _ _ _ _ (by omega) (by omega) (by omega) hT hfr pf0 pf1 qz72807 hv72877 hcar (lv_sub hl [1, 2, 3, 4, 5, 0] rfl)
      refine lv_aload_n hx hb dX13_findsOrders_56 rfl (lv_at hl 0 rfl) ?_
      refine t_cVi (n := 0) (C := RX13) (T := TX13) (N := 37) (As := []) (rest := []) X hT (km224_X13_canBe l G tag L F hT.2.2.2 p0 x0 m0 g0 mx0 gx0 pf0) m0 g0 rfl rfl qw_1366 qw_1367 qw_1368 qw_5 qw_1369 ⟨rfl, by decide +kernel, by decide +kernel, by decide +kernel⟩ ⟨Nat.le_of_ble_eq_true rfl, Nat.le_of_ble_eq_true rfl⟩ hl rfl rfl (Nat.le_of_ble_eq_true rfl) dX13_findsOrders_57 ⟨Nat.le_of_ble_eq_true rfl, Nat.le_of_ble_eq_true rfl⟩ (fun z72894 F H locs hT hz72894 => ?_)
      obtain ⟨hz72894, yz72894⟩ := hz72894
      have qz72793 := (yz72894.1 _ 36 ).trans qz72793
      have pf0 := (yz72894.1 _ 3 ).trans pf0
      have pf1 := (yz72894.1 _ 29 ).trans pf1
      have hfr : (∀ b j : Nat, (tag b ≠ 46 ∨ j ≠ 36) → fld F b j = fld Fo b j) ∧ (∀ b j : Nat, tag b ≠ 33 → tag b ≠ 43 → elm F b j = elm Fo b j) := ⟨fun b j n46_36 => (yz72894.1 b j ).trans (hfr.1 b j n46_36), fun b j a33 a43 => (yz72894.2 b j a33).trans (hfr.2 b j a33 a43)⟩
      have hcar := car_of (fun j => yz72894.2 _ j (by rw [gx1]; decide)) hcar
      refine lv_if_eq (tgt := 226) hx hb dX13_findsOrders_60 (by decide) (fun c72895 => ?_) (fun c72895 => ?_)
      · have w72896 := cv_eq (rfl : z72894.toInt = z72894.toInt) (by decide : (0 : Int32).toInt = 0) c72895
        exact K226 z72793 _ _ _ _  hT hfr pf0 pf1 qz72793 hcar (lv_sub hl [0, 1, 2] rfl)
      · have w72897 := cv_ne (rfl : z72894.toInt = z72894.toInt) (by decide : (0 : Int32).toInt = 0) c72895
        refine lv_iconst (v := 0) hx hb dX13_findsOrders_63 (by decide) ?_
        refine lv_istore_n (lv' := [(3, .int 0), (0, .ref p0), (1, .int p1), (2, .int z72792)]) hx hb dX13_findsOrders_64 rfl hl (by decide) rfl (fun ls hl => ?_)
        refine lv_iconst (v := 0) hx hb dX13_findsOrders_65 (by decide) ?_
        refine lv_istore (lv' := [(4, .int 0), (3, .int 0), (0, .ref p0), (1, .int p1), (2, .int z72792)]) hx hb dX13_findsOrders_66 hl (by decide) rfl (fun ls hl => ?_)
        have k72898 : (0 : Int32).toInt = 0 := by decide
        have k72899 : (0 : Int32).toInt = 0 := by decide
        exact K68 7 0 0 z72793 _ _ _ _ (by omega) (by decide) (by decide) hT hfr pf0 pf1 qz72793 hcar (lv_sub hl [2, 3, 4, 1, 0] rfl)
  refine lv_aload_n hx hb dX13_findsOrders_0 rfl (lv_at hl 0 rfl) ?_
  refine lv_iconst (v := 0) hx hb dX13_findsOrders_1 (by decide) ?_
  refine t_put (C := RX13) (T := TX13) (N := 37) (v := .int 0) X hT m0 g0 rfl tyX13 tyX13_ok nmX13 rfl 36 (by decide) qw_1361 inlX13 rfl (by first | rfl | decide) (by first | rfl | decide) rfl (⟨_, rfl, (show (-2147483648) ≤ (0 : Int32).toInt from (by decide)), (show (0 : Int32).toInt ≤ 2147483647 from (by decide))⟩) dX13_findsOrders_2 (fun F H locs hT v72900 h1v72900 h2v72900 => ?_)
  have pf0 := (h1v72900 _ _ (Or.inr (by decide))).trans pf0
  have pf1 := (h1v72900 _ _ (Or.inr (by decide))).trans pf1
  have hfr : (∀ b j : Nat, (tag b ≠ 46 ∨ j ≠ 36) → fld F b j = fld Fo b j) ∧ (∀ b j : Nat, tag b ≠ 33 → tag b ≠ 43 → elm F b j = elm Fo b j) := ⟨fun b j n46_36 => (h1v72900 b j (fr_ne g0 n46_36)).trans (hfr.1 b j n46_36), fun b j a33 a43 => (h2v72900 b j).trans (hfr.2 b j a33 a43)⟩
  refine lv_iconst (v := 0) hx hb dX13_findsOrders_5 (by decide) ?_
  refine lv_istore_n (lv' := [(2, .int 0), (0, .ref p0), (1, .int p1)]) hx hb dX13_findsOrders_6 rfl hl (by decide) rfl (fun ls hl => ?_)
  refine lv_iload_n hx hb dX13_findsOrders_7 rfl (lv_at hl 0 rfl) ?_
  refine lv_bipush (v := 6) hx hb dX13_findsOrders_8 (by decide) ?_
  refine lv_icmp_ge (tgt := 50) hx hb dX13_findsOrders_10 (by decide) (fun c9 => absurd c9 (by decide)) (fun _ => ?_)
  refine lv_aload_n hx hb dX13_findsOrders_13 rfl (lv_at hl 1 rfl) ?_
  refine t_get (C := RX13) (T := TX13) (N := 37) X hT m0 g0 rfl rfl 29 (by decide) qw_120 inlX13 rfl dX13_findsOrders_14 (fun v72901 hv72901 ov72901 => ?_)
  obtain rfl : v72901 = .ref x1 := hv72901.symm.trans pf1
  refine lv_iload_n hx hb dX13_findsOrders_17 rfl (lv_at hl 0 rfl) ?_
  refine lv_iload_n hx hb dX13_findsOrders_18 rfl (lv_at hl 0 rfl) ?_
  refine t_ist X hT mx1 gx1 rfl (by decide) (show 0 ≤ (0 : Int32).toInt ∧ (0 : Int32).toInt ≤ 5 from (by decide)) dX13_findsOrders_19 (fun F H locs hT v72902 h1v72902 h2v72902 => ?_)
  have pf0 := (h2v72902 _ _).trans pf0
  have pf1 := (h2v72902 _ _).trans pf1
  have v72900 := (h2v72902 _ _).trans v72900
  have hfr : (∀ b j : Nat, (tag b ≠ 46 ∨ j ≠ 36) → fld F b j = fld Fo b j) ∧ (∀ b j : Nat, tag b ≠ 33 → tag b ≠ 43 → elm F b j = elm Fo b j) := ⟨fun b j n46_36 => (h2v72902 b j).trans (hfr.1 b j n46_36), fun b j a33 a43 => (h1v72902 b j (Or.inl (at_ne gx1 a43))).trans (hfr.2 b j a33 a43)⟩
  refine lv_aload_n hx hb dX13_findsOrders_20 rfl (lv_at hl 1 rfl) ?_
  refine t_get (C := RX13) (T := TX13) (N := 37) X hT m0 g0 rfl rfl 30 (by decide) qw_121 inlX13 rfl dX13_findsOrders_21 (fun v72903 hv72903 ov72903 => ?_)
  obtain ⟨b72904, rfl, mb72904, gb72904⟩ := okV_r ov72903
  have gb72904 : tag b72904 = 33 := tg_of gb72904
  refine lv_iload_n hx hb dX13_findsOrders_24 rfl (lv_at hl 0 rfl) ?_
  refine lv_bipush (v := (-2)) hx hb dX13_findsOrders_25 (by decide) ?_
  refine t_ist X hT mb72904 gb72904 rfl (by decide) (show (-2147483648) ≤ ((-2) : Int32).toInt ∧ ((-2) : Int32).toInt ≤ 2147483647 from (rg_all _)) dX13_findsOrders_27 (fun F H locs hT v72905 h1v72905 h2v72905 => ?_)
  have pf0 := (h2v72905 _ _).trans pf0
  have pf1 := (h2v72905 _ _).trans pf1
  have v72900 := (h2v72905 _ _).trans v72900
  have v72902 := (h1v72905 _ _ (Or.inl (tne gx1 gb72904 (by decide)))).trans v72902
  have hv72903 := (h2v72905 _ _).trans hv72903
  have hfr : (∀ b j : Nat, (tag b ≠ 46 ∨ j ≠ 36) → fld F b j = fld Fo b j) ∧ (∀ b j : Nat, tag b ≠ 33 → tag b ≠ 43 → elm F b j = elm Fo b j) := ⟨fun b j n46_36 => (h2v72905 b j).trans (hfr.1 b j n46_36), fun b j a33 a43 => (h1v72905 b j (Or.inl (at_ne gb72904 a33))).trans (hfr.2 b j a33 a43)⟩
  refine lv_aload_n hx hb dX13_findsOrders_28 rfl (lv_at hl 1 rfl) ?_
  refine t_get (C := RX13) (T := TX13) (N := 37) X hT m0 g0 rfl rfl 31 (by decide) qw_122 inlX13 rfl dX13_findsOrders_29 (fun v72906 hv72906 ov72906 => ?_)
  obtain ⟨b72907, rfl, mb72907, gb72907⟩ := okV_r ov72906
  have gb72907 : tag b72907 = 33 := tg_of gb72907
  refine lv_iload_n hx hb dX13_findsOrders_32 rfl (lv_at hl 0 rfl) ?_
  refine lv_bipush (v := (-2)) hx hb dX13_findsOrders_33 (by decide) ?_
  refine t_ist X hT mb72907 gb72907 rfl (by decide) (show (-2147483648) ≤ ((-2) : Int32).toInt ∧ ((-2) : Int32).toInt ≤ 2147483647 from (rg_all _)) dX13_findsOrders_35 (fun F H locs hT v72908 h1v72908 h2v72908 => ?_)
  have pf0 := (h2v72908 _ _).trans pf0
  have pf1 := (h2v72908 _ _).trans pf1
  have v72900 := (h2v72908 _ _).trans v72900
  have v72902 := (h1v72908 _ _ (Or.inl (tne gx1 gb72907 (by decide)))).trans v72902
  have hv72903 := (h2v72908 _ _).trans hv72903
  have hv72906 := (h2v72908 _ _).trans hv72906
  have hfr : (∀ b j : Nat, (tag b ≠ 46 ∨ j ≠ 36) → fld F b j = fld Fo b j) ∧ (∀ b j : Nat, tag b ≠ 33 → tag b ≠ 43 → elm F b j = elm Fo b j) := ⟨fun b j n46_36 => (h2v72908 b j).trans (hfr.1 b j n46_36), fun b j a33 a43 => (h1v72908 b j (Or.inl (at_ne gb72907 a33))).trans (hfr.2 b j a33 a43)⟩
  refine lv_aload_n hx hb dX13_findsOrders_36 rfl (lv_at hl 1 rfl) ?_
  refine t_get (C := RX13) (T := TX13) (N := 37) X hT m0 g0 rfl rfl 32 (by decide) qw_123 inlX13 rfl dX13_findsOrders_37 (fun v72909 hv72909 ov72909 => ?_)
  obtain ⟨b72910, rfl, mb72910, gb72910⟩ := okV_r ov72909
  have gb72910 : tag b72910 = 33 := tg_of gb72910
  refine lv_iload_n hx hb dX13_findsOrders_40 rfl (lv_at hl 0 rfl) ?_
  refine lv_bipush (v := 63) hx hb dX13_findsOrders_41 (by decide) ?_
  refine t_ist X hT mb72910 gb72910 rfl (by decide) (show (-2147483648) ≤ (63 : Int32).toInt ∧ (63 : Int32).toInt ≤ 2147483647 from (rg_all _)) dX13_findsOrders_43 (fun F H locs hT v72911 h1v72911 h2v72911 => ?_)
  have pf0 := (h2v72911 _ _).trans pf0
  have pf1 := (h2v72911 _ _).trans pf1
  have v72900 := (h2v72911 _ _).trans v72900
  have v72902 := (h1v72911 _ _ (Or.inl (tne gx1 gb72910 (by decide)))).trans v72902
  have hv72903 := (h2v72911 _ _).trans hv72903
  have hv72906 := (h2v72911 _ _).trans hv72906
  have hv72909 := (h2v72911 _ _).trans hv72909
  have hfr : (∀ b j : Nat, (tag b ≠ 46 ∨ j ≠ 36) → fld F b j = fld Fo b j) ∧ (∀ b j : Nat, tag b ≠ 33 → tag b ≠ 43 → elm F b j = elm Fo b j) := ⟨fun b j n46_36 => (h2v72911 b j).trans (hfr.1 b j n46_36), fun b j a33 a43 => (h1v72911 b j (Or.inl (at_ne gb72910 a33))).trans (hfr.2 b j a33 a43)⟩
  refine lv_iinc (v := 1) (lv' := [(2, .int 1), (0, .ref p0), (1, .int p1)]) hx hb dX13_findsOrders_44 hl (k := 0) rfl (by decide) (by decide) rfl (fun ls hl => ?_)
  refine lv_goto (tgt := 7) hx hb dX13_findsOrders_47 (by decide) ?_
  refine lv_iload_n hx hb dX13_findsOrders_7 rfl (lv_at hl 0 rfl) ?_
  refine lv_bipush (v := 6) hx hb dX13_findsOrders_8 (by decide) ?_
  refine lv_icmp_ge (tgt := 50) hx hb dX13_findsOrders_10 (by decide) (fun c9 => absurd c9 (by decide)) (fun _ => ?_)
  refine lv_aload_n hx hb dX13_findsOrders_13 rfl (lv_at hl 1 rfl) ?_
  refine t_get (C := RX13) (T := TX13) (N := 37) X hT m0 g0 rfl rfl 29 (by decide) qw_120 inlX13 rfl dX13_findsOrders_14 (fun v72912 hv72912 ov72912 => ?_)
  obtain rfl : v72912 = .ref x1 := hv72912.symm.trans pf1
  refine lv_iload_n hx hb dX13_findsOrders_17 rfl (lv_at hl 0 rfl) ?_
  refine lv_iload_n hx hb dX13_findsOrders_18 rfl (lv_at hl 0 rfl) ?_
  refine t_ist X hT mx1 gx1 rfl (by decide) (show 0 ≤ (1 : Int32).toInt ∧ (1 : Int32).toInt ≤ 5 from (by decide)) dX13_findsOrders_19 (fun F H locs hT v72913 h1v72913 h2v72913 => ?_)
  have pf0 := (h2v72913 _ _).trans pf0
  have pf1 := (h2v72913 _ _).trans pf1
  have v72900 := (h2v72913 _ _).trans v72900
  have k72914 : (1 : Int32).toInt = 1 := by decide
  have k72915 : (0 : Int32).toInt = 0 := by decide
  have v72902 := (h1v72913 _ _ (Or.inr (ine (by omega) (by omega) (by omega)))).trans v72902
  have hv72903 := (h2v72913 _ _).trans hv72903
  have hv72906 := (h2v72913 _ _).trans hv72906
  have hv72909 := (h2v72913 _ _).trans hv72909
  have v72911 := (h1v72913 _ _ (Or.inl (tne gb72910 gx1 (by decide)))).trans v72911
  have hfr : (∀ b j : Nat, (tag b ≠ 46 ∨ j ≠ 36) → fld F b j = fld Fo b j) ∧ (∀ b j : Nat, tag b ≠ 33 → tag b ≠ 43 → elm F b j = elm Fo b j) := ⟨fun b j n46_36 => (h2v72913 b j).trans (hfr.1 b j n46_36), fun b j a33 a43 => (h1v72913 b j (Or.inl (at_ne gx1 a43))).trans (hfr.2 b j a33 a43)⟩
  refine lv_aload_n hx hb dX13_findsOrders_20 rfl (lv_at hl 1 rfl) ?_
  refine t_get (C := RX13) (T := TX13) (N := 37) X hT m0 g0 rfl rfl 30 (by decide) qw_121 inlX13 rfl dX13_findsOrders_21 (fun v72916 hv72916 ov72916 => ?_)
  obtain rfl : v72916 = .ref b72904 := hv72916.symm.trans hv72903
  refine lv_iload_n hx hb dX13_findsOrders_24 rfl (lv_at hl 0 rfl) ?_
  refine lv_bipush (v := (-2)) hx hb dX13_findsOrders_25 (by decide) ?_
  refine t_ist X hT mb72904 gb72904 rfl (by decide) (show (-2147483648) ≤ ((-2) : Int32).toInt ∧ ((-2) : Int32).toInt ≤ 2147483647 from (rg_all _)) dX13_findsOrders_27 (fun F H locs hT v72917 h1v72917 h2v72917 => ?_)
  have pf0 := (h2v72917 _ _).trans pf0
  have pf1 := (h2v72917 _ _).trans pf1
  have v72900 := (h2v72917 _ _).trans v72900
  have v72902 := (h1v72917 _ _ (Or.inl (tne gx1 gb72904 (by decide)))).trans v72902
  have hv72903 := (h2v72917 _ _).trans hv72903
  have hv72906 := (h2v72917 _ _).trans hv72906
  have hv72909 := (h2v72917 _ _).trans hv72909
  have k72918 : (1 : Int32).toInt = 1 := by decide
  have k72919 : (0 : Int32).toInt = 0 := by decide
  have v72911 := (h1v72917 _ _ (Or.inr (ine (by omega) (by omega) (by omega)))).trans v72911
  have v72913 := (h1v72917 _ _ (Or.inl (tne gx1 gb72904 (by decide)))).trans v72913
  have hfr : (∀ b j : Nat, (tag b ≠ 46 ∨ j ≠ 36) → fld F b j = fld Fo b j) ∧ (∀ b j : Nat, tag b ≠ 33 → tag b ≠ 43 → elm F b j = elm Fo b j) := ⟨fun b j n46_36 => (h2v72917 b j).trans (hfr.1 b j n46_36), fun b j a33 a43 => (h1v72917 b j (Or.inl (at_ne gb72904 a33))).trans (hfr.2 b j a33 a43)⟩
  refine lv_aload_n hx hb dX13_findsOrders_28 rfl (lv_at hl 1 rfl) ?_
  refine t_get (C := RX13) (T := TX13) (N := 37) X hT m0 g0 rfl rfl 31 (by decide) qw_122 inlX13 rfl dX13_findsOrders_29 (fun v72920 hv72920 ov72920 => ?_)
  obtain rfl : v72920 = .ref b72907 := hv72920.symm.trans hv72906
  refine lv_iload_n hx hb dX13_findsOrders_32 rfl (lv_at hl 0 rfl) ?_
  refine lv_bipush (v := (-2)) hx hb dX13_findsOrders_33 (by decide) ?_
  refine t_ist X hT mb72907 gb72907 rfl (by decide) (show (-2147483648) ≤ ((-2) : Int32).toInt ∧ ((-2) : Int32).toInt ≤ 2147483647 from (rg_all _)) dX13_findsOrders_35 (fun F H locs hT v72921 h1v72921 h2v72921 => ?_)
  have pf0 := (h2v72921 _ _).trans pf0
  have pf1 := (h2v72921 _ _).trans pf1
  have v72900 := (h2v72921 _ _).trans v72900
  have v72902 := (h1v72921 _ _ (Or.inl (tne gx1 gb72907 (by decide)))).trans v72902
  have hv72903 := (h2v72921 _ _).trans hv72903
  have hv72906 := (h2v72921 _ _).trans hv72906
  have hv72909 := (h2v72921 _ _).trans hv72909
  have k72922 : (1 : Int32).toInt = 1 := by decide
  have k72923 : (0 : Int32).toInt = 0 := by decide
  have v72911 := (h1v72921 _ _ (Or.inr (ine (by omega) (by omega) (by omega)))).trans v72911
  have v72913 := (h1v72921 _ _ (Or.inl (tne gx1 gb72907 (by decide)))).trans v72913
  have hfr : (∀ b j : Nat, (tag b ≠ 46 ∨ j ≠ 36) → fld F b j = fld Fo b j) ∧ (∀ b j : Nat, tag b ≠ 33 → tag b ≠ 43 → elm F b j = elm Fo b j) := ⟨fun b j n46_36 => (h2v72921 b j).trans (hfr.1 b j n46_36), fun b j a33 a43 => (h1v72921 b j (Or.inl (at_ne gb72907 a33))).trans (hfr.2 b j a33 a43)⟩
  refine lv_aload_n hx hb dX13_findsOrders_36 rfl (lv_at hl 1 rfl) ?_
  refine t_get (C := RX13) (T := TX13) (N := 37) X hT m0 g0 rfl rfl 32 (by decide) qw_123 inlX13 rfl dX13_findsOrders_37 (fun v72924 hv72924 ov72924 => ?_)
  obtain rfl : v72924 = .ref b72910 := hv72924.symm.trans hv72909
  refine lv_iload_n hx hb dX13_findsOrders_40 rfl (lv_at hl 0 rfl) ?_
  refine lv_bipush (v := 63) hx hb dX13_findsOrders_41 (by decide) ?_
  refine t_ist X hT mb72910 gb72910 rfl (by decide) (show (-2147483648) ≤ (63 : Int32).toInt ∧ (63 : Int32).toInt ≤ 2147483647 from (rg_all _)) dX13_findsOrders_43 (fun F H locs hT v72925 h1v72925 h2v72925 => ?_)
  have pf0 := (h2v72925 _ _).trans pf0
  have pf1 := (h2v72925 _ _).trans pf1
  have v72900 := (h2v72925 _ _).trans v72900
  have v72902 := (h1v72925 _ _ (Or.inl (tne gx1 gb72910 (by decide)))).trans v72902
  have hv72903 := (h2v72925 _ _).trans hv72903
  have hv72906 := (h2v72925 _ _).trans hv72906
  have hv72909 := (h2v72925 _ _).trans hv72909
  have k72926 : (1 : Int32).toInt = 1 := by decide
  have k72927 : (0 : Int32).toInt = 0 := by decide
  have v72911 := (h1v72925 _ _ (Or.inr (ine (by omega) (by omega) (by omega)))).trans v72911
  have v72913 := (h1v72925 _ _ (Or.inl (tne gx1 gb72910 (by decide)))).trans v72913
  have hfr : (∀ b j : Nat, (tag b ≠ 46 ∨ j ≠ 36) → fld F b j = fld Fo b j) ∧ (∀ b j : Nat, tag b ≠ 33 → tag b ≠ 43 → elm F b j = elm Fo b j) := ⟨fun b j n46_36 => (h2v72925 b j).trans (hfr.1 b j n46_36), fun b j a33 a43 => (h1v72925 b j (Or.inl (at_ne gb72910 a33))).trans (hfr.2 b j a33 a43)⟩
  refine lv_iinc (v := 2) (lv' := [(2, .int 2), (0, .ref p0), (1, .int p1)]) hx hb dX13_findsOrders_44 hl (k := 0) rfl (by decide) (by decide) rfl (fun ls hl => ?_)
  refine lv_goto (tgt := 7) hx hb dX13_findsOrders_47 (by decide) ?_
  refine lv_iload_n hx hb dX13_findsOrders_7 rfl (lv_at hl 0 rfl) ?_
  refine lv_bipush (v := 6) hx hb dX13_findsOrders_8 (by decide) ?_
  refine lv_icmp_ge (tgt := 50) hx hb dX13_findsOrders_10 (by decide) (fun c9 => absurd c9 (by decide)) (fun _ => ?_)
  refine lv_aload_n hx hb dX13_findsOrders_13 rfl (lv_at hl 1 rfl) ?_
  refine t_get (C := RX13) (T := TX13) (N := 37) X hT m0 g0 rfl rfl 29 (by decide) qw_120 inlX13 rfl dX13_findsOrders_14 (fun v72928 hv72928 ov72928 => ?_)
  obtain rfl : v72928 = .ref x1 := hv72928.symm.trans pf1
  refine lv_iload_n hx hb dX13_findsOrders_17 rfl (lv_at hl 0 rfl) ?_
  refine lv_iload_n hx hb dX13_findsOrders_18 rfl (lv_at hl 0 rfl) ?_
  refine t_ist X hT mx1 gx1 rfl (by decide) (show 0 ≤ (2 : Int32).toInt ∧ (2 : Int32).toInt ≤ 5 from (by decide)) dX13_findsOrders_19 (fun F H locs hT v72929 h1v72929 h2v72929 => ?_)
  have pf0 := (h2v72929 _ _).trans pf0
  have pf1 := (h2v72929 _ _).trans pf1
  have v72900 := (h2v72929 _ _).trans v72900
  have k72930 : (2 : Int32).toInt = 2 := by decide
  have k72931 : (0 : Int32).toInt = 0 := by decide
  have v72902 := (h1v72929 _ _ (Or.inr (ine (by omega) (by omega) (by omega)))).trans v72902
  have hv72903 := (h2v72929 _ _).trans hv72903
  have hv72906 := (h2v72929 _ _).trans hv72906
  have hv72909 := (h2v72929 _ _).trans hv72909
  have v72911 := (h1v72929 _ _ (Or.inl (tne gb72910 gx1 (by decide)))).trans v72911
  have k72932 : (2 : Int32).toInt = 2 := by decide
  have k72933 : (1 : Int32).toInt = 1 := by decide
  have v72913 := (h1v72929 _ _ (Or.inr (ine (by omega) (by omega) (by omega)))).trans v72913
  have v72925 := (h1v72929 _ _ (Or.inl (tne gb72910 gx1 (by decide)))).trans v72925
  have hfr : (∀ b j : Nat, (tag b ≠ 46 ∨ j ≠ 36) → fld F b j = fld Fo b j) ∧ (∀ b j : Nat, tag b ≠ 33 → tag b ≠ 43 → elm F b j = elm Fo b j) := ⟨fun b j n46_36 => (h2v72929 b j).trans (hfr.1 b j n46_36), fun b j a33 a43 => (h1v72929 b j (Or.inl (at_ne gx1 a43))).trans (hfr.2 b j a33 a43)⟩
  refine lv_aload_n hx hb dX13_findsOrders_20 rfl (lv_at hl 1 rfl) ?_
  refine t_get (C := RX13) (T := TX13) (N := 37) X hT m0 g0 rfl rfl 30 (by decide) qw_121 inlX13 rfl dX13_findsOrders_21 (fun v72934 hv72934 ov72934 => ?_)
  obtain rfl : v72934 = .ref b72904 := hv72934.symm.trans hv72903
  refine lv_iload_n hx hb dX13_findsOrders_24 rfl (lv_at hl 0 rfl) ?_
  refine lv_bipush (v := (-2)) hx hb dX13_findsOrders_25 (by decide) ?_
  refine t_ist X hT mb72904 gb72904 rfl (by decide) (show (-2147483648) ≤ ((-2) : Int32).toInt ∧ ((-2) : Int32).toInt ≤ 2147483647 from (rg_all _)) dX13_findsOrders_27 (fun F H locs hT v72935 h1v72935 h2v72935 => ?_)
  have pf0 := (h2v72935 _ _).trans pf0
  have pf1 := (h2v72935 _ _).trans pf1
  have v72900 := (h2v72935 _ _).trans v72900
  have v72902 := (h1v72935 _ _ (Or.inl (tne gx1 gb72904 (by decide)))).trans v72902
  have hv72903 := (h2v72935 _ _).trans hv72903
  have hv72906 := (h2v72935 _ _).trans hv72906
  have hv72909 := (h2v72935 _ _).trans hv72909
  have k72936 : (2 : Int32).toInt = 2 := by decide
  have k72937 : (0 : Int32).toInt = 0 := by decide
  have v72911 := (h1v72935 _ _ (Or.inr (ine (by omega) (by omega) (by omega)))).trans v72911
  have v72913 := (h1v72935 _ _ (Or.inl (tne gx1 gb72904 (by decide)))).trans v72913
  have k72938 : (2 : Int32).toInt = 2 := by decide
  have k72939 : (1 : Int32).toInt = 1 := by decide
  have v72925 := (h1v72935 _ _ (Or.inr (ine (by omega) (by omega) (by omega)))).trans v72925
  have v72929 := (h1v72935 _ _ (Or.inl (tne gx1 gb72904 (by decide)))).trans v72929
  have hfr : (∀ b j : Nat, (tag b ≠ 46 ∨ j ≠ 36) → fld F b j = fld Fo b j) ∧ (∀ b j : Nat, tag b ≠ 33 → tag b ≠ 43 → elm F b j = elm Fo b j) := ⟨fun b j n46_36 => (h2v72935 b j).trans (hfr.1 b j n46_36), fun b j a33 a43 => (h1v72935 b j (Or.inl (at_ne gb72904 a33))).trans (hfr.2 b j a33 a43)⟩
  refine lv_aload_n hx hb dX13_findsOrders_28 rfl (lv_at hl 1 rfl) ?_
  refine t_get (C := RX13) (T := TX13) (N := 37) X hT m0 g0 rfl rfl 31 (by decide) qw_122 inlX13 rfl dX13_findsOrders_29 (fun v72940 hv72940 ov72940 => ?_)
  obtain rfl : v72940 = .ref b72907 := hv72940.symm.trans hv72906
  refine lv_iload_n hx hb dX13_findsOrders_32 rfl (lv_at hl 0 rfl) ?_
  refine lv_bipush (v := (-2)) hx hb dX13_findsOrders_33 (by decide) ?_
  refine t_ist X hT mb72907 gb72907 rfl (by decide) (show (-2147483648) ≤ ((-2) : Int32).toInt ∧ ((-2) : Int32).toInt ≤ 2147483647 from (rg_all _)) dX13_findsOrders_35 (fun F H locs hT v72941 h1v72941 h2v72941 => ?_)
  have pf0 := (h2v72941 _ _).trans pf0
  have pf1 := (h2v72941 _ _).trans pf1
  have v72900 := (h2v72941 _ _).trans v72900
  have v72902 := (h1v72941 _ _ (Or.inl (tne gx1 gb72907 (by decide)))).trans v72902
  have hv72903 := (h2v72941 _ _).trans hv72903
  have hv72906 := (h2v72941 _ _).trans hv72906
  have hv72909 := (h2v72941 _ _).trans hv72909
  have k72942 : (2 : Int32).toInt = 2 := by decide
  have k72943 : (0 : Int32).toInt = 0 := by decide
  have v72911 := (h1v72941 _ _ (Or.inr (ine (by omega) (by omega) (by omega)))).trans v72911
  have v72913 := (h1v72941 _ _ (Or.inl (tne gx1 gb72907 (by decide)))).trans v72913
  have k72944 : (2 : Int32).toInt = 2 := by decide
  have k72945 : (1 : Int32).toInt = 1 := by decide
  have v72925 := (h1v72941 _ _ (Or.inr (ine (by omega) (by omega) (by omega)))).trans v72925
  have v72929 := (h1v72941 _ _ (Or.inl (tne gx1 gb72907 (by decide)))).trans v72929
  have hfr : (∀ b j : Nat, (tag b ≠ 46 ∨ j ≠ 36) → fld F b j = fld Fo b j) ∧ (∀ b j : Nat, tag b ≠ 33 → tag b ≠ 43 → elm F b j = elm Fo b j) := ⟨fun b j n46_36 => (h2v72941 b j).trans (hfr.1 b j n46_36), fun b j a33 a43 => (h1v72941 b j (Or.inl (at_ne gb72907 a33))).trans (hfr.2 b j a33 a43)⟩
  refine lv_aload_n hx hb dX13_findsOrders_36 rfl (lv_at hl 1 rfl) ?_
  refine t_get (C := RX13) (T := TX13) (N := 37) X hT m0 g0 rfl rfl 32 (by decide) qw_123 inlX13 rfl dX13_findsOrders_37 (fun v72946 hv72946 ov72946 => ?_)
  obtain rfl : v72946 = .ref b72910 := hv72946.symm.trans hv72909
  refine lv_iload_n hx hb dX13_findsOrders_40 rfl (lv_at hl 0 rfl) ?_
  refine lv_bipush (v := 63) hx hb dX13_findsOrders_41 (by decide) ?_
  refine t_ist X hT mb72910 gb72910 rfl (by decide) (show (-2147483648) ≤ (63 : Int32).toInt ∧ (63 : Int32).toInt ≤ 2147483647 from (rg_all _)) dX13_findsOrders_43 (fun F H locs hT v72947 h1v72947 h2v72947 => ?_)
  have pf0 := (h2v72947 _ _).trans pf0
  have pf1 := (h2v72947 _ _).trans pf1
  have v72900 := (h2v72947 _ _).trans v72900
  have v72902 := (h1v72947 _ _ (Or.inl (tne gx1 gb72910 (by decide)))).trans v72902
  have hv72903 := (h2v72947 _ _).trans hv72903
  have hv72906 := (h2v72947 _ _).trans hv72906
  have hv72909 := (h2v72947 _ _).trans hv72909
  have k72948 : (2 : Int32).toInt = 2 := by decide
  have k72949 : (0 : Int32).toInt = 0 := by decide
  have v72911 := (h1v72947 _ _ (Or.inr (ine (by omega) (by omega) (by omega)))).trans v72911
  have v72913 := (h1v72947 _ _ (Or.inl (tne gx1 gb72910 (by decide)))).trans v72913
  have k72950 : (2 : Int32).toInt = 2 := by decide
  have k72951 : (1 : Int32).toInt = 1 := by decide
  have v72925 := (h1v72947 _ _ (Or.inr (ine (by omega) (by omega) (by omega)))).trans v72925
  have v72929 := (h1v72947 _ _ (Or.inl (tne gx1 gb72910 (by decide)))).trans v72929
  have hfr : (∀ b j : Nat, (tag b ≠ 46 ∨ j ≠ 36) → fld F b j = fld Fo b j) ∧ (∀ b j : Nat, tag b ≠ 33 → tag b ≠ 43 → elm F b j = elm Fo b j) := ⟨fun b j n46_36 => (h2v72947 b j).trans (hfr.1 b j n46_36), fun b j a33 a43 => (h1v72947 b j (Or.inl (at_ne gb72910 a33))).trans (hfr.2 b j a33 a43)⟩
  refine lv_iinc (v := 3) (lv' := [(2, .int 3), (0, .ref p0), (1, .int p1)]) hx hb dX13_findsOrders_44 hl (k := 0) rfl (by decide) (by decide) rfl (fun ls hl => ?_)
  refine lv_goto (tgt := 7) hx hb dX13_findsOrders_47 (by decide) ?_
  refine lv_iload_n hx hb dX13_findsOrders_7 rfl (lv_at hl 0 rfl) ?_
  refine lv_bipush (v := 6) hx hb dX13_findsOrders_8 (by decide) ?_
  refine lv_icmp_ge (tgt := 50) hx hb dX13_findsOrders_10 (by decide) (fun c9 => absurd c9 (by decide)) (fun _ => ?_)
  refine lv_aload_n hx hb dX13_findsOrders_13 rfl (lv_at hl 1 rfl) ?_
  refine t_get (C := RX13) (T := TX13) (N := 37) X hT m0 g0 rfl rfl 29 (by decide) qw_120 inlX13 rfl dX13_findsOrders_14 (fun v72952 hv72952 ov72952 => ?_)
  obtain rfl : v72952 = .ref x1 := hv72952.symm.trans pf1
  refine lv_iload_n hx hb dX13_findsOrders_17 rfl (lv_at hl 0 rfl) ?_
  refine lv_iload_n hx hb dX13_findsOrders_18 rfl (lv_at hl 0 rfl) ?_
  refine t_ist X hT mx1 gx1 rfl (by decide) (show 0 ≤ (3 : Int32).toInt ∧ (3 : Int32).toInt ≤ 5 from (by decide)) dX13_findsOrders_19 (fun F H locs hT v72953 h1v72953 h2v72953 => ?_)
  have pf0 := (h2v72953 _ _).trans pf0
  have pf1 := (h2v72953 _ _).trans pf1
  have v72900 := (h2v72953 _ _).trans v72900
  have k72954 : (3 : Int32).toInt = 3 := by decide
  have k72955 : (0 : Int32).toInt = 0 := by decide
  have v72902 := (h1v72953 _ _ (Or.inr (ine (by omega) (by omega) (by omega)))).trans v72902
  have hv72903 := (h2v72953 _ _).trans hv72903
  have hv72906 := (h2v72953 _ _).trans hv72906
  have hv72909 := (h2v72953 _ _).trans hv72909
  have v72911 := (h1v72953 _ _ (Or.inl (tne gb72910 gx1 (by decide)))).trans v72911
  have k72956 : (3 : Int32).toInt = 3 := by decide
  have k72957 : (1 : Int32).toInt = 1 := by decide
  have v72913 := (h1v72953 _ _ (Or.inr (ine (by omega) (by omega) (by omega)))).trans v72913
  have v72925 := (h1v72953 _ _ (Or.inl (tne gb72910 gx1 (by decide)))).trans v72925
  have k72958 : (3 : Int32).toInt = 3 := by decide
  have k72959 : (2 : Int32).toInt = 2 := by decide
  have v72929 := (h1v72953 _ _ (Or.inr (ine (by omega) (by omega) (by omega)))).trans v72929
  have v72947 := (h1v72953 _ _ (Or.inl (tne gb72910 gx1 (by decide)))).trans v72947
  have hfr : (∀ b j : Nat, (tag b ≠ 46 ∨ j ≠ 36) → fld F b j = fld Fo b j) ∧ (∀ b j : Nat, tag b ≠ 33 → tag b ≠ 43 → elm F b j = elm Fo b j) := ⟨fun b j n46_36 => (h2v72953 b j).trans (hfr.1 b j n46_36), fun b j a33 a43 => (h1v72953 b j (Or.inl (at_ne gx1 a43))).trans (hfr.2 b j a33 a43)⟩
  refine lv_aload_n hx hb dX13_findsOrders_20 rfl (lv_at hl 1 rfl) ?_
  refine t_get (C := RX13) (T := TX13) (N := 37) X hT m0 g0 rfl rfl 30 (by decide) qw_121 inlX13 rfl dX13_findsOrders_21 (fun v72960 hv72960 ov72960 => ?_)
  obtain rfl : v72960 = .ref b72904 := hv72960.symm.trans hv72903
  refine lv_iload_n hx hb dX13_findsOrders_24 rfl (lv_at hl 0 rfl) ?_
  refine lv_bipush (v := (-2)) hx hb dX13_findsOrders_25 (by decide) ?_
  refine t_ist X hT mb72904 gb72904 rfl (by decide) (show (-2147483648) ≤ ((-2) : Int32).toInt ∧ ((-2) : Int32).toInt ≤ 2147483647 from (rg_all _)) dX13_findsOrders_27 (fun F H locs hT v72961 h1v72961 h2v72961 => ?_)
  have pf0 := (h2v72961 _ _).trans pf0
  have pf1 := (h2v72961 _ _).trans pf1
  have v72900 := (h2v72961 _ _).trans v72900
  have v72902 := (h1v72961 _ _ (Or.inl (tne gx1 gb72904 (by decide)))).trans v72902
  have hv72903 := (h2v72961 _ _).trans hv72903
  have hv72906 := (h2v72961 _ _).trans hv72906
  have hv72909 := (h2v72961 _ _).trans hv72909
  have k72962 : (3 : Int32).toInt = 3 := by decide
  have k72963 : (0 : Int32).toInt = 0 := by decide
  have v72911 := (h1v72961 _ _ (Or.inr (ine (by omega) (by omega) (by omega)))).trans v72911
  have v72913 := (h1v72961 _ _ (Or.inl (tne gx1 gb72904 (by decide)))).trans v72913
  have k72964 : (3 : Int32).toInt = 3 := by decide
  have k72965 : (1 : Int32).toInt = 1 := by decide
  have v72925 := (h1v72961 _ _ (Or.inr (ine (by omega) (by omega) (by omega)))).trans v72925
  have v72929 := (h1v72961 _ _ (Or.inl (tne gx1 gb72904 (by decide)))).trans v72929
  have k72966 : (3 : Int32).toInt = 3 := by decide
  have k72967 : (2 : Int32).toInt = 2 := by decide
  have v72947 := (h1v72961 _ _ (Or.inr (ine (by omega) (by omega) (by omega)))).trans v72947
  have v72953 := (h1v72961 _ _ (Or.inl (tne gx1 gb72904 (by decide)))).trans v72953
  have hfr : (∀ b j : Nat, (tag b ≠ 46 ∨ j ≠ 36) → fld F b j = fld Fo b j) ∧ (∀ b j : Nat, tag b ≠ 33 → tag b ≠ 43 → elm F b j = elm Fo b j) := ⟨fun b j n46_36 => (h2v72961 b j).trans (hfr.1 b j n46_36), fun b j a33 a43 => (h1v72961 b j (Or.inl (at_ne gb72904 a33))).trans (hfr.2 b j a33 a43)⟩
  refine lv_aload_n hx hb dX13_findsOrders_28 rfl (lv_at hl 1 rfl) ?_
  refine t_get (C := RX13) (T := TX13) (N := 37) X hT m0 g0 rfl rfl 31 (by decide) qw_122 inlX13 rfl dX13_findsOrders_29 (fun v72968 hv72968 ov72968 => ?_)
  obtain rfl : v72968 = .ref b72907 := hv72968.symm.trans hv72906
  refine lv_iload_n hx hb dX13_findsOrders_32 rfl (lv_at hl 0 rfl) ?_
  refine lv_bipush (v := (-2)) hx hb dX13_findsOrders_33 (by decide) ?_
  refine t_ist X hT mb72907 gb72907 rfl (by decide) (show (-2147483648) ≤ ((-2) : Int32).toInt ∧ ((-2) : Int32).toInt ≤ 2147483647 from (rg_all _)) dX13_findsOrders_35 (fun F H locs hT v72969 h1v72969 h2v72969 => ?_)
  have pf0 := (h2v72969 _ _).trans pf0
  have pf1 := (h2v72969 _ _).trans pf1
  have v72900 := (h2v72969 _ _).trans v72900
  have v72902 := (h1v72969 _ _ (Or.inl (tne gx1 gb72907 (by decide)))).trans v72902
  have hv72903 := (h2v72969 _ _).trans hv72903
  have hv72906 := (h2v72969 _ _).trans hv72906
  have hv72909 := (h2v72969 _ _).trans hv72909
  have k72970 : (3 : Int32).toInt = 3 := by decide
  have k72971 : (0 : Int32).toInt = 0 := by decide
  have v72911 := (h1v72969 _ _ (Or.inr (ine (by omega) (by omega) (by omega)))).trans v72911
  have v72913 := (h1v72969 _ _ (Or.inl (tne gx1 gb72907 (by decide)))).trans v72913
  have k72972 : (3 : Int32).toInt = 3 := by decide
  have k72973 : (1 : Int32).toInt = 1 := by decide
  have v72925 := (h1v72969 _ _ (Or.inr (ine (by omega) (by omega) (by omega)))).trans v72925
  have v72929 := (h1v72969 _ _ (Or.inl (tne gx1 gb72907 (by decide)))).trans v72929
  have k72974 : (3 : Int32).toInt = 3 := by decide
  have k72975 : (2 : Int32).toInt = 2 := by decide
  have v72947 := (h1v72969 _ _ (Or.inr (ine (by omega) (by omega) (by omega)))).trans v72947
  have v72953 := (h1v72969 _ _ (Or.inl (tne gx1 gb72907 (by decide)))).trans v72953
  have hfr : (∀ b j : Nat, (tag b ≠ 46 ∨ j ≠ 36) → fld F b j = fld Fo b j) ∧ (∀ b j : Nat, tag b ≠ 33 → tag b ≠ 43 → elm F b j = elm Fo b j) := ⟨fun b j n46_36 => (h2v72969 b j).trans (hfr.1 b j n46_36), fun b j a33 a43 => (h1v72969 b j (Or.inl (at_ne gb72907 a33))).trans (hfr.2 b j a33 a43)⟩
  refine lv_aload_n hx hb dX13_findsOrders_36 rfl (lv_at hl 1 rfl) ?_
  refine t_get (C := RX13) (T := TX13) (N := 37) X hT m0 g0 rfl rfl 32 (by decide) qw_123 inlX13 rfl dX13_findsOrders_37 (fun v72976 hv72976 ov72976 => ?_)
  obtain rfl : v72976 = .ref b72910 := hv72976.symm.trans hv72909
  refine lv_iload_n hx hb dX13_findsOrders_40 rfl (lv_at hl 0 rfl) ?_
  refine lv_bipush (v := 63) hx hb dX13_findsOrders_41 (by decide) ?_
  refine t_ist X hT mb72910 gb72910 rfl (by decide) (show (-2147483648) ≤ (63 : Int32).toInt ∧ (63 : Int32).toInt ≤ 2147483647 from (rg_all _)) dX13_findsOrders_43 (fun F H locs hT v72977 h1v72977 h2v72977 => ?_)
  have pf0 := (h2v72977 _ _).trans pf0
  have pf1 := (h2v72977 _ _).trans pf1
  have v72900 := (h2v72977 _ _).trans v72900
  have v72902 := (h1v72977 _ _ (Or.inl (tne gx1 gb72910 (by decide)))).trans v72902
  have hv72903 := (h2v72977 _ _).trans hv72903
  have hv72906 := (h2v72977 _ _).trans hv72906
  have hv72909 := (h2v72977 _ _).trans hv72909
  have k72978 : (3 : Int32).toInt = 3 := by decide
  have k72979 : (0 : Int32).toInt = 0 := by decide
  have v72911 := (h1v72977 _ _ (Or.inr (ine (by omega) (by omega) (by omega)))).trans v72911
  have v72913 := (h1v72977 _ _ (Or.inl (tne gx1 gb72910 (by decide)))).trans v72913
  have k72980 : (3 : Int32).toInt = 3 := by decide
  have k72981 : (1 : Int32).toInt = 1 := by decide
  have v72925 := (h1v72977 _ _ (Or.inr (ine (by omega) (by omega) (by omega)))).trans v72925
  have v72929 := (h1v72977 _ _ (Or.inl (tne gx1 gb72910 (by decide)))).trans v72929
  have k72982 : (3 : Int32).toInt = 3 := by decide
  have k72983 : (2 : Int32).toInt = 2 := by decide
  have v72947 := (h1v72977 _ _ (Or.inr (ine (by omega) (by omega) (by omega)))).trans v72947
  have v72953 := (h1v72977 _ _ (Or.inl (tne gx1 gb72910 (by decide)))).trans v72953
  have hfr : (∀ b j : Nat, (tag b ≠ 46 ∨ j ≠ 36) → fld F b j = fld Fo b j) ∧ (∀ b j : Nat, tag b ≠ 33 → tag b ≠ 43 → elm F b j = elm Fo b j) := ⟨fun b j n46_36 => (h2v72977 b j).trans (hfr.1 b j n46_36), fun b j a33 a43 => (h1v72977 b j (Or.inl (at_ne gb72910 a33))).trans (hfr.2 b j a33 a43)⟩
  refine lv_iinc (v := 4) (lv' := [(2, .int 4), (0, .ref p0), (1, .int p1)]) hx hb dX13_findsOrders_44 hl (k := 0) rfl (by decide) (by decide) rfl (fun ls hl => ?_)
  refine lv_goto (tgt := 7) hx hb dX13_findsOrders_47 (by decide) ?_
  refine lv_iload_n hx hb dX13_findsOrders_7 rfl (lv_at hl 0 rfl) ?_
  refine lv_bipush (v := 6) hx hb dX13_findsOrders_8 (by decide) ?_
  refine lv_icmp_ge (tgt := 50) hx hb dX13_findsOrders_10 (by decide) (fun c9 => absurd c9 (by decide)) (fun _ => ?_)
  refine lv_aload_n hx hb dX13_findsOrders_13 rfl (lv_at hl 1 rfl) ?_
  refine t_get (C := RX13) (T := TX13) (N := 37) X hT m0 g0 rfl rfl 29 (by decide) qw_120 inlX13 rfl dX13_findsOrders_14 (fun v72984 hv72984 ov72984 => ?_)
  obtain rfl : v72984 = .ref x1 := hv72984.symm.trans pf1
  refine lv_iload_n hx hb dX13_findsOrders_17 rfl (lv_at hl 0 rfl) ?_
  refine lv_iload_n hx hb dX13_findsOrders_18 rfl (lv_at hl 0 rfl) ?_
  refine t_ist X hT mx1 gx1 rfl (by decide) (show 0 ≤ (4 : Int32).toInt ∧ (4 : Int32).toInt ≤ 5 from (by decide)) dX13_findsOrders_19 (fun F H locs hT v72985 h1v72985 h2v72985 => ?_)
  have pf0 := (h2v72985 _ _).trans pf0
  have pf1 := (h2v72985 _ _).trans pf1
  have v72900 := (h2v72985 _ _).trans v72900
  have k72986 : (4 : Int32).toInt = 4 := by decide
  have k72987 : (0 : Int32).toInt = 0 := by decide
  have v72902 := (h1v72985 _ _ (Or.inr (ine (by omega) (by omega) (by omega)))).trans v72902
  have hv72903 := (h2v72985 _ _).trans hv72903
  have hv72906 := (h2v72985 _ _).trans hv72906
  have hv72909 := (h2v72985 _ _).trans hv72909
  have v72911 := (h1v72985 _ _ (Or.inl (tne gb72910 gx1 (by decide)))).trans v72911
  have k72988 : (4 : Int32).toInt = 4 := by decide
  have k72989 : (1 : Int32).toInt = 1 := by decide
  have v72913 := (h1v72985 _ _ (Or.inr (ine (by omega) (by omega) (by omega)))).trans v72913
  have v72925 := (h1v72985 _ _ (Or.inl (tne gb72910 gx1 (by decide)))).trans v72925
  have k72990 : (4 : Int32).toInt = 4 := by decide
  have k72991 : (2 : Int32).toInt = 2 := by decide
  have v72929 := (h1v72985 _ _ (Or.inr (ine (by omega) (by omega) (by omega)))).trans v72929
  have v72947 := (h1v72985 _ _ (Or.inl (tne gb72910 gx1 (by decide)))).trans v72947
  have k72992 : (4 : Int32).toInt = 4 := by decide
  have k72993 : (3 : Int32).toInt = 3 := by decide
  have v72953 := (h1v72985 _ _ (Or.inr (ine (by omega) (by omega) (by omega)))).trans v72953
  have v72977 := (h1v72985 _ _ (Or.inl (tne gb72910 gx1 (by decide)))).trans v72977
  have hfr : (∀ b j : Nat, (tag b ≠ 46 ∨ j ≠ 36) → fld F b j = fld Fo b j) ∧ (∀ b j : Nat, tag b ≠ 33 → tag b ≠ 43 → elm F b j = elm Fo b j) := ⟨fun b j n46_36 => (h2v72985 b j).trans (hfr.1 b j n46_36), fun b j a33 a43 => (h1v72985 b j (Or.inl (at_ne gx1 a43))).trans (hfr.2 b j a33 a43)⟩
  refine lv_aload_n hx hb dX13_findsOrders_20 rfl (lv_at hl 1 rfl) ?_
  refine t_get (C := RX13) (T := TX13) (N := 37) X hT m0 g0 rfl rfl 30 (by decide) qw_121 inlX13 rfl dX13_findsOrders_21 (fun v72994 hv72994 ov72994 => ?_)
  obtain rfl : v72994 = .ref b72904 := hv72994.symm.trans hv72903
  refine lv_iload_n hx hb dX13_findsOrders_24 rfl (lv_at hl 0 rfl) ?_
  refine lv_bipush (v := (-2)) hx hb dX13_findsOrders_25 (by decide) ?_
  refine t_ist X hT mb72904 gb72904 rfl (by decide) (show (-2147483648) ≤ ((-2) : Int32).toInt ∧ ((-2) : Int32).toInt ≤ 2147483647 from (rg_all _)) dX13_findsOrders_27 (fun F H locs hT v72995 h1v72995 h2v72995 => ?_)
  have pf0 := (h2v72995 _ _).trans pf0
  have pf1 := (h2v72995 _ _).trans pf1
  have v72900 := (h2v72995 _ _).trans v72900
  have v72902 := (h1v72995 _ _ (Or.inl (tne gx1 gb72904 (by decide)))).trans v72902
  have hv72903 := (h2v72995 _ _).trans hv72903
  have hv72906 := (h2v72995 _ _).trans hv72906
  have hv72909 := (h2v72995 _ _).trans hv72909
  have k72996 : (4 : Int32).toInt = 4 := by decide
  have k72997 : (0 : Int32).toInt = 0 := by decide
  have v72911 := (h1v72995 _ _ (Or.inr (ine (by omega) (by omega) (by omega)))).trans v72911
  have v72913 := (h1v72995 _ _ (Or.inl (tne gx1 gb72904 (by decide)))).trans v72913
  have k72998 : (4 : Int32).toInt = 4 := by decide
  have k72999 : (1 : Int32).toInt = 1 := by decide
  have v72925 := (h1v72995 _ _ (Or.inr (ine (by omega) (by omega) (by omega)))).trans v72925
  have v72929 := (h1v72995 _ _ (Or.inl (tne gx1 gb72904 (by decide)))).trans v72929
  have k73000 : (4 : Int32).toInt = 4 := by decide
  have k73001 : (2 : Int32).toInt = 2 := by decide
  have v72947 := (h1v72995 _ _ (Or.inr (ine (by omega) (by omega) (by omega)))).trans v72947
  have v72953 := (h1v72995 _ _ (Or.inl (tne gx1 gb72904 (by decide)))).trans v72953
  have k73002 : (4 : Int32).toInt = 4 := by decide
  have k73003 : (3 : Int32).toInt = 3 := by decide
  have v72977 := (h1v72995 _ _ (Or.inr (ine (by omega) (by omega) (by omega)))).trans v72977
  have v72985 := (h1v72995 _ _ (Or.inl (tne gx1 gb72904 (by decide)))).trans v72985
  have hfr : (∀ b j : Nat, (tag b ≠ 46 ∨ j ≠ 36) → fld F b j = fld Fo b j) ∧ (∀ b j : Nat, tag b ≠ 33 → tag b ≠ 43 → elm F b j = elm Fo b j) := ⟨fun b j n46_36 => (h2v72995 b j).trans (hfr.1 b j n46_36), fun b j a33 a43 => (h1v72995 b j (Or.inl (at_ne gb72904 a33))).trans (hfr.2 b j a33 a43)⟩
  refine lv_aload_n hx hb dX13_findsOrders_28 rfl (lv_at hl 1 rfl) ?_
  refine t_get (C := RX13) (T := TX13) (N := 37) X hT m0 g0 rfl rfl 31 (by decide) qw_122 inlX13 rfl dX13_findsOrders_29 (fun v73004 hv73004 ov73004 => ?_)
  obtain rfl : v73004 = .ref b72907 := hv73004.symm.trans hv72906
  refine lv_iload_n hx hb dX13_findsOrders_32 rfl (lv_at hl 0 rfl) ?_
  refine lv_bipush (v := (-2)) hx hb dX13_findsOrders_33 (by decide) ?_
  refine t_ist X hT mb72907 gb72907 rfl (by decide) (show (-2147483648) ≤ ((-2) : Int32).toInt ∧ ((-2) : Int32).toInt ≤ 2147483647 from (rg_all _)) dX13_findsOrders_35 (fun F H locs hT v73005 h1v73005 h2v73005 => ?_)
  have pf0 := (h2v73005 _ _).trans pf0
  have pf1 := (h2v73005 _ _).trans pf1
  have v72900 := (h2v73005 _ _).trans v72900
  have v72902 := (h1v73005 _ _ (Or.inl (tne gx1 gb72907 (by decide)))).trans v72902
  have hv72903 := (h2v73005 _ _).trans hv72903
  have hv72906 := (h2v73005 _ _).trans hv72906
  have hv72909 := (h2v73005 _ _).trans hv72909
  have k73006 : (4 : Int32).toInt = 4 := by decide
  have k73007 : (0 : Int32).toInt = 0 := by decide
  have v72911 := (h1v73005 _ _ (Or.inr (ine (by omega) (by omega) (by omega)))).trans v72911
  have v72913 := (h1v73005 _ _ (Or.inl (tne gx1 gb72907 (by decide)))).trans v72913
  have k73008 : (4 : Int32).toInt = 4 := by decide
  have k73009 : (1 : Int32).toInt = 1 := by decide
  have v72925 := (h1v73005 _ _ (Or.inr (ine (by omega) (by omega) (by omega)))).trans v72925
  have v72929 := (h1v73005 _ _ (Or.inl (tne gx1 gb72907 (by decide)))).trans v72929
  have k73010 : (4 : Int32).toInt = 4 := by decide
  have k73011 : (2 : Int32).toInt = 2 := by decide
  have v72947 := (h1v73005 _ _ (Or.inr (ine (by omega) (by omega) (by omega)))).trans v72947
  have v72953 := (h1v73005 _ _ (Or.inl (tne gx1 gb72907 (by decide)))).trans v72953
  have k73012 : (4 : Int32).toInt = 4 := by decide
  have k73013 : (3 : Int32).toInt = 3 := by decide
  have v72977 := (h1v73005 _ _ (Or.inr (ine (by omega) (by omega) (by omega)))).trans v72977
  have v72985 := (h1v73005 _ _ (Or.inl (tne gx1 gb72907 (by decide)))).trans v72985
  have hfr : (∀ b j : Nat, (tag b ≠ 46 ∨ j ≠ 36) → fld F b j = fld Fo b j) ∧ (∀ b j : Nat, tag b ≠ 33 → tag b ≠ 43 → elm F b j = elm Fo b j) := ⟨fun b j n46_36 => (h2v73005 b j).trans (hfr.1 b j n46_36), fun b j a33 a43 => (h1v73005 b j (Or.inl (at_ne gb72907 a33))).trans (hfr.2 b j a33 a43)⟩
  refine lv_aload_n hx hb dX13_findsOrders_36 rfl (lv_at hl 1 rfl) ?_
  refine t_get (C := RX13) (T := TX13) (N := 37) X hT m0 g0 rfl rfl 32 (by decide) qw_123 inlX13 rfl dX13_findsOrders_37 (fun v73014 hv73014 ov73014 => ?_)
  obtain rfl : v73014 = .ref b72910 := hv73014.symm.trans hv72909
  refine lv_iload_n hx hb dX13_findsOrders_40 rfl (lv_at hl 0 rfl) ?_
  refine lv_bipush (v := 63) hx hb dX13_findsOrders_41 (by decide) ?_
  refine t_ist X hT mb72910 gb72910 rfl (by decide) (show (-2147483648) ≤ (63 : Int32).toInt ∧ (63 : Int32).toInt ≤ 2147483647 from (rg_all _)) dX13_findsOrders_43 (fun F H locs hT v73015 h1v73015 h2v73015 => ?_)
  have pf0 := (h2v73015 _ _).trans pf0
  have pf1 := (h2v73015 _ _).trans pf1
  have v72900 := (h2v73015 _ _).trans v72900
  have v72902 := (h1v73015 _ _ (Or.inl (tne gx1 gb72910 (by decide)))).trans v72902
  have hv72903 := (h2v73015 _ _).trans hv72903
  have hv72906 := (h2v73015 _ _).trans hv72906
  have hv72909 := (h2v73015 _ _).trans hv72909
  have k73016 : (4 : Int32).toInt = 4 := by decide
  have k73017 : (0 : Int32).toInt = 0 := by decide
  have v72911 := (h1v73015 _ _ (Or.inr (ine (by omega) (by omega) (by omega)))).trans v72911
  have v72913 := (h1v73015 _ _ (Or.inl (tne gx1 gb72910 (by decide)))).trans v72913
  have k73018 : (4 : Int32).toInt = 4 := by decide
  have k73019 : (1 : Int32).toInt = 1 := by decide
  have v72925 := (h1v73015 _ _ (Or.inr (ine (by omega) (by omega) (by omega)))).trans v72925
  have v72929 := (h1v73015 _ _ (Or.inl (tne gx1 gb72910 (by decide)))).trans v72929
  have k73020 : (4 : Int32).toInt = 4 := by decide
  have k73021 : (2 : Int32).toInt = 2 := by decide
  have v72947 := (h1v73015 _ _ (Or.inr (ine (by omega) (by omega) (by omega)))).trans v72947
  have v72953 := (h1v73015 _ _ (Or.inl (tne gx1 gb72910 (by decide)))).trans v72953
  have k73022 : (4 : Int32).toInt = 4 := by decide
  have k73023 : (3 : Int32).toInt = 3 := by decide
  have v72977 := (h1v73015 _ _ (Or.inr (ine (by omega) (by omega) (by omega)))).trans v72977
  have v72985 := (h1v73015 _ _ (Or.inl (tne gx1 gb72910 (by decide)))).trans v72985
  have hfr : (∀ b j : Nat, (tag b ≠ 46 ∨ j ≠ 36) → fld F b j = fld Fo b j) ∧ (∀ b j : Nat, tag b ≠ 33 → tag b ≠ 43 → elm F b j = elm Fo b j) := ⟨fun b j n46_36 => (h2v73015 b j).trans (hfr.1 b j n46_36), fun b j a33 a43 => (h1v73015 b j (Or.inl (at_ne gb72910 a33))).trans (hfr.2 b j a33 a43)⟩
  refine lv_iinc (v := 5) (lv' := [(2, .int 5), (0, .ref p0), (1, .int p1)]) hx hb dX13_findsOrders_44 hl (k := 0) rfl (by decide) (by decide) rfl (fun ls hl => ?_)
  refine lv_goto (tgt := 7) hx hb dX13_findsOrders_47 (by decide) ?_
  refine lv_iload_n hx hb dX13_findsOrders_7 rfl (lv_at hl 0 rfl) ?_
  refine lv_bipush (v := 6) hx hb dX13_findsOrders_8 (by decide) ?_
  refine lv_icmp_ge (tgt := 50) hx hb dX13_findsOrders_10 (by decide) (fun c9 => absurd c9 (by decide)) (fun _ => ?_)
  refine lv_aload_n hx hb dX13_findsOrders_13 rfl (lv_at hl 1 rfl) ?_
  refine t_get (C := RX13) (T := TX13) (N := 37) X hT m0 g0 rfl rfl 29 (by decide) qw_120 inlX13 rfl dX13_findsOrders_14 (fun v73024 hv73024 ov73024 => ?_)
  obtain rfl : v73024 = .ref x1 := hv73024.symm.trans pf1
  refine lv_iload_n hx hb dX13_findsOrders_17 rfl (lv_at hl 0 rfl) ?_
  refine lv_iload_n hx hb dX13_findsOrders_18 rfl (lv_at hl 0 rfl) ?_
  refine t_ist X hT mx1 gx1 rfl (by decide) (show 0 ≤ (5 : Int32).toInt ∧ (5 : Int32).toInt ≤ 5 from (by decide)) dX13_findsOrders_19 (fun F H locs hT v73025 h1v73025 h2v73025 => ?_)
  have pf0 := (h2v73025 _ _).trans pf0
  have pf1 := (h2v73025 _ _).trans pf1
  have v72900 := (h2v73025 _ _).trans v72900
  have k73026 : (5 : Int32).toInt = 5 := by decide
  have k73027 : (0 : Int32).toInt = 0 := by decide
  have v72902 := (h1v73025 _ _ (Or.inr (ine (by omega) (by omega) (by omega)))).trans v72902
  have hv72903 := (h2v73025 _ _).trans hv72903
  have hv72906 := (h2v73025 _ _).trans hv72906
  have hv72909 := (h2v73025 _ _).trans hv72909
  have v72911 := (h1v73025 _ _ (Or.inl (tne gb72910 gx1 (by decide)))).trans v72911
  have k73028 : (5 : Int32).toInt = 5 := by decide
  have k73029 : (1 : Int32).toInt = 1 := by decide
  have v72913 := (h1v73025 _ _ (Or.inr (ine (by omega) (by omega) (by omega)))).trans v72913
  have v72925 := (h1v73025 _ _ (Or.inl (tne gb72910 gx1 (by decide)))).trans v72925
  have k73030 : (5 : Int32).toInt = 5 := by decide
  have k73031 : (2 : Int32).toInt = 2 := by decide
  have v72929 := (h1v73025 _ _ (Or.inr (ine (by omega) (by omega) (by omega)))).trans v72929
  have v72947 := (h1v73025 _ _ (Or.inl (tne gb72910 gx1 (by decide)))).trans v72947
  have k73032 : (5 : Int32).toInt = 5 := by decide
  have k73033 : (3 : Int32).toInt = 3 := by decide
  have v72953 := (h1v73025 _ _ (Or.inr (ine (by omega) (by omega) (by omega)))).trans v72953
  have v72977 := (h1v73025 _ _ (Or.inl (tne gb72910 gx1 (by decide)))).trans v72977
  have k73034 : (5 : Int32).toInt = 5 := by decide
  have k73035 : (4 : Int32).toInt = 4 := by decide
  have v72985 := (h1v73025 _ _ (Or.inr (ine (by omega) (by omega) (by omega)))).trans v72985
  have v73015 := (h1v73025 _ _ (Or.inl (tne gb72910 gx1 (by decide)))).trans v73015
  have hfr : (∀ b j : Nat, (tag b ≠ 46 ∨ j ≠ 36) → fld F b j = fld Fo b j) ∧ (∀ b j : Nat, tag b ≠ 33 → tag b ≠ 43 → elm F b j = elm Fo b j) := ⟨fun b j n46_36 => (h2v73025 b j).trans (hfr.1 b j n46_36), fun b j a33 a43 => (h1v73025 b j (Or.inl (at_ne gx1 a43))).trans (hfr.2 b j a33 a43)⟩
  refine lv_aload_n hx hb dX13_findsOrders_20 rfl (lv_at hl 1 rfl) ?_
  refine t_get (C := RX13) (T := TX13) (N := 37) X hT m0 g0 rfl rfl 30 (by decide) qw_121 inlX13 rfl dX13_findsOrders_21 (fun v73036 hv73036 ov73036 => ?_)
  obtain rfl : v73036 = .ref b72904 := hv73036.symm.trans hv72903
  refine lv_iload_n hx hb dX13_findsOrders_24 rfl (lv_at hl 0 rfl) ?_
  refine lv_bipush (v := (-2)) hx hb dX13_findsOrders_25 (by decide) ?_
  refine t_ist X hT mb72904 gb72904 rfl (by decide) (show (-2147483648) ≤ ((-2) : Int32).toInt ∧ ((-2) : Int32).toInt ≤ 2147483647 from (rg_all _)) dX13_findsOrders_27 (fun F H locs hT v73037 h1v73037 h2v73037 => ?_)
  have pf0 := (h2v73037 _ _).trans pf0
  have pf1 := (h2v73037 _ _).trans pf1
  have v72900 := (h2v73037 _ _).trans v72900
  have v72902 := (h1v73037 _ _ (Or.inl (tne gx1 gb72904 (by decide)))).trans v72902
  have hv72903 := (h2v73037 _ _).trans hv72903
  have hv72906 := (h2v73037 _ _).trans hv72906
  have hv72909 := (h2v73037 _ _).trans hv72909
  have k73038 : (5 : Int32).toInt = 5 := by decide
  have k73039 : (0 : Int32).toInt = 0 := by decide
  have v72911 := (h1v73037 _ _ (Or.inr (ine (by omega) (by omega) (by omega)))).trans v72911
  have v72913 := (h1v73037 _ _ (Or.inl (tne gx1 gb72904 (by decide)))).trans v72913
  have k73040 : (5 : Int32).toInt = 5 := by decide
  have k73041 : (1 : Int32).toInt = 1 := by decide
  have v72925 := (h1v73037 _ _ (Or.inr (ine (by omega) (by omega) (by omega)))).trans v72925
  have v72929 := (h1v73037 _ _ (Or.inl (tne gx1 gb72904 (by decide)))).trans v72929
  have k73042 : (5 : Int32).toInt = 5 := by decide
  have k73043 : (2 : Int32).toInt = 2 := by decide
  have v72947 := (h1v73037 _ _ (Or.inr (ine (by omega) (by omega) (by omega)))).trans v72947
  have v72953 := (h1v73037 _ _ (Or.inl (tne gx1 gb72904 (by decide)))).trans v72953
  have k73044 : (5 : Int32).toInt = 5 := by decide
  have k73045 : (3 : Int32).toInt = 3 := by decide
  have v72977 := (h1v73037 _ _ (Or.inr (ine (by omega) (by omega) (by omega)))).trans v72977
  have v72985 := (h1v73037 _ _ (Or.inl (tne gx1 gb72904 (by decide)))).trans v72985
  have k73046 : (5 : Int32).toInt = 5 := by decide
  have k73047 : (4 : Int32).toInt = 4 := by decide
  have v73015 := (h1v73037 _ _ (Or.inr (ine (by omega) (by omega) (by omega)))).trans v73015
  have v73025 := (h1v73037 _ _ (Or.inl (tne gx1 gb72904 (by decide)))).trans v73025
  have hfr : (∀ b j : Nat, (tag b ≠ 46 ∨ j ≠ 36) → fld F b j = fld Fo b j) ∧ (∀ b j : Nat, tag b ≠ 33 → tag b ≠ 43 → elm F b j = elm Fo b j) := ⟨fun b j n46_36 => (h2v73037 b j).trans (hfr.1 b j n46_36), fun b j a33 a43 => (h1v73037 b j (Or.inl (at_ne gb72904 a33))).trans (hfr.2 b j a33 a43)⟩
  refine lv_aload_n hx hb dX13_findsOrders_28 rfl (lv_at hl 1 rfl) ?_
  refine t_get (C := RX13) (T := TX13) (N := 37) X hT m0 g0 rfl rfl 31 (by decide) qw_122 inlX13 rfl dX13_findsOrders_29 (fun v73048 hv73048 ov73048 => ?_)
  obtain rfl : v73048 = .ref b72907 := hv73048.symm.trans hv72906
  refine lv_iload_n hx hb dX13_findsOrders_32 rfl (lv_at hl 0 rfl) ?_
  refine lv_bipush (v := (-2)) hx hb dX13_findsOrders_33 (by decide) ?_
  refine t_ist X hT mb72907 gb72907 rfl (by decide) (show (-2147483648) ≤ ((-2) : Int32).toInt ∧ ((-2) : Int32).toInt ≤ 2147483647 from (rg_all _)) dX13_findsOrders_35 (fun F H locs hT v73049 h1v73049 h2v73049 => ?_)
  have pf0 := (h2v73049 _ _).trans pf0
  have pf1 := (h2v73049 _ _).trans pf1
  have v72900 := (h2v73049 _ _).trans v72900
  have v72902 := (h1v73049 _ _ (Or.inl (tne gx1 gb72907 (by decide)))).trans v72902
  have hv72903 := (h2v73049 _ _).trans hv72903
  have hv72906 := (h2v73049 _ _).trans hv72906
  have hv72909 := (h2v73049 _ _).trans hv72909
  have k73050 : (5 : Int32).toInt = 5 := by decide
  have k73051 : (0 : Int32).toInt = 0 := by decide
  have v72911 := (h1v73049 _ _ (Or.inr (ine (by omega) (by omega) (by omega)))).trans v72911
  have v72913 := (h1v73049 _ _ (Or.inl (tne gx1 gb72907 (by decide)))).trans v72913
  have k73052 : (5 : Int32).toInt = 5 := by decide
  have k73053 : (1 : Int32).toInt = 1 := by decide
  have v72925 := (h1v73049 _ _ (Or.inr (ine (by omega) (by omega) (by omega)))).trans v72925
  have v72929 := (h1v73049 _ _ (Or.inl (tne gx1 gb72907 (by decide)))).trans v72929
  have k73054 : (5 : Int32).toInt = 5 := by decide
  have k73055 : (2 : Int32).toInt = 2 := by decide
  have v72947 := (h1v73049 _ _ (Or.inr (ine (by omega) (by omega) (by omega)))).trans v72947
  have v72953 := (h1v73049 _ _ (Or.inl (tne gx1 gb72907 (by decide)))).trans v72953
  have k73056 : (5 : Int32).toInt = 5 := by decide
  have k73057 : (3 : Int32).toInt = 3 := by decide
  have v72977 := (h1v73049 _ _ (Or.inr (ine (by omega) (by omega) (by omega)))).trans v72977
  have v72985 := (h1v73049 _ _ (Or.inl (tne gx1 gb72907 (by decide)))).trans v72985
  have k73058 : (5 : Int32).toInt = 5 := by decide
  have k73059 : (4 : Int32).toInt = 4 := by decide
  have v73015 := (h1v73049 _ _ (Or.inr (ine (by omega) (by omega) (by omega)))).trans v73015
  have v73025 := (h1v73049 _ _ (Or.inl (tne gx1 gb72907 (by decide)))).trans v73025
  have hfr : (∀ b j : Nat, (tag b ≠ 46 ∨ j ≠ 36) → fld F b j = fld Fo b j) ∧ (∀ b j : Nat, tag b ≠ 33 → tag b ≠ 43 → elm F b j = elm Fo b j) := ⟨fun b j n46_36 => (h2v73049 b j).trans (hfr.1 b j n46_36), fun b j a33 a43 => (h1v73049 b j (Or.inl (at_ne gb72907 a33))).trans (hfr.2 b j a33 a43)⟩
  refine lv_aload_n hx hb dX13_findsOrders_36 rfl (lv_at hl 1 rfl) ?_
  refine t_get (C := RX13) (T := TX13) (N := 37) X hT m0 g0 rfl rfl 32 (by decide) qw_123 inlX13 rfl dX13_findsOrders_37 (fun v73060 hv73060 ov73060 => ?_)
  obtain rfl : v73060 = .ref b72910 := hv73060.symm.trans hv72909
  refine lv_iload_n hx hb dX13_findsOrders_40 rfl (lv_at hl 0 rfl) ?_
  refine lv_bipush (v := 63) hx hb dX13_findsOrders_41 (by decide) ?_
  refine t_ist X hT mb72910 gb72910 rfl (by decide) (show (-2147483648) ≤ (63 : Int32).toInt ∧ (63 : Int32).toInt ≤ 2147483647 from (rg_all _)) dX13_findsOrders_43 (fun F H locs hT v73061 h1v73061 h2v73061 => ?_)
  have pf0 := (h2v73061 _ _).trans pf0
  have pf1 := (h2v73061 _ _).trans pf1
  have v72900 := (h2v73061 _ _).trans v72900
  have v72902 := (h1v73061 _ _ (Or.inl (tne gx1 gb72910 (by decide)))).trans v72902
  have hv72903 := (h2v73061 _ _).trans hv72903
  have hv72906 := (h2v73061 _ _).trans hv72906
  have hv72909 := (h2v73061 _ _).trans hv72909
  have k73062 : (5 : Int32).toInt = 5 := by decide
  have k73063 : (0 : Int32).toInt = 0 := by decide
  have v72911 := (h1v73061 _ _ (Or.inr (ine (by omega) (by omega) (by omega)))).trans v72911
  have v72913 := (h1v73061 _ _ (Or.inl (tne gx1 gb72910 (by decide)))).trans v72913
  have k73064 : (5 : Int32).toInt = 5 := by decide
  have k73065 : (1 : Int32).toInt = 1 := by decide
  have v72925 := (h1v73061 _ _ (Or.inr (ine (by omega) (by omega) (by omega)))).trans v72925
  have v72929 := (h1v73061 _ _ (Or.inl (tne gx1 gb72910 (by decide)))).trans v72929
  have k73066 : (5 : Int32).toInt = 5 := by decide
  have k73067 : (2 : Int32).toInt = 2 := by decide
  have v72947 := (h1v73061 _ _ (Or.inr (ine (by omega) (by omega) (by omega)))).trans v72947
  have v72953 := (h1v73061 _ _ (Or.inl (tne gx1 gb72910 (by decide)))).trans v72953
  have k73068 : (5 : Int32).toInt = 5 := by decide
  have k73069 : (3 : Int32).toInt = 3 := by decide
  have v72977 := (h1v73061 _ _ (Or.inr (ine (by omega) (by omega) (by omega)))).trans v72977
  have v72985 := (h1v73061 _ _ (Or.inl (tne gx1 gb72910 (by decide)))).trans v72985
  have k73070 : (5 : Int32).toInt = 5 := by decide
  have k73071 : (4 : Int32).toInt = 4 := by decide
  have v73015 := (h1v73061 _ _ (Or.inr (ine (by omega) (by omega) (by omega)))).trans v73015
  have v73025 := (h1v73061 _ _ (Or.inl (tne gx1 gb72910 (by decide)))).trans v73025
  have hfr : (∀ b j : Nat, (tag b ≠ 46 ∨ j ≠ 36) → fld F b j = fld Fo b j) ∧ (∀ b j : Nat, tag b ≠ 33 → tag b ≠ 43 → elm F b j = elm Fo b j) := ⟨fun b j n46_36 => (h2v73061 b j).trans (hfr.1 b j n46_36), fun b j a33 a43 => (h1v73061 b j (Or.inl (at_ne gb72910 a33))).trans (hfr.2 b j a33 a43)⟩
  refine lv_iinc (v := 6) (lv' := [(2, .int 6), (0, .ref p0), (1, .int p1)]) hx hb dX13_findsOrders_44 hl (k := 0) rfl (by decide) (by decide) rfl (fun ls hl => ?_)
  refine lv_goto (tgt := 7) hx hb dX13_findsOrders_47 (by decide) ?_
  refine lv_iload_n hx hb dX13_findsOrders_7 rfl (lv_at hl 0 rfl) ?_
  refine lv_bipush (v := 6) hx hb dX13_findsOrders_8 (by decide) ?_
  refine lv_icmp_ge (tgt := 50) hx hb dX13_findsOrders_10 (by decide) (fun _ => ?_) (fun c9 => absurd c9 (by decide))
  obtain ⟨lx, hcar⟩ := car_6 v72902 v72913 v72929 v72953 v72985 v73025
  refine lv_iconst (v := 1) hx hb dX13_findsOrders_50 (by decide) ?_
  refine lv_istore_n (lv' := [(2, .int 1), (0, .ref p0), (1, .int p1)]) hx hb dX13_findsOrders_51 rfl hl (by decide) rfl (fun ls hl => ?_)
  refine lv_iload_n hx hb dX13_findsOrders_52 rfl (lv_at hl 0 rfl) ?_
  refine lv_if_eq (tgt := 244) hx hb dX13_findsOrders_53 (by decide) (fun c9 => absurd c9 (by decide)) (fun _ => ?_)
  have k73072 : (1 : Int32).toInt = 1 := by decide
  have k73073 : (0 : Int32).toInt = 0 := by decide
  have h9k73074 := car_b6 hcar
  exact K56 46656 lx 1 0 _ _ _ _ (by omega) (by decide) hT hfr pf0 pf1 v72900 hcar (lv_sub hl [1, 2, 0] rfl)
