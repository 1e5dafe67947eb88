set_option maxHeartbeats 4000000 in
set_option maxRecDepth 100000 in
theorem kt153_X9_canBe (l : Launch) (G : KG) (tag : Nat → Nat) (L : List Nat) (Fo : Nat → va_E) (ho : okT G ttC tag L Fo) (p0 : Nat) (p1 : Nat) (p2 : Int32) (m0 : p0 ∈ L) (g0 : tag p0 = 22) (m1 : p1 ∈ L) (g1 : tag p1 = 18) : TMi l yX9_canBe cX9_canBe 8 (some .boolean) { frames := 2, cells := 0, slots := 0, locals := 36 } G ttC tag L Fo [.ref p0, .ref p1, .int p2] (fun r F1 => (0 ≤ r.toInt ∧ r.toInt ≤ 1) ∧ ((∀ b j : Nat, fld F1 b j = fld Fo b j) ∧ EF tag F1 Fo)) := by
  refine t_bodyi (y := yX9_canBe) (cd := cX9_canBe) (mL := 8) (rt := (some .boolean)) (rm := { frames := 2, cells := 0, slots := 0, locals := 36 }) (av := [.ref p0, .ref p1, .int p2]) (by decide) (Nat.le_of_ble_eq_true rfl) ho ?_
  intro p e s m args below meth c ls A Q hQ X hT hl
  have hx := X.1.1
  have hb := X.1.2.1
  have hl : lv_has ls 8 [(0, .ref p0), (1, .ref p1), (2, .int p2)] := hl
  have rp2 := rg_all p2
  obtain ⟨F, hFo⟩ : ∃ F : Nat → va_E, F = Fo := ⟨_, rfl⟩
  rw [← hFo] at hT
  have hfr : (∀ b j : Nat, fld F b j = fld Fo b j) ∧ EF tag F Fo := by
    rw [hFo]
    exact ⟨by intros; rfl, fun _ _ _ => rfl⟩
  have K8 : ∀ (n : Nat) (z65417 : Int32) (z65418 : Int32) (z65419 : Int32) (F : Nat → va_E) (H : Heap) (locs : List Loc) (ls : Array Slot), (6 - z65419.toInt < (n : Int)) → (0 ≤ z65419.toInt ∧ z65419.toInt ≤ 6) → TH G ttC A s tag L F H locs → ((∀ b j : Nat, fld F b j = fld Fo b j) ∧ EF tag F Fo) → lv_has ls 8 [(0, .ref p0), (1, .ref p1), (2, .int p2), (3, .int z65417), (4, .int z65418), (5, .int z65419)] → W p l e { frames := 2, cells := 0, slots := 0, locals := 36 } s m args below meth c H locs 0 0 Q (F0 m 8 ls []) := by
    intro n
    induction n with
    | zero =>
      intro z65417 z65418 z65419 F H locs ls hn rz65419 hT hfr hl
      have rz65417 := rg_all z65417
      have rz65418 := rg_all z65418
      exfalso
      omega
    | succ n ih8 =>
      intro z65417 z65418 z65419 F H locs ls hn rz65419 hT hfr hl
      have rz65417 := rg_all z65417
      have rz65418 := rg_all z65418
      refine lv_iload hx hb dX9_canBe_8 (lv_at hl 5 rfl) ?_
      refine lv_aload_n hx hb dX9_canBe_10 rfl (lv_at hl 1 rfl) ?_
      refine t_get (C := RX1) (T := TX1) (N := 20) X hT m1 g1 rfl rfl 16 (by decide) qw_1338 inlX1 rfl dX9_canBe_11 (fun v65420 hv65420 ov65420 => ?_)
      obtain ⟨z65421, rfl, rz65421⟩ := okV_i ov65420
      refine lv_icmp_ge (tgt := 98) hx hb dX9_canBe_14 (by decide) (fun c65422 => ?_) (fun c65422 => ?_)
      · have w65423 := cv_le (rfl : z65421.toInt = z65421.toInt) (rfl : z65419.toInt = z65419.toInt) c65422
        refine lv_iconst (v := 1) hx hb dX9_canBe_98 (by decide) ?_
        exact t_zret hQ X hT (by decide) (⟨(by decide), hfr⟩) (Nat.le_of_ble_eq_true rfl) (Nat.le_of_ble_eq_true rfl) dX9_canBe_99
      · have w65424 := cv_nle (rfl : z65421.toInt = z65421.toInt) (rfl : z65419.toInt = z65419.toInt) c65422
        refine lv_aload_n hx hb dX9_canBe_17 rfl (lv_at hl 0 rfl) ?_
        refine t_get (C := RX9) (T := TX9) (N := 6) X hT m0 g0 rfl rfl 0 (by decide) qw_93 inlX9 rfl dX9_canBe_18 (fun v65425 hv65425 ov65425 => ?_)
        obtain ⟨b65426, rfl, mb65426, gb65426⟩ := okV_r ov65425
        have gb65426 : tag b65426 = 11 := tg_of gb65426
        refine lv_iload hx hb dX9_canBe_21 (lv_at hl 5 rfl) ?_
        refine t_ild X hT mb65426 gb65426 rfl (by omega) dX9_canBe_23 (fun z65427 vz65427 rz65427 => ?_)
        have rz65427 : 0 ≤ z65427.toInt ∧ z65427.toInt ≤ 5 := rz65427
        refine lv_istore (lv' := [(6, .int z65427), (0, .ref p0), (1, .ref p1), (2, .int p2), (3, .int z65417), (4, .int z65418), (5, .int z65419)]) hx hb dX9_canBe_24 hl (by decide) rfl (fun ls hl => ?_)
        refine lv_aload_n hx hb dX9_canBe_26 rfl (lv_at hl 2 rfl) ?_
        refine t_get (C := RX1) (T := TX1) (N := 20) X hT m1 g1 rfl rfl 17 (by decide) qw_1344 inlX1 rfl dX9_canBe_27 (fun v65428 hv65428 ov65428 => ?_)
        obtain ⟨b65429, rfl, mb65429, gb65429⟩ := okV_r ov65428
        have gb65429 : tag b65429 = 7 := tg_of gb65429
        refine lv_iload hx hb dX9_canBe_30 (lv_at hl 0 rfl) ?_
        refine t_ild X hT mb65429 gb65429 rfl (by omega) dX9_canBe_32 (fun z65430 vz65430 rz65430 => ?_)
        have rz65430 : (-2147483648) ≤ z65430.toInt ∧ z65430.toInt ≤ 2147483647 := rz65430
        refine lv_iload_n hx hb dX9_canBe_33 rfl (lv_at hl 4 rfl) ?_
        refine lv_iconst (v := (-1)) hx hb dX9_canBe_34 (by decide) ?_
        refine lv_ixor hx hb dX9_canBe_35 ?_
        refine lv_topi (fun z65431 ez65431 => ?_)
        have rz65431 := rg_all z65431
        refine lv_iand hx hb dX9_canBe_36 ?_
        refine lv_topi (fun z65432 ez65432 => ?_)
        have rz65432 := rg_all z65432
        refine lv_if_eq (tgt := 42) hx hb dX9_canBe_37 (by decide) (fun c65433 => ?_) (fun c65433 => ?_)
        · have w65434 := cv_eq (rfl : z65432.toInt = z65432.toInt) (by decide : (0 : Int32).toInt = 0) c65433
          refine lv_iload hx hb dX9_canBe_42 (lv_at hl 5 rfl) ?_
          refine lv_aload_n hx hb dX9_canBe_44 rfl (lv_at hl 2 rfl) ?_
          refine t_get (C := RX1) (T := TX1) (N := 20) X hT m1 g1 rfl rfl 18 (by decide) qw_1345 inlX1 rfl dX9_canBe_45 (fun v65435 hv65435 ov65435 => ?_)
          obtain ⟨b65436, rfl, mb65436, gb65436⟩ := okV_r ov65435
          have gb65436 : tag b65436 = 7 := tg_of gb65436
          refine lv_iload hx hb dX9_canBe_48 (lv_at hl 0 rfl) ?_
          refine t_ild X hT mb65436 gb65436 rfl (by omega) dX9_canBe_50 (fun z65437 vz65437 rz65437 => ?_)
          have rz65437 : (-2147483648) ≤ z65437.toInt ∧ z65437.toInt ≤ 2147483647 := rz65437
          refine t_mmax X hl qw_1346 qw_849 qw_850 qw_851 (Nat.le_of_ble_eq_true rfl) (Nat.le_of_ble_eq_true rfl) (Nat.le_of_ble_eq_true rfl) (Nat.le_of_ble_eq_true rfl) dX9_canBe_51 (fun z65438 ez65438 => ?_)
          have hz65438 := mmax_e ez65438 (rfl : z65418.toInt = z65418.toInt) (rfl : z65437.toInt = z65437.toInt)
          refine lv_istore (lv' := [(7, .int z65438), (6, .int z65427), (0, .ref p0), (1, .ref p1), (2, .int p2), (3, .int z65417), (4, .int z65418), (5, .int z65419)]) hx hb dX9_canBe_54 hl (by decide) rfl (fun ls hl => ?_)
          refine lv_iload hx hb dX9_canBe_56 (lv_at hl 0 rfl) ?_
          refine lv_aload_n hx hb dX9_canBe_58 rfl (lv_at hl 3 rfl) ?_
          refine lv_iload_n hx hb dX9_canBe_59 rfl (lv_at hl 4 rfl) ?_
          refine lv_iload hx hb dX9_canBe_60 (lv_at hl 1 rfl) ?_
          refine t_cSi (n := 3) (As := [.ref p1, .int p2, .int z65427]) (rest := [.int z65438]) X hT (kt152_X9_lastFor l G tag L F hT.2.2.2 p1 p2 z65427 m1 g1 (by omega)) qw_1347 qw_1348 qw_40 qw_1349 ⟨by decide +kernel, by decide +kernel, by decide +kernel⟩ ⟨Nat.le_of_ble_eq_true rfl, Nat.le_of_ble_eq_true rfl⟩ hl rfl rfl (Nat.le_of_ble_eq_true rfl) dX9_canBe_62 ⟨Nat.le_of_ble_eq_true rfl, Nat.le_of_ble_eq_true rfl⟩ (fun z65439 F9 H locs hT hz65439 => ?_)
          obtain ⟨fz65439, hz65439⟩ := hz65439
          rw [fz65439] at hT
          refine lv_icmp_le (tgt := 70) hx hb dX9_canBe_65 (by decide) (fun c65440 => ?_) (fun c65440 => ?_)
          · have w65441 := cv_le (rfl : z65438.toInt = z65438.toInt) (rfl : z65439.toInt = z65439.toInt) c65440
            refine lv_aload_n hx hb dX9_canBe_70 rfl (lv_at hl 2 rfl) ?_
            refine t_get (C := RX9) (T := TX9) (N := 6) X hT m0 g0 rfl rfl 1 (by decide) qw_94 inlX9 rfl dX9_canBe_71 (fun v65442 hv65442 ov65442 => ?_)
            obtain ⟨b65443, rfl, mb65443, gb65443⟩ := okV_r ov65442
            have gb65443 : tag b65443 = 7 := tg_of gb65443
            refine lv_iload hx hb dX9_canBe_74 (lv_at hl 7 rfl) ?_
            refine lv_iload hx hb dX9_canBe_76 (lv_at hl 0 rfl) ?_
            refine t_ist X hT mb65443 gb65443 rfl (by omega) (show (-2147483648) ≤ (z65438 : Int32).toInt ∧ (z65438 : Int32).toInt ≤ 2147483647 from (by omega)) dX9_canBe_78 (fun F H locs hT v65444 h1v65444 h2v65444 => ?_)
            have hv65420 := (h2v65444 _ _).trans hv65420
            have hv65425 := (h2v65444 _ _).trans hv65425
            have hv65428 := (h2v65444 _ _).trans hv65428
            have hv65435 := (h2v65444 _ _).trans hv65435
            have hv65442 := (h2v65444 _ _).trans hv65442
            have hfr : (∀ b j : Nat, fld F b j = fld Fo b j) ∧ EF tag F Fo := ⟨fun b j  => (h2v65444 b j).trans (hfr.1 b j ), fun b j hb => (h1v65444 b j (Or.inl (ns_ne hb gb65443 (by decide)))).trans (hfr.2 b j hb)⟩
            refine lv_iload hx hb dX9_canBe_79 (lv_at hl 0 rfl) ?_
            refine lv_iconst (v := 1) hx hb dX9_canBe_81 (by decide) ?_
            refine lv_iadd hx hb dX9_canBe_82 ?_
            refine lv_topi (fun z65445 ez65445 => ?_)
            have rz65445 := rg_all z65445
            refine lv_istore (lv' := [(4, .int z65445), (7, .int z65438), (6, .int z65427), (0, .ref p0), (1, .ref p1), (2, .int p2), (3, .int z65417), (5, .int z65419)]) hx hb dX9_canBe_83 hl (by decide) rfl (fun ls hl => ?_)
            refine lv_iload_n hx hb dX9_canBe_85 rfl (lv_at hl 6 rfl) ?_
            refine lv_iconst (v := 1) hx hb dX9_canBe_86 (by decide) ?_
            refine lv_iload hx hb dX9_canBe_87 (lv_at hl 2 rfl) ?_
            refine lv_ishl hx hb dX9_canBe_89 ?_
            refine lv_topi (fun z65446 ez65446 => ?_)
            have rz65446 := rg_all z65446
            refine lv_ior hx hb dX9_canBe_90 ?_
            refine lv_topi (fun z65447 ez65447 => ?_)
            have rz65447 := rg_all z65447
            refine lv_istore_n (lv' := [(3, .int z65447), (4, .int z65445), (7, .int z65438), (6, .int z65427), (0, .ref p0), (1, .ref p1), (2, .int p2), (5, .int z65419)]) hx hb dX9_canBe_91 rfl hl (by decide) rfl (fun ls hl => ?_)
            obtain ⟨z65448, ez65448⟩ : ∃ y : Int32, y = z65419 + 1 := ⟨_, rfl⟩
            have hz65448 : z65448.toInt = z65419.toInt + 1 := ar_add ez65448 rfl (by decide : (1 : Int32).toInt = 1) (by omega) (by omega)
            refine lv_iinc (v := z65448) (lv' := [(5, .int z65448), (3, .int z65447), (4, .int z65445), (7, .int z65438), (6, .int z65427), (0, .ref p0), (1, .ref p1), (2, .int p2)]) hx hb dX9_canBe_92 hl (k := 7) rfl (by rw [ez65448]; rfl) (by decide) rfl (fun ls hl => ?_)
            refine lv_goto (tgt := 8) hx hb dX9_canBe_95 (by decide) ?_
            exact ih8 z65447 z65445 z65448 _ _ _ _ (by omega) (by omega) hT hfr  (lv_sub hl [5, 6, 7, 1, 2, 0] rfl)
          · have w65449 := cv_nle (rfl : z65438.toInt = z65438.toInt) (rfl : z65439.toInt = z65439.toInt) c65440
            refine lv_iconst (v := 0) hx hb dX9_canBe_68 (by decide) ?_
            exact t_zret hQ X hT (by decide) (⟨(by decide), hfr⟩) (Nat.le_of_ble_eq_true rfl) (Nat.le_of_ble_eq_true rfl) dX9_canBe_69
        · have w65450 := cv_ne (rfl : z65432.toInt = z65432.toInt) (by decide : (0 : Int32).toInt = 0) c65433
          refine lv_iconst (v := 0) hx hb dX9_canBe_40 (by decide) ?_
          exact t_zret hQ X hT (by decide) (⟨(by decide), hfr⟩) (Nat.le_of_ble_eq_true rfl) (Nat.le_of_ble_eq_true rfl) dX9_canBe_41
  refine lv_iconst (v := 0) hx hb dX9_canBe_0 (by decide) ?_
  refine lv_istore_n (lv' := [(3, .int 0), (0, .ref p0), (1, .ref p1), (2, .int p2)]) hx hb dX9_canBe_1 rfl hl (by decide) rfl (fun ls hl => ?_)
  refine lv_iconst (v := 0) hx hb dX9_canBe_2 (by decide) ?_
  refine lv_istore (lv' := [(4, .int 0), (3, .int 0), (0, .ref p0), (1, .ref p1), (2, .int p2)]) hx hb dX9_canBe_3 hl (by decide) rfl (fun ls hl => ?_)
  refine lv_iconst (v := 0) hx hb dX9_canBe_5 (by decide) ?_
  refine lv_istore (lv' := [(5, .int 0), (4, .int 0), (3, .int 0), (0, .ref p0), (1, .ref p1), (2, .int p2)]) hx hb dX9_canBe_6 hl (by decide) rfl (fun ls hl => ?_)
  have kk65451 : (0 : Int32).toInt = 0 := by decide
  have kk65452 : (0 : Int32).toInt = 0 := by decide
  have kk65453 : (0 : Int32).toInt = 0 := by decide
  exact K8 7 0 0 0 _ _ _ _ (by omega) (by decide) hT hfr  (lv_sub hl [3, 4, 5, 2, 1, 0] rfl)
set_option maxHeartbeats 4000000 in
set_option maxRecDepth 100000 in
theorem kt154_X9_noteRow (l : Launch) (G : KG) (tag : Nat → Nat) (L : List Nat) (Fo : Nat → va_E) (ho : okT G ttC tag L Fo) (p0 : Nat) (p1 : Nat) (p2 : Int32) (m0 : p0 ∈ L) (g0 : tag p0 = 22) (m1 : p1 ∈ L) (g1 : tag p1 = 18) : TMv l yX9_noteRow cX9_noteRow 7 { frames := 2, cells := 0, slots := 0, locals := 36 } G ttC tag L Fo [.ref p0, .ref p1, .int p2] (fun F1 => ((∀ b j : Nat, fld F1 b j = fld Fo b j) ∧ EF tag F1 Fo)) := by
  refine t_bodyv (y := yX9_noteRow) (cd := cX9_noteRow) (mL := 7) (rm := { frames := 2, cells := 0, slots := 0, locals := 36 }) (av := [.ref p0, .ref p1, .int p2]) (by decide) (Nat.le_of_ble_eq_true rfl) ho ?_
  intro p e s m args below meth c ls A Q hQ X hT hl
  have hx := X.1.1
  have hb := X.1.2.1
  have hl : lv_has ls 7 [(0, .ref p0), (1, .ref p1), (2, .int p2)] := hl
  have rp2 := rg_all p2
  obtain ⟨F, hFo⟩ : ∃ F : Nat → va_E, F = Fo := ⟨_, rfl⟩
  rw [← hFo] at hT
  have hfr : (∀ b j : Nat, fld F b j = fld Fo b j) ∧ EF tag F Fo := by
    rw [hFo]
    exact ⟨by intros; rfl, fun _ _ _ => rfl⟩
  have K82 : ∀ (n : Nat) (z66289 : Int32) (z66290 : Int32) (z66291 : Int32) (z66292 : Int32) (F : Nat → va_E) (H : Heap) (locs : List Loc) (ls : Array Slot), (z66291.toInt - (-1) < (n : Int)) → ((-1) ≤ z66291.toInt ∧ z66291.toInt ≤ 5) → (0 ≤ z66292.toInt ∧ z66292.toInt ≤ 6) → TH G ttC A s tag L F H locs → ((∀ b j : Nat, fld F b j = fld Fo b j) ∧ EF tag F Fo) → fld F p1 16 = .int z66292 → lv_has ls 7 [(0, .ref p0), (1, .ref p1), (2, .int p2), (3, .int z66289), (4, .int z66290), (5, .int z66291)] → W p l e { frames := 2, cells := 0, slots := 0, locals := 36 } s m args below meth c H locs 0 0 Q (F0 m 82 ls []) := by
    intro n
    induction n with
    | zero =>
      intro z66289 z66290 z66291 z66292 F H locs ls hn rz66291 rz66292 hT hfr qz66292 hl
      have rz66289 := rg_all z66289
      have rz66290 := rg_all z66290
      exfalso
      omega
    | succ n ih82 =>
      intro z66289 z66290 z66291 z66292 F H locs ls hn rz66291 rz66292 hT hfr qz66292 hl
      have rz66289 := rg_all z66289
      have rz66290 := rg_all z66290
      refine lv_iload hx hb dX9_noteRow_82 (lv_at hl 5 rfl) ?_
      refine lv_if_lt (tgt := 137) hx hb dX9_noteRow_84 (by decide) (fun c66293 => ?_) (fun c66293 => ?_)
      · have w66294 := cv_lt (rfl : z66291.toInt = z66291.toInt) (by decide : (0 : Int32).toInt = 0) c66293
        exact t_vret hQ X hT hfr (Nat.le_of_ble_eq_true rfl) (Nat.le_of_ble_eq_true rfl) dX9_noteRow_137
      · have w66295 := cv_nlt (rfl : z66291.toInt = z66291.toInt) (by decide : (0 : Int32).toInt = 0) c66293
        refine lv_aload_n hx hb dX9_noteRow_87 rfl (lv_at hl 0 rfl) ?_
        refine t_get (C := RX9) (T := TX9) (N := 6) X hT m0 g0 rfl rfl 0 (by decide) qw_93 inlX9 rfl dX9_noteRow_88 (fun v66296 hv66296 ov66296 => ?_)
        obtain ⟨b66297, rfl, mb66297, gb66297⟩ := okV_r ov66296
        have gb66297 : tag b66297 = 11 := tg_of gb66297
        refine lv_iload hx hb dX9_noteRow_91 (lv_at hl 5 rfl) ?_
        refine t_ild X hT mb66297 gb66297 rfl (by omega) dX9_noteRow_93 (fun z66298 vz66298 rz66298 => ?_)
        have rz66298 : 0 ≤ z66298.toInt ∧ z66298.toInt ≤ 5 := rz66298
        refine lv_istore (lv' := [(6, .int z66298), (0, .ref p0), (1, .ref p1), (2, .int p2), (3, .int z66289), (4, .int z66290), (5, .int z66291)]) hx hb dX9_noteRow_94 hl (by decide) rfl (fun ls hl => ?_)
        refine lv_iload hx hb dX9_noteRow_96 (lv_at hl 5 rfl) ?_
        refine lv_iconst (v := 1) hx hb dX9_noteRow_98 (by decide) ?_
        refine lv_isub hx hb dX9_noteRow_99 ?_
        refine lv_topi (fun z66299 ez66299 => ?_)
        have rz66299 := rg_all z66299
        refine lv_aload_n hx hb dX9_noteRow_100 rfl (lv_at hl 2 rfl) ?_
        refine lv_iload_n hx hb dX9_noteRow_101 rfl (lv_at hl 3 rfl) ?_
        refine lv_iload hx hb dX9_noteRow_102 (lv_at hl 0 rfl) ?_
        refine t_cSi (n := 3) (As := [.ref p1, .int p2, .int z66298]) (rest := [.int z66299]) X hT (kt152_X9_lastFor l G tag L F hT.2.2.2 p1 p2 z66298 m1 g1 (by omega)) qw_1347 qw_1348 qw_40 qw_1349 ⟨by decide +kernel, by decide +kernel, by decide +kernel⟩ ⟨Nat.le_of_ble_eq_true rfl, Nat.le_of_ble_eq_true rfl⟩ hl rfl rfl (Nat.le_of_ble_eq_true rfl) dX9_noteRow_104 ⟨Nat.le_of_ble_eq_true rfl, Nat.le_of_ble_eq_true rfl⟩ (fun z66300 F9 H locs hT hz66300 => ?_)
        obtain ⟨fz66300, hz66300⟩ := hz66300
        rw [fz66300] at hT
        refine t_mmin X hl qw_1351 qw_1018 qw_850 qw_1019 (Nat.le_of_ble_eq_true rfl) (Nat.le_of_ble_eq_true rfl) (Nat.le_of_ble_eq_true rfl) (Nat.le_of_ble_eq_true rfl) dX9_noteRow_107 (fun z66301 ez66301 => ?_)
        have hz66301 := mmin_e ez66301 (rfl : z66299.toInt = z66299.toInt) (rfl : z66300.toInt = z66300.toInt)
        refine lv_istore (lv' := [(4, .int z66301), (6, .int z66298), (0, .ref p0), (1, .ref p1), (2, .int p2), (3, .int z66289), (5, .int z66291)]) hx hb dX9_noteRow_110 hl (by decide) rfl (fun ls hl => ?_)
        refine lv_aload_n hx hb dX9_noteRow_112 rfl (lv_at hl 2 rfl) ?_
        refine t_get (C := RX9) (T := TX9) (N := 6) X hT m0 g0 rfl rfl 4 (by decide) qw_96 inlX9 rfl dX9_noteRow_113 (fun v66302 hv66302 ov66302 => ?_)
        obtain ⟨b66303, rfl, mb66303, gb66303⟩ := okV_r ov66302
        have gb66303 : tag b66303 = 7 := tg_of gb66303
        refine lv_iload hx hb dX9_noteRow_116 (lv_at hl 1 rfl) ?_
        refine lv_aload_n hx hb dX9_noteRow_118 rfl (lv_at hl 2 rfl) ?_
        refine t_get (C := RX9) (T := TX9) (N := 6) X hT m0 g0 rfl rfl 4 (by decide) qw_96 inlX9 rfl dX9_noteRow_119 (fun v66304 hv66304 ov66304 => ?_)
        obtain rfl : v66304 = .ref b66303 := hv66304.symm.trans hv66302
        refine lv_iload hx hb dX9_noteRow_122 (lv_at hl 1 rfl) ?_
        refine t_ild X hT mb66303 gb66303 rfl (by omega) dX9_noteRow_124 (fun z66305 vz66305 rz66305 => ?_)
        have rz66305 : (-2147483648) ≤ z66305.toInt ∧ z66305.toInt ≤ 2147483647 := rz66305
        refine lv_iload hx hb dX9_noteRow_125 (lv_at hl 0 rfl) ?_
        refine t_mmax X hl qw_1346 qw_849 qw_850 qw_851 (Nat.le_of_ble_eq_true rfl) (Nat.le_of_ble_eq_true rfl) (Nat.le_of_ble_eq_true rfl) (Nat.le_of_ble_eq_true rfl) dX9_noteRow_127 (fun z66306 ez66306 => ?_)
        have hz66306 := mmax_e ez66306 (rfl : z66305.toInt = z66305.toInt) (rfl : z66301.toInt = z66301.toInt)
        refine t_ist X hT mb66303 gb66303 rfl (by omega) (show (-2147483648) ≤ (z66306 : Int32).toInt ∧ (z66306 : Int32).toInt ≤ 2147483647 from (by omega)) dX9_noteRow_130 (fun F H locs hT v66307 h1v66307 h2v66307 => ?_)
        have qz66292 := (h2v66307 _ _).trans qz66292
        have hv66296 := (h2v66307 _ _).trans hv66296
        have hv66302 := (h2v66307 _ _).trans hv66302
        have hfr : (∀ b j : Nat, fld F b j = fld Fo b j) ∧ EF tag F Fo := ⟨fun b j  => (h2v66307 b j).trans (hfr.1 b j ), fun b j hb => (h1v66307 b j (Or.inl (ns_ne hb gb66303 (by decide)))).trans (hfr.2 b j hb)⟩
        obtain ⟨z66308, ez66308⟩ : ∃ y : Int32, y = z66291 + (-1) := ⟨_, rfl⟩
        have hz66308 : z66308.toInt = z66291.toInt + (-1) := ar_add ez66308 rfl (by decide : ((-1) : Int32).toInt = (-1)) (by omega) (by omega)
        refine lv_iinc (v := z66308) (lv' := [(5, .int z66308), (4, .int z66301), (6, .int z66298), (0, .ref p0), (1, .ref p1), (2, .int p2), (3, .int z66289)]) hx hb dX9_noteRow_131 hl (k := 6) rfl (by rw [ez66308]; rfl) (by decide) rfl (fun ls hl => ?_)
        refine lv_goto (tgt := 82) hx hb dX9_noteRow_134 (by decide) ?_
        exact ih82 z66289 z66301 z66308 z66292 _ _ _ _ (by omega) (by omega) (by omega) hT hfr qz66292 (lv_sub hl [3, 4, 5, 6, 1, 0] rfl)
  have K5 : ∀ (n : Nat) (z66309 : Int32) (z66310 : Int32) (F : Nat → va_E) (H : Heap) (locs : List Loc) (ls : Array Slot), (6 - z66310.toInt < (n : Int)) → (0 ≤ z66310.toInt ∧ z66310.toInt ≤ 6) → TH G ttC A s tag L F H locs → ((∀ b j : Nat, fld F b j = fld Fo b j) ∧ EF tag F Fo) → lv_has ls 7 [(0, .ref p0), (1, .ref p1), (2, .int p2), (3, .int z66309), (4, .int z66310)] → W p l e { frames := 2, cells := 0, slots := 0, locals := 36 } s m args below meth c H locs 0 0 Q (F0 m 5 ls []) := by
    intro n
    induction n with
    | zero =>
      intro z66309 z66310 F H locs ls hn rz66310 hT hfr hl
      have rz66309 := rg_all z66309
      exfalso
      omega
    | succ n ih5 =>
      intro z66309 z66310 F H locs ls hn rz66310 hT hfr hl
      have rz66309 := rg_all z66309
      refine lv_iload hx hb dX9_noteRow_5 (lv_at hl 4 rfl) ?_
      refine lv_aload_n hx hb dX9_noteRow_7 rfl (lv_at hl 1 rfl) ?_
      refine t_get (C := RX1) (T := TX1) (N := 20) X hT m1 g1 rfl rfl 16 (by decide) qw_1338 inlX1 rfl dX9_noteRow_8 (fun v66311 hv66311 ov66311 => ?_)
      obtain ⟨z66312, rfl, rz66312⟩ := okV_i ov66311
      refine lv_icmp_ge (tgt := 71) hx hb dX9_noteRow_11 (by decide) (fun c66313 => ?_) (fun c66313 => ?_)
      · have w66314 := cv_le (rfl : z66312.toInt = z66312.toInt) (rfl : z66310.toInt = z66310.toInt) c66313
        refine lv_iload_n hx hb dX9_noteRow_71 rfl (lv_at hl 2 rfl) ?_
        refine lv_istore (lv' := [(4, .int p2), (0, .ref p0), (1, .ref p1), (2, .int p2), (3, .int z66309)]) hx hb dX9_noteRow_72 hl (by decide) rfl (fun ls hl => ?_)
        refine lv_aload_n hx hb dX9_noteRow_74 rfl (lv_at hl 2 rfl) ?_
        refine t_get (C := RX1) (T := TX1) (N := 20) X hT m1 g1 rfl rfl 16 (by decide) qw_1338 inlX1 rfl dX9_noteRow_75 (fun v66315 hv66315 ov66315 => ?_)
        obtain rfl : v66315 = .int z66312 := hv66315.symm.trans hv66311
        refine lv_iconst (v := 1) hx hb dX9_noteRow_78 (by decide) ?_
        refine lv_isub hx hb dX9_noteRow_79 ?_
        refine lv_topi (fun z66316 ez66316 => ?_)
        have hz66316 : z66316.toInt = z66312.toInt - 1 := ar_sub ez66316 (rfl : z66312.toInt = z66312.toInt) (by decide : (1 : Int32).toInt = 1) (by omega) (by omega)
        have rz66316 : (-1) ≤ z66316.toInt ∧ z66316.toInt ≤ 5 := by omega
        refine lv_istore (lv' := [(5, .int z66316), (4, .int p2), (0, .ref p0), (1, .ref p1), (2, .int p2), (3, .int z66309)]) hx hb dX9_noteRow_80 hl (by decide) rfl (fun ls hl => ?_)
        exact K82 7 z66309 p2 z66316 z66312 _ _ _ _ (by omega) (by omega) (by omega) hT hfr hv66311 (lv_sub hl [2, 3, 4, 5, 1, 0] rfl)
      · have w66317 := cv_nle (rfl : z66312.toInt = z66312.toInt) (rfl : z66310.toInt = z66310.toInt) c66313
        refine lv_aload_n hx hb dX9_noteRow_14 rfl (lv_at hl 0 rfl) ?_
        refine t_get (C := RX9) (T := TX9) (N := 6) X hT m0 g0 rfl rfl 0 (by decide) qw_93 inlX9 rfl dX9_noteRow_15 (fun v66318 hv66318 ov66318 => ?_)
        obtain ⟨b66319, rfl, mb66319, gb66319⟩ := okV_r ov66318
        have gb66319 : tag b66319 = 11 := tg_of gb66319
        refine lv_iload hx hb dX9_noteRow_18 (lv_at hl 4 rfl) ?_
        refine t_ild X hT mb66319 gb66319 rfl (by omega) dX9_noteRow_20 (fun z66320 vz66320 rz66320 => ?_)
        have rz66320 : 0 ≤ z66320.toInt ∧ z66320.toInt ≤ 5 := rz66320
        refine lv_istore (lv' := [(5, .int z66320), (0, .ref p0), (1, .ref p1), (2, .int p2), (3, .int z66309), (4, .int z66310)]) hx hb dX9_noteRow_21 hl (by decide) rfl (fun ls hl => ?_)
        refine lv_aload_n hx hb dX9_noteRow_23 rfl (lv_at hl 1 rfl) ?_
        refine t_get (C := RX9) (T := TX9) (N := 6) X hT m0 g0 rfl rfl 3 (by decide) qw_95 inlX9 rfl dX9_noteRow_24 (fun v66321 hv66321 ov66321 => ?_)
        obtain ⟨b66322, rfl, mb66322, gb66322⟩ := okV_r ov66321
        have gb66322 : tag b66322 = 7 := tg_of gb66322
        refine lv_iload hx hb dX9_noteRow_27 (lv_at hl 0 rfl) ?_
        refine lv_aload_n hx hb dX9_noteRow_29 rfl (lv_at hl 1 rfl) ?_
        refine t_get (C := RX9) (T := TX9) (N := 6) X hT m0 g0 rfl rfl 3 (by decide) qw_95 inlX9 rfl dX9_noteRow_30 (fun v66323 hv66323 ov66323 => ?_)
        obtain rfl : v66323 = .ref b66322 := hv66323.symm.trans hv66321
        refine lv_iload hx hb dX9_noteRow_33 (lv_at hl 0 rfl) ?_
        refine t_ild X hT mb66322 gb66322 rfl (by omega) dX9_noteRow_35 (fun z66324 vz66324 rz66324 => ?_)
        have rz66324 : (-2147483648) ≤ z66324.toInt ∧ z66324.toInt ≤ 2147483647 := rz66324
        refine lv_aload_n hx hb dX9_noteRow_36 rfl (lv_at hl 1 rfl) ?_
        refine t_get (C := RX9) (T := TX9) (N := 6) X hT m0 g0 rfl rfl 1 (by decide) qw_94 inlX9 rfl dX9_noteRow_37 (fun v66325 hv66325 ov66325 => ?_)
        obtain ⟨b66326, rfl, mb66326, gb66326⟩ := okV_r ov66325
        have gb66326 : tag b66326 = 7 := tg_of gb66326
        refine lv_iload hx hb dX9_noteRow_40 (lv_at hl 5 rfl) ?_
        refine t_ild X hT mb66326 gb66326 rfl (by omega) dX9_noteRow_42 (fun z66327 vz66327 rz66327 => ?_)
        have rz66327 : (-2147483648) ≤ z66327.toInt ∧ z66327.toInt ≤ 2147483647 := rz66327
        refine t_mmin X hl qw_1351 qw_1018 qw_850 qw_1019 (Nat.le_of_ble_eq_true rfl) (Nat.le_of_ble_eq_true rfl) (Nat.le_of_ble_eq_true rfl) (Nat.le_of_ble_eq_true rfl) dX9_noteRow_43 (fun z66328 ez66328 => ?_)
        have hz66328 := mmin_e ez66328 (rfl : z66324.toInt = z66324.toInt) (rfl : z66327.toInt = z66327.toInt)
        refine t_ist X hT mb66322 gb66322 rfl (by omega) (show (-2147483648) ≤ (z66328 : Int32).toInt ∧ (z66328 : Int32).toInt ≤ 2147483647 from (by omega)) dX9_noteRow_46 (fun F H locs hT v66329 h1v66329 h2v66329 => ?_)
        have hv66311 := (h2v66329 _ _).trans hv66311
        have hv66318 := (h2v66329 _ _).trans hv66318
        have hv66321 := (h2v66329 _ _).trans hv66321
        have hv66325 := (h2v66329 _ _).trans hv66325
        have hfr : (∀ b j : Nat, fld F b j = fld Fo b j) ∧ EF tag F Fo := ⟨fun b j  => (h2v66329 b j).trans (hfr.1 b j ), fun b j hb => (h1v66329 b j (Or.inl (ns_ne hb gb66322 (by decide)))).trans (hfr.2 b j hb)⟩
        refine lv_aload_n hx hb dX9_noteRow_47 rfl (lv_at hl 1 rfl) ?_
        refine t_get (C := RX9) (T := TX9) (N := 6) X hT m0 g0 rfl rfl 5 (by decide) qw_97 inlX9 rfl dX9_noteRow_48 (fun v66330 hv66330 ov66330 => ?_)
        obtain ⟨b66331, rfl, mb66331, gb66331⟩ := okV_r ov66330
        have gb66331 : tag b66331 = 7 := tg_of gb66331
        refine lv_iload hx hb dX9_noteRow_51 (lv_at hl 0 rfl) ?_
        refine lv_dup2_11 hx hb dX9_noteRow_53 rfl rfl ?_
        refine t_ild X hT mb66331 gb66331 rfl (by omega) dX9_noteRow_54 (fun z66332 vz66332 rz66332 => ?_)
        have rz66332 : (-2147483648) ≤ z66332.toInt ∧ z66332.toInt ≤ 2147483647 := rz66332
        refine lv_iload_n hx hb dX9_noteRow_55 rfl (lv_at hl 4 rfl) ?_
        refine lv_iand hx hb dX9_noteRow_56 ?_
        refine lv_topi (fun z66333 ez66333 => ?_)
        have rz66333 := rg_all z66333
        refine t_ist X hT mb66331 gb66331 rfl (by omega) (show (-2147483648) ≤ (z66333 : Int32).toInt ∧ (z66333 : Int32).toInt ≤ 2147483647 from (by omega)) dX9_noteRow_57 (fun F H locs hT v66334 h1v66334 h2v66334 => ?_)
        have hv66311 := (h2v66334 _ _).trans hv66311
        have hv66318 := (h2v66334 _ _).trans hv66318
        have hv66321 := (h2v66334 _ _).trans hv66321
        have hv66325 := (h2v66334 _ _).trans hv66325
        have hv66330 := (h2v66334 _ _).trans hv66330
        have hfr : (∀ b j : Nat, fld F b j = fld Fo b j) ∧ EF tag F Fo := ⟨fun b j  => (h2v66334 b j).trans (hfr.1 b j ), fun b j hb => (h1v66334 b j (Or.inl (ns_ne hb gb66331 (by decide)))).trans (hfr.2 b j hb)⟩
        refine lv_iload_n hx hb dX9_noteRow_58 rfl (lv_at hl 4 rfl) ?_
        refine lv_iconst (v := 1) hx hb dX9_noteRow_59 (by decide) ?_
        refine lv_iload hx hb dX9_noteRow_60 (lv_at hl 0 rfl) ?_
        refine lv_ishl hx hb dX9_noteRow_62 ?_
        refine lv_topi (fun z66335 ez66335 => ?_)
        have rz66335 := rg_all z66335
        refine lv_ior hx hb dX9_noteRow_63 ?_
        refine lv_topi (fun z66336 ez66336 => ?_)
        have rz66336 := rg_all z66336
        refine lv_istore_n (lv' := [(3, .int z66336), (5, .int z66320), (0, .ref p0), (1, .ref p1), (2, .int p2), (4, .int z66310)]) hx hb dX9_noteRow_64 rfl hl (by decide) rfl (fun ls hl => ?_)
        obtain ⟨z66337, ez66337⟩ : ∃ y : Int32, y = z66310 + 1 := ⟨_, rfl⟩
        have hz66337 : z66337.toInt = z66310.toInt + 1 := ar_add ez66337 rfl (by decide : (1 : Int32).toInt = 1) (by omega) (by omega)
        refine lv_iinc (v := z66337) (lv' := [(4, .int z66337), (3, .int z66336), (5, .int z66320), (0, .ref p0), (1, .ref p1), (2, .int p2)]) hx hb dX9_noteRow_65 hl (k := 5) rfl (by rw [ez66337]; rfl) (by decide) rfl (fun ls hl => ?_)
        refine lv_goto (tgt := 5) hx hb dX9_noteRow_68 (by decide) ?_
        exact ih5 z66336 z66337 _ _ _ _ (by omega) (by omega) hT hfr  (lv_sub hl [3, 4, 5, 1, 0] rfl)
  refine lv_iconst (v := 0) hx hb dX9_noteRow_0 (by decide) ?_
  refine lv_istore_n (lv' := [(3, .int 0), (0, .ref p0), (1, .ref p1), (2, .int p2)]) hx hb dX9_noteRow_1 rfl hl (by decide) rfl (fun ls hl => ?_)
  refine lv_iconst (v := 0) hx hb dX9_noteRow_2 (by decide) ?_
  refine lv_istore (lv' := [(4, .int 0), (3, .int 0), (0, .ref p0), (1, .ref p1), (2, .int p2)]) hx hb dX9_noteRow_3 hl (by decide) rfl (fun ls hl => ?_)
  have kk66338 : (0 : Int32).toInt = 0 := by decide
  have kk66339 : (0 : Int32).toInt = 0 := by decide
  exact K5 7 0 0 _ _ _ _ (by omega) (by decide) hT hfr  (lv_sub hl [2, 3, 4, 1, 0] rfl)
set_option maxHeartbeats 4000000 in
set_option maxRecDepth 100000 in
theorem kt155_X5_swap (l : Launch) (G : KG) (tag : Nat → Nat) (L : List Nat) (Fo : Nat → va_E) (ho : okT G ttC tag L Fo) (p0 : Nat) (p1 : Int32) (p2 : Int32) (m0 : p0 ∈ L) (g0 : tag p0 = 11) (h1 : 0 ≤ p1.toInt ∧ p1.toInt ≤ 5) (h2 : 0 ≤ p2.toInt ∧ p2.toInt ≤ 5) : TMv l yX5_swap cX5_swap 4 { frames := 0, cells := 0, slots := 0, locals := 0 } G ttC tag L Fo [.ref p0, .int p1, .int p2] (fun F1 => ((∀ b j : Nat, fld F1 b j = fld Fo b j) ∧ EF tag F1 Fo)) := by
  refine t_bodyv (y := yX5_swap) (cd := cX5_swap) (mL := 4) (rm := { frames := 0, cells := 0, slots := 0, locals := 0 }) (av := [.ref p0, .int p1, .int p2]) (by decide) (Nat.le_of_ble_eq_true rfl) ho ?_
  intro p e s m args below meth c ls A Q hQ X hT hl
  have hx := X.1.1
  have hb := X.1.2.1
  have hl : lv_has ls 4 [(0, .ref p0), (1, .int p1), (2, .int p2)] := hl
  obtain ⟨F, hFo⟩ : ∃ F : Nat → va_E, F = Fo := ⟨_, rfl⟩
  rw [← hFo] at hT
  have hfr : (∀ b j : Nat, fld F b j = fld Fo b j) ∧ EF tag F Fo := by
    rw [hFo]
    exact ⟨by intros; rfl, fun _ _ _ => rfl⟩
  refine lv_aload_n hx hb dX5_swap_0 rfl (lv_at hl 0 rfl) ?_
  refine lv_iload_n hx hb dX5_swap_1 rfl (lv_at hl 1 rfl) ?_
  refine t_ild X hT m0 g0 rfl (by omega) dX5_swap_2 (fun z66510 vz66510 rz66510 => ?_)
  have rz66510 : 0 ≤ z66510.toInt ∧ z66510.toInt ≤ 5 := rz66510
  refine lv_istore_n (lv' := [(3, .int z66510), (0, .ref p0), (1, .int p1), (2, .int p2)]) hx hb dX5_swap_3 rfl hl (by decide) rfl (fun ls hl => ?_)
  refine lv_aload_n hx hb dX5_swap_4 rfl (lv_at hl 1 rfl) ?_
  refine lv_iload_n hx hb dX5_swap_5 rfl (lv_at hl 2 rfl) ?_
  refine lv_aload_n hx hb dX5_swap_6 rfl (lv_at hl 1 rfl) ?_
  refine lv_iload_n hx hb dX5_swap_7 rfl (lv_at hl 3 rfl) ?_
  refine t_ild X hT m0 g0 rfl (by omega) dX5_swap_8 (fun z66511 vz66511 rz66511 => ?_)
  have rz66511 : 0 ≤ z66511.toInt ∧ z66511.toInt ≤ 5 := rz66511
  refine t_ist X hT m0 g0 rfl (by omega) (show 0 ≤ (z66511 : Int32).toInt ∧ (z66511 : Int32).toInt ≤ 5 from (by omega)) dX5_swap_9 (fun F H locs hT v66512 h1v66512 h2v66512 => ?_)
  have hfr : (∀ b j : Nat, fld F b j = fld Fo b j) ∧ EF tag F Fo := ⟨fun b j  => (h2v66512 b j).trans (hfr.1 b j ), fun b j hb => (h1v66512 b j (Or.inl (ns_ne hb g0 (by decide)))).trans (hfr.2 b j hb)⟩
  refine lv_aload_n hx hb dX5_swap_10 rfl (lv_at hl 1 rfl) ?_
  refine lv_iload_n hx hb dX5_swap_11 rfl (lv_at hl 3 rfl) ?_
  refine lv_iload_n hx hb dX5_swap_12 rfl (lv_at hl 0 rfl) ?_
  refine t_ist X hT m0 g0 rfl (by omega) (show 0 ≤ (z66510 : Int32).toInt ∧ (z66510 : Int32).toInt ≤ 5 from (by omega)) dX5_swap_13 (fun F H locs hT v66513 h1v66513 h2v66513 => ?_)
  have hfr : (∀ b j : Nat, fld F b j = fld Fo b j) ∧ EF tag F Fo := ⟨fun b j  => (h2v66513 b j).trans (hfr.1 b j ), fun b j hb => (h1v66513 b j (Or.inl (ns_ne hb g0 (by decide)))).trans (hfr.2 b j hb)⟩
  exact t_vret hQ X hT hfr (Nat.le_of_ble_eq_true rfl) (Nat.le_of_ble_eq_true rfl) dX5_swap_14
set_option maxHeartbeats 4000000 in
set_option maxRecDepth 100000 in
theorem kt156_X5_advance (l : Launch) (G : KG) (tag : Nat → Nat) (L : List Nat) (Fo : Nat → va_E) (ho : okT G ttC tag L Fo) (p0 : Nat) (p1 : Int32) (m0 : p0 ∈ L) (g0 : tag p0 = 11) (h1 : 2 ≤ p1.toInt ∧ p1.toInt ≤ 6) : TMv l yX5_advance cX5_advance 6 { frames := 1, cells := 0, slots := 0, locals := 23 } G ttC tag L Fo [.ref p0, .int p1] (fun F1 => ((∀ b j : Nat, fld F1 b j = fld Fo b j) ∧ EF tag F1 Fo)) := by
  refine t_bodyv (y := yX5_advance) (cd := cX5_advance) (mL := 6) (rm := { frames := 1, cells := 0, slots := 0, locals := 23 }) (av := [.ref p0, .int p1]) (by decide) (Nat.le_of_ble_eq_true rfl) ho ?_
  intro p e s m args below meth c ls A Q hQ X hT hl
  have hx := X.1.1
  have hb := X.1.2.1
  have hl : lv_has ls 6 [(0, .ref p0), (1, .int p1)] := hl
  obtain ⟨F, hFo⟩ : ∃ F : Nat → va_E, F = Fo := ⟨_, rfl⟩
  rw [← hFo] at hT
  have hfr : (∀ b j : Nat, fld F b j = fld Fo b j) ∧ EF tag F Fo := by
    rw [hFo]
    exact ⟨by intros; rfl, fun _ _ _ => rfl⟩
  have K77 : ∀ (n : Nat) (z66974 : Int32) (z66975 : Int32) (z66976 : Int32) (z66977 : Int32) (F : Nat → va_E) (H : Heap) (locs : List Loc) (ls : Array Slot), (5 - z66976.toInt < (n : Int)) → (0 ≤ z66974.toInt ∧ z66974.toInt ≤ 4) → (0 ≤ z66975.toInt ∧ z66975.toInt ≤ 5) → (1 ≤ z66976.toInt ∧ z66976.toInt ≤ 5) → (1 ≤ z66977.toInt ∧ z66977.toInt ≤ 5) → TH G ttC A s tag L F H locs → ((∀ b j : Nat, fld F b j = fld Fo b j) ∧ EF tag F Fo) → lv_has ls 6 [(0, .ref p0), (1, .int p1), (2, .int z66974), (3, .int z66975), (4, .int z66976), (5, .int z66977)] → W p l e { frames := 1, cells := 0, slots := 0, locals := 23 } s m args below meth c H locs 0 0 Q (F0 m 77 ls []) := by
    intro n
    induction n with
    | zero =>
      intro z66974 z66975 z66976 z66977 F H locs ls hn rz66974 rz66975 rz66976 rz66977 hT hfr hl
      exfalso
      omega
    | succ n ih77 =>
      intro z66974 z66975 z66976 z66977 F H locs ls hn rz66974 rz66975 rz66976 rz66977 hT hfr hl
      refine lv_iload hx hb dX5_advance_77 (lv_at hl 4 rfl) ?_
      refine lv_iload hx hb dX5_advance_79 (lv_at hl 5 rfl) ?_
      refine lv_icmp_ge (tgt := 101) hx hb dX5_advance_81 (by decide) (fun c66978 => ?_) (fun c66978 => ?_)
      · have w66979 := cv_le (rfl : z66977.toInt = z66977.toInt) (rfl : z66976.toInt = z66976.toInt) c66978
        exact t_vret hQ X hT hfr (Nat.le_of_ble_eq_true rfl) (Nat.le_of_ble_eq_true rfl) dX5_advance_101
      · have w66980 := cv_nle (rfl : z66977.toInt = z66977.toInt) (rfl : z66976.toInt = z66976.toInt) c66978
        refine lv_aload_n hx hb dX5_advance_84 rfl (lv_at hl 0 rfl) ?_
        refine lv_iload hx hb dX5_advance_85 (lv_at hl 4 rfl) ?_
        refine lv_iload hx hb dX5_advance_87 (lv_at hl 5 rfl) ?_
        refine t_cSv (n := 3) (As := [.ref p0, .int z66976, .int z66977]) (rest := []) X hT (kt155_X5_swap l G tag L F hT.2.2.2 p0 z66976 z66977 m0 g0 (by omega) (by omega)) qw_1250 qw_1251 qw_1242 qw_1252 ⟨by decide +kernel, by decide +kernel, by decide +kernel⟩ ⟨Nat.le_of_ble_eq_true rfl, Nat.le_of_ble_eq_true rfl⟩ hl rfl rfl (Nat.le_of_ble_eq_true rfl) dX5_advance_89 ⟨Nat.le_of_ble_eq_true rfl, Nat.le_of_ble_eq_true rfl⟩ (fun F H locs hT hz66981 => ?_)
        have yz66981 := hz66981
        have hfr : (∀ b j : Nat, fld F b j = fld Fo b j) ∧ EF tag F Fo := ⟨fun b j  => (yz66981.1 b j ).trans (hfr.1 b j ), fun b j hb => (yz66981.2 b j hb).trans (hfr.2 b j hb)⟩
        obtain ⟨z66982, ez66982⟩ : ∃ y : Int32, y = z66976 + 1 := ⟨_, rfl⟩
        have hz66982 : z66982.toInt = z66976.toInt + 1 := ar_add ez66982 rfl (by decide : (1 : Int32).toInt = 1) (by omega) (by omega)
        refine lv_iinc (v := z66982) (lv' := [(4, .int z66982), (0, .ref p0), (1, .int p1), (2, .int z66974), (3, .int z66975), (5, .int z66977)]) hx hb dX5_advance_92 hl (k := 4) rfl (by rw [ez66982]; rfl) (by decide) rfl (fun ls hl => ?_)
        obtain ⟨z66983, ez66983⟩ : ∃ y : Int32, y = z66977 + (-1) := ⟨_, rfl⟩
        have hz66983 : z66983.toInt = z66977.toInt + (-1) := ar_add ez66983 rfl (by decide : ((-1) : Int32).toInt = (-1)) (by omega) (by omega)
        refine lv_iinc (v := z66983) (lv' := [(5, .int z66983), (4, .int z66982), (0, .ref p0), (1, .int p1), (2, .int z66974), (3, .int z66975)]) hx hb dX5_advance_95 hl (k := 5) rfl (by rw [ez66983]; rfl) (by decide) rfl (fun ls hl => ?_)
        refine lv_goto (tgt := 77) hx hb dX5_advance_98 (by decide) ?_
        exact ih77 z66974 z66975 z66982 z66983 _ _ _ _ (by omega) (by omega) (by omega) (by omega) (by omega) hT hfr  (lv_sub hl [2, 3, 4, 5, 1, 0] rfl)
  have K61 : ∀ (z66984 : Int32) (z66985 : Int32) (F : Nat → va_E) (H : Heap) (locs : List Loc) (ls : Array Slot), (0 ≤ z66984.toInt ∧ z66984.toInt ≤ 4) → (0 ≤ z66985.toInt ∧ z66985.toInt ≤ 5) → TH G ttC A s tag L F H locs → ((∀ b j : Nat, fld F b j = fld Fo b j) ∧ EF tag F Fo) → lv_has ls 6 [(0, .ref p0), (1, .int p1), (2, .int z66984), (3, .int z66985)] → W p l e { frames := 1, cells := 0, slots := 0, locals := 23 } s m args below meth c H locs 0 0 Q (F0 m 61 ls []) := by
    intro z66984 z66985 F H locs ls rz66984 rz66985 hT hfr hl
    refine lv_aload_n hx hb dX5_advance_61 rfl (lv_at hl 0 rfl) ?_
    refine lv_iload_n hx hb dX5_advance_62 rfl (lv_at hl 2 rfl) ?_
    refine lv_iload_n hx hb dX5_advance_63 rfl (lv_at hl 3 rfl) ?_
    refine t_cSv (n := 3) (As := [.ref p0, .int z66984, .int z66985]) (rest := []) X hT (kt155_X5_swap l G tag L F hT.2.2.2 p0 z66984 z66985 m0 g0 (by omega) (by omega)) qw_1250 qw_1251 qw_1242 qw_1252 ⟨by decide +kernel, by decide +kernel, by decide +kernel⟩ ⟨Nat.le_of_ble_eq_true rfl, Nat.le_of_ble_eq_true rfl⟩ hl rfl rfl (Nat.le_of_ble_eq_true rfl) dX5_advance_64 ⟨Nat.le_of_ble_eq_true rfl, Nat.le_of_ble_eq_true rfl⟩ (fun F H locs hT hz66986 => ?_)
    have yz66986 := hz66986
    have hfr : (∀ b j : Nat, fld F b j = fld Fo b j) ∧ EF tag F Fo := ⟨fun b j  => (yz66986.1 b j ).trans (hfr.1 b j ), fun b j hb => (yz66986.2 b j hb).trans (hfr.2 b j hb)⟩
    refine lv_iload_n hx hb dX5_advance_67 rfl (lv_at hl 2 rfl) ?_
    refine lv_iconst (v := 1) hx hb dX5_advance_68 (by decide) ?_
    refine lv_iadd hx hb dX5_advance_69 ?_
    refine lv_topi (fun z66987 ez66987 => ?_)
    have hz66987 : z66987.toInt = z66984.toInt + 1 := ar_add ez66987 (rfl : z66984.toInt = z66984.toInt) (by decide : (1 : Int32).toInt = 1) (by omega) (by omega)
    have rz66987 : 1 ≤ z66987.toInt ∧ z66987.toInt ≤ 5 := by omega
    refine lv_istore (lv' := [(4, .int z66987), (0, .ref p0), (1, .int p1), (2, .int z66984), (3, .int z66985)]) hx hb dX5_advance_70 hl (by decide) rfl (fun ls hl => ?_)
    refine lv_iload_n hx hb dX5_advance_72 rfl (lv_at hl 2 rfl) ?_
    refine lv_iconst (v := 1) hx hb dX5_advance_73 (by decide) ?_
    refine lv_isub hx hb dX5_advance_74 ?_
    refine lv_topi (fun z66988 ez66988 => ?_)
    have hz66988 : z66988.toInt = p1.toInt - 1 := ar_sub ez66988 (rfl : p1.toInt = p1.toInt) (by decide : (1 : Int32).toInt = 1) (by omega) (by omega)
    have rz66988 : 1 ≤ z66988.toInt ∧ z66988.toInt ≤ 5 := by omega
    refine lv_istore (lv' := [(5, .int z66988), (4, .int z66987), (0, .ref p0), (1, .int p1), (2, .int z66984), (3, .int z66985)]) hx hb dX5_advance_75 hl (by decide) rfl (fun ls hl => ?_)
    exact K77 5 z66984 z66985 z66987 z66988 _ _ _ _ (by omega) (by omega) (by omega) (by omega) (by omega) hT hfr  (lv_sub hl [2, 3, 4, 5, 1, 0] rfl)
  have K41 : ∀ (n : Nat) (z66989 : Int32) (z66990 : Int32) (F : Nat → va_E) (H : Heap) (locs : List Loc) (ls : Array Slot), (z66990.toInt - 0 < (n : Int)) → (0 ≤ z66989.toInt ∧ z66989.toInt ≤ 4) → (0 ≤ z66990.toInt ∧ z66990.toInt ≤ 5) → TH G ttC A s tag L F H locs → ((∀ b j : Nat, fld F b j = fld Fo b j) ∧ EF tag F Fo) → lv_has ls 6 [(0, .ref p0), (1, .int p1), (2, .int z66989), (3, .int z66990)] → W p l e { frames := 1, cells := 0, slots := 0, locals := 23 } s m args below meth c H locs 0 0 Q (F0 m 41 ls []) := by
    intro n
    induction n with
    | zero =>
      intro z66989 z66990 F H locs ls hn rz66989 rz66990 hT hfr hl
      exfalso
      omega
    | succ n ih41 =>
      intro z66989 z66990 F H locs ls hn rz66989 rz66990 hT hfr hl
      refine lv_iload_n hx hb dX5_advance_41 rfl (lv_at hl 3 rfl) ?_
      refine lv_iload_n hx hb dX5_advance_42 rfl (lv_at hl 2 rfl) ?_
      refine lv_icmp_le (tgt := 61) hx hb dX5_advance_43 (by decide) (fun c66991 => ?_) (fun c66991 => ?_)
      · have w66992 := cv_le (rfl : z66990.toInt = z66990.toInt) (rfl : z66989.toInt = z66989.toInt) c66991
        exact K61 z66989 z66990 _ _ _ _ (by omega) (by omega) hT hfr  (lv_sub hl [0, 1, 2, 3] rfl)
      · have w66993 := cv_nle (rfl : z66990.toInt = z66990.toInt) (rfl : z66989.toInt = z66989.toInt) c66991
        refine lv_aload_n hx hb dX5_advance_46 rfl (lv_at hl 0 rfl) ?_
        refine lv_iload_n hx hb dX5_advance_47 rfl (lv_at hl 3 rfl) ?_
        refine t_ild X hT m0 g0 rfl (by omega) dX5_advance_48 (fun z66994 vz66994 rz66994 => ?_)
        have rz66994 : 0 ≤ z66994.toInt ∧ z66994.toInt ≤ 5 := rz66994
        refine lv_aload_n hx hb dX5_advance_49 rfl (lv_at hl 0 rfl) ?_
        refine lv_iload_n hx hb dX5_advance_50 rfl (lv_at hl 2 rfl) ?_
        refine t_ild X hT m0 g0 rfl (by omega) dX5_advance_51 (fun z66995 vz66995 rz66995 => ?_)
        have rz66995 : 0 ≤ z66995.toInt ∧ z66995.toInt ≤ 5 := rz66995
        refine lv_icmp_ge (tgt := 61) hx hb dX5_advance_52 (by decide) (fun c66996 => ?_) (fun c66996 => ?_)
        · have w66997 := cv_le (rfl : z66995.toInt = z66995.toInt) (rfl : z66994.toInt = z66994.toInt) c66996
          exact K61 z66989 z66990 _ _ _ _ (by omega) (by omega) hT hfr  (lv_sub hl [0, 1, 2, 3] rfl)
        · have w66998 := cv_nle (rfl : z66995.toInt = z66995.toInt) (rfl : z66994.toInt = z66994.toInt) c66996
          obtain ⟨z66999, ez66999⟩ : ∃ y : Int32, y = z66990 + (-1) := ⟨_, rfl⟩
          have hz66999 : z66999.toInt = z66990.toInt + (-1) := ar_add ez66999 rfl (by decide : ((-1) : Int32).toInt = (-1)) (by omega) (by omega)
          refine lv_iinc (v := z66999) (lv' := [(3, .int z66999), (0, .ref p0), (1, .int p1), (2, .int z66989)]) hx hb dX5_advance_55 hl (k := 3) rfl (by rw [ez66999]; rfl) (by decide) rfl (fun ls hl => ?_)
          refine lv_goto (tgt := 41) hx hb dX5_advance_58 (by decide) ?_
          exact ih41 z66989 z66999 _ _ _ _ (by omega) (by omega) (by omega) hT hfr  (lv_sub hl [1, 2, 3, 0] rfl)
  have K32 : ∀ (z67000 : Int32) (F : Nat → va_E) (H : Heap) (locs : List Loc) (ls : Array Slot), ((-1) ≤ z67000.toInt ∧ z67000.toInt ≤ 4) → TH G ttC A s tag L F H locs → ((∀ b j : Nat, fld F b j = fld Fo b j) ∧ EF tag F Fo) → lv_has ls 6 [(0, .ref p0), (1, .int p1), (2, .int z67000)] → W p l e { frames := 1, cells := 0, slots := 0, locals := 23 } s m args below meth c H locs 0 0 Q (F0 m 32 ls []) := by
    intro z67000 F H locs ls rz67000 hT hfr hl
    refine lv_iload_n hx hb dX5_advance_32 rfl (lv_at hl 2 rfl) ?_
    refine lv_if_ge (tgt := 37) hx hb dX5_advance_33 (by decide) (fun c67001 => ?_) (fun c67001 => ?_)
    · have w67002 := cv_le (by decide : (0 : Int32).toInt = 0) (rfl : z67000.toInt = z67000.toInt) c67001
      refine lv_iload_n hx hb dX5_advance_37 rfl (lv_at hl 1 rfl) ?_
      refine lv_iconst (v := 1) hx hb dX5_advance_38 (by decide) ?_
      refine lv_isub hx hb dX5_advance_39 ?_
      refine lv_topi (fun z67003 ez67003 => ?_)
      have hz67003 : z67003.toInt = p1.toInt - 1 := ar_sub ez67003 (rfl : p1.toInt = p1.toInt) (by decide : (1 : Int32).toInt = 1) (by omega) (by omega)
      have rz67003 : 1 ≤ z67003.toInt ∧ z67003.toInt ≤ 5 := by omega
      refine lv_istore_n (lv' := [(3, .int z67003), (0, .ref p0), (1, .int p1), (2, .int z67000)]) hx hb dX5_advance_40 rfl hl (by decide) rfl (fun ls hl => ?_)
      exact K41 6 z67000 z67003 _ _ _ _ (by omega) (by omega) (by omega) hT hfr  (lv_sub hl [1, 2, 3, 0] rfl)
    · have w67004 := cv_nle (by decide : (0 : Int32).toInt = 0) (rfl : z67000.toInt = z67000.toInt) c67001
      exact t_vret hQ X hT hfr (Nat.le_of_ble_eq_true rfl) (Nat.le_of_ble_eq_true rfl) dX5_advance_36
  have K11 : ∀ (n : Nat) (z67005 : Int32) (F : Nat → va_E) (H : Heap) (locs : List Loc) (ls : Array Slot), (z67005.toInt - (-1) < (n : Int)) → ((-1) ≤ z67005.toInt ∧ z67005.toInt ≤ 4) → TH G ttC A s tag L F H locs → ((∀ b j : Nat, fld F b j = fld Fo b j) ∧ EF tag F Fo) → lv_has ls 6 [(0, .ref p0), (1, .int p1), (2, .int z67005)] → W p l e { frames := 1, cells := 0, slots := 0, locals := 23 } s m args below meth c H locs 0 0 Q (F0 m 11 ls []) := by
    intro n
    induction n with
    | zero =>
      intro z67005 F H locs ls hn rz67005 hT hfr hl
      exfalso
      omega
    | succ n ih11 =>
      intro z67005 F H locs ls hn rz67005 hT hfr hl
      refine lv_iload_n hx hb dX5_advance_11 rfl (lv_at hl 2 rfl) ?_
      refine lv_if_lt (tgt := 32) hx hb dX5_advance_12 (by decide) (fun c67006 => ?_) (fun c67006 => ?_)
      · have w67007 := cv_lt (rfl : z67005.toInt = z67005.toInt) (by decide : (0 : Int32).toInt = 0) c67006
        exact K32 z67005 _ _ _ _ (by omega) hT hfr  (lv_sub hl [0, 1, 2] rfl)
      · have w67008 := cv_nlt (rfl : z67005.toInt = z67005.toInt) (by decide : (0 : Int32).toInt = 0) c67006
        refine lv_aload_n hx hb dX5_advance_15 rfl (lv_at hl 0 rfl) ?_
        refine lv_iload_n hx hb dX5_advance_16 rfl (lv_at hl 2 rfl) ?_
        refine t_ild X hT m0 g0 rfl (by omega) dX5_advance_17 (fun z67009 vz67009 rz67009 => ?_)
        have rz67009 : 0 ≤ z67009.toInt ∧ z67009.toInt ≤ 5 := rz67009
        refine lv_aload_n hx hb dX5_advance_18 rfl (lv_at hl 0 rfl) ?_
        refine lv_iload_n hx hb dX5_advance_19 rfl (lv_at hl 2 rfl) ?_
        refine lv_iconst (v := 1) hx hb dX5_advance_20 (by decide) ?_
        refine lv_iadd hx hb dX5_advance_21 ?_
        refine lv_topi (fun z67010 ez67010 => ?_)
        have hz67010 : z67010.toInt = z67005.toInt + 1 := ar_add ez67010 (rfl : z67005.toInt = z67005.toInt) (by decide : (1 : Int32).toInt = 1) (by omega) (by omega)
        have rz67010 : 1 ≤ z67010.toInt ∧ z67010.toInt ≤ 5 := by omega
        refine t_ild X hT m0 g0 rfl (by omega) dX5_advance_22 (fun z67011 vz67011 rz67011 => ?_)
        have rz67011 : 0 ≤ z67011.toInt ∧ z67011.toInt ≤ 5 := rz67011
        refine lv_icmp_le (tgt := 32) hx hb dX5_advance_23 (by decide) (fun c67012 => ?_) (fun c67012 => ?_)
        · have w67013 := cv_le (rfl : z67009.toInt = z67009.toInt) (rfl : z67011.toInt = z67011.toInt) c67012
          exact K32 z67005 _ _ _ _ (by omega) hT hfr  (lv_sub hl [0, 1, 2] rfl)
        · have w67014 := cv_nle (rfl : z67009.toInt = z67009.toInt) (rfl : z67011.toInt = z67011.toInt) c67012
          obtain ⟨z67015, ez67015⟩ : ∃ y : Int32, y = z67005 + (-1) := ⟨_, rfl⟩
          have hz67015 : z67015.toInt = z67005.toInt + (-1) := ar_add ez67015 rfl (by decide : ((-1) : Int32).toInt = (-1)) (by omega) (by omega)
          refine lv_iinc (v := z67015) (lv' := [(2, .int z67015), (0, .ref p0), (1, .int p1)]) hx hb dX5_advance_26 hl (k := 2) rfl (by rw [ez67015]; rfl) (by decide) rfl (fun ls hl => ?_)
          refine lv_goto (tgt := 11) hx hb dX5_advance_29 (by decide) ?_
          exact ih11 z67015 _ _ _ _ (by omega) (by omega) hT hfr  (lv_sub hl [1, 2, 0] rfl)
  refine lv_iload_n hx hb dX5_advance_0 rfl (lv_at hl 1 rfl) ?_
  refine lv_aload_n hx hb dX5_advance_1 rfl (lv_at hl 0 rfl) ?_
  refine t_alen X hT m0 g0 rfl (by decide) dX5_advance_2 ?_
  refine lv_topi (fun z67016 ez67016 => ?_)
  obtain rfl : z67016 = 6 := ez67016.trans (by rfl)
  refine lv_icmp_le (tgt := 7) hx hb dX5_advance_3 (by decide) (fun c67017 => ?_) (fun c67017 => ?_)
  · have w67018 := cv_le (rfl : p1.toInt = p1.toInt) (by decide : (6 : Int32).toInt = 6) c67017
    refine lv_iload_n hx hb dX5_advance_7 rfl (lv_at hl 1 rfl) ?_
    refine lv_iconst (v := 2) hx hb dX5_advance_8 (by decide) ?_
    refine lv_isub hx hb dX5_advance_9 ?_
    refine lv_topi (fun z67019 ez67019 => ?_)
    have hz67019 : z67019.toInt = p1.toInt - 2 := ar_sub ez67019 (rfl : p1.toInt = p1.toInt) (by decide : (2 : Int32).toInt = 2) (by omega) (by omega)
    have rz67019 : 0 ≤ z67019.toInt ∧ z67019.toInt ≤ 4 := by omega
    refine lv_istore_n (lv' := [(2, .int z67019), (0, .ref p0), (1, .int p1)]) hx hb dX5_advance_10 rfl hl (by decide) rfl (fun ls hl => ?_)
    exact K11 6 z67019 _ _ _ _ (by omega) (by omega) hT hfr  (lv_sub hl [1, 2, 0] rfl)
  · have w67020 := cv_nle (rfl : p1.toInt = p1.toInt) (by decide : (6 : Int32).toInt = 6) c67017
    exfalso
    omega
set_option maxHeartbeats 4000000 in
set_option maxRecDepth 100000 in
theorem kt157_X5_advance (l : Launch) (G : KG) (tag : Nat → Nat) (L : List Nat) (Fo : Nat → va_E) (ho : okT G ttC tag L Fo) (p0 : Nat) (p1 : Int32) (m0 : p0 ∈ L) (g0 : tag p0 = 11) (h1 : 0 ≤ p1.toInt ∧ p1.toInt ≤ 1) : TMv l yX5_advance cX5_advance 6 { frames := 1, cells := 0, slots := 0, locals := 23 } G ttC tag L Fo [.ref p0, .int p1] (fun F1 => ((∀ b j : Nat, fld F1 b j = fld Fo b j) ∧ EF tag F1 Fo)) := by
  refine t_bodyv (y := yX5_advance) (cd := cX5_advance) (mL := 6) (rm := { frames := 1, cells := 0, slots := 0, locals := 23 }) (av := [.ref p0, .int p1]) (by decide) (Nat.le_of_ble_eq_true rfl) ho ?_
  intro p e s m args below meth c ls A Q hQ X hT hl
  have hx := X.1.1
  have hb := X.1.2.1
  have hl : lv_has ls 6 [(0, .ref p0), (1, .int p1)] := hl
  obtain ⟨F, hFo⟩ : ∃ F : Nat → va_E, F = Fo := ⟨_, rfl⟩
  rw [← hFo] at hT
  have hfr : (∀ b j : Nat, fld F b j = fld Fo b j) ∧ EF tag F Fo := by
    rw [hFo]
    exact ⟨by intros; rfl, fun _ _ _ => rfl⟩
  have K32 : ∀ (z67168 : Int32) (F : Nat → va_E) (H : Heap) (locs : List Loc) (ls : Array Slot), ((-2) ≤ z67168.toInt ∧ z67168.toInt ≤ (-1)) → TH G ttC A s tag L F H locs → ((∀ b j : Nat, fld F b j = fld Fo b j) ∧ EF tag F Fo) → lv_has ls 6 [(0, .ref p0), (1, .int p1), (2, .int z67168)] → W p l e { frames := 1, cells := 0, slots := 0, locals := 23 } s m args below meth c H locs 0 0 Q (F0 m 32 ls []) := by
    intro z67168 F H locs ls rz67168 hT hfr hl
    refine lv_iload_n hx hb dX5_advance_32 rfl (lv_at hl 2 rfl) ?_
    refine lv_if_ge (tgt := 37) hx hb dX5_advance_33 (by decide) (fun c67169 => ?_) (fun c67169 => ?_)
    · have w67170 := cv_le (by decide : (0 : Int32).toInt = 0) (rfl : z67168.toInt = z67168.toInt) c67169
      exfalso
      omega
    · have w67171 := cv_nle (by decide : (0 : Int32).toInt = 0) (rfl : z67168.toInt = z67168.toInt) c67169
      exact t_vret hQ X hT hfr (Nat.le_of_ble_eq_true rfl) (Nat.le_of_ble_eq_true rfl) dX5_advance_36
  have K11 : ∀ (z67172 : Int32) (F : Nat → va_E) (H : Heap) (locs : List Loc) (ls : Array Slot), ((-2) ≤ z67172.toInt ∧ z67172.toInt ≤ (-1)) → TH G ttC A s tag L F H locs → ((∀ b j : Nat, fld F b j = fld Fo b j) ∧ EF tag F Fo) → lv_has ls 6 [(0, .ref p0), (1, .int p1), (2, .int z67172)] → W p l e { frames := 1, cells := 0, slots := 0, locals := 23 } s m args below meth c H locs 0 0 Q (F0 m 11 ls []) := by
    intro z67172 F H locs ls rz67172 hT hfr hl
    refine lv_iload_n hx hb dX5_advance_11 rfl (lv_at hl 2 rfl) ?_
    refine lv_if_lt (tgt := 32) hx hb dX5_advance_12 (by decide) (fun c67173 => ?_) (fun c67173 => ?_)
    · have w67174 := cv_lt (rfl : z67172.toInt = z67172.toInt) (by decide : (0 : Int32).toInt = 0) c67173
      exact K32 z67172 _ _ _ _ (by omega) hT hfr  (lv_sub hl [0, 1, 2] rfl)
    · have w67175 := cv_nlt (rfl : z67172.toInt = z67172.toInt) (by decide : (0 : Int32).toInt = 0) c67173
      exfalso
      omega
  refine lv_iload_n hx hb dX5_advance_0 rfl (lv_at hl 1 rfl) ?_
  refine lv_aload_n hx hb dX5_advance_1 rfl (lv_at hl 0 rfl) ?_
  refine t_alen X hT m0 g0 rfl (by decide) dX5_advance_2 ?_
  refine lv_topi (fun z67176 ez67176 => ?_)
  obtain rfl : z67176 = 6 := ez67176.trans (by rfl)
  refine lv_icmp_le (tgt := 7) hx hb dX5_advance_3 (by decide) (fun c67177 => ?_) (fun c67177 => ?_)
  · have w67178 := cv_le (rfl : p1.toInt = p1.toInt) (by decide : (6 : Int32).toInt = 6) c67177
    refine lv_iload_n hx hb dX5_advance_7 rfl (lv_at hl 1 rfl) ?_
    refine lv_iconst (v := 2) hx hb dX5_advance_8 (by decide) ?_
    refine lv_isub hx hb dX5_advance_9 ?_
    refine lv_topi (fun z67179 ez67179 => ?_)
    have hz67179 : z67179.toInt = p1.toInt - 2 := ar_sub ez67179 (rfl : p1.toInt = p1.toInt) (by decide : (2 : Int32).toInt = 2) (by omega) (by omega)
    have rz67179 : (-2) ≤ z67179.toInt ∧ z67179.toInt ≤ (-1) := by omega
    refine lv_istore_n (lv' := [(2, .int z67179), (0, .ref p0), (1, .int p1)]) hx hb dX5_advance_10 rfl hl (by decide) rfl (fun ls hl => ?_)
    exact K11 z67179 _ _ _ _ (by omega) hT hfr  (lv_sub hl [1, 2, 0] rfl)
  · have w67180 := cv_nle (rfl : p1.toInt = p1.toInt) (by decide : (6 : Int32).toInt = 6) c67177
    exfalso
    omega
theorem kt158_X5_advance (l : Launch) (G : KG) (tag : Nat → Nat) (L : List Nat) (Fo : Nat → va_E) (ho : okT G ttC tag L Fo) (p0 : Nat) (p1 : Int32) (m0 : p0 ∈ L) (g0 : tag p0 = 11) (h1 : 0 ≤ p1.toInt ∧ p1.toInt ≤ 6) : TMv l yX5_advance cX5_advance 6 { frames := 1, cells := 0, slots := 0, locals := 23 } G ttC tag L Fo [.ref p0, .int p1] (fun F1 => ((∀ b j : Nat, fld F1 b j = fld Fo b j) ∧ EF tag F1 Fo)) := by
  by_cases h9 : p1.toInt < 2
  · exact kt157_X5_advance l G tag L Fo ho p0 p1 m0 g0 (by omega)
  · exact kt156_X5_advance l G tag L Fo ho p0 p1 m0 g0 (by omega)
set_option maxHeartbeats 4000000 in
set_option maxRecDepth 100000 in
theorem kt159_X9_lookAtAll (l : Launch) (G : KG) (tag : Nat → Nat) (L : List Nat) (Fo : Nat → va_E) (ho : okT G ttC tag L Fo) (p0 : Nat) (p1 : Nat) (p2 : Int32) (m0 : p0 ∈ L) (g0 : tag p0 = 22) (m1 : p1 ∈ L) (g1 : tag p1 = 18) : TMv l yX9_lookAtAll cX9_lookAtAll 4 { frames := 3, cells := 0, slots := 0, locals := 63 } G ttC tag L Fo [.ref p0, .ref p1, .int p2] (fun F1 => ((∀ b j : Nat, (tag b ≠ 22 ∨ j ≠ 2) → fld F1 b j = fld Fo b j) ∧ EF tag F1 Fo)) := by
  refine t_bodyv (y := yX9_lookAtAll) (cd := cX9_lookAtAll) (mL := 4) (rm := { frames := 3, cells := 0, slots := 0, locals := 63 }) (av := [.ref p0, .ref p1, .int p2]) (by decide) (Nat.le_of_ble_eq_true rfl) ho ?_
  intro p e s m args below meth c ls A Q hQ X hT hl
  have hx := X.1.1
  have hb := X.1.2.1
  have hl : lv_has ls 4 [(0, .ref p0), (1, .ref p1), (2, .int p2)] := hl
  have rp2 := rg_all p2
  obtain ⟨F, hFo⟩ : ∃ F : Nat → va_E, F = Fo := ⟨_, rfl⟩
  rw [← hFo] at hT
  have hfr : (∀ b j : Nat, (tag b ≠ 22 ∨ j ≠ 2) → fld F b j = fld Fo b j) ∧ EF tag F Fo := by
    rw [hFo]
    exact ⟨by intros; rfl, fun _ _ _ => rfl⟩
  have K55 : ∀ (n : Nat) (z68789 : Int32) (z68790 : Int32) (z68791 : Int32) (F : Nat → va_E) (H : Heap) (locs : List Loc) (ls : Array Slot), (720 - z68789.toInt < (n : Int)) → (0 ≤ z68789.toInt ∧ z68789.toInt ≤ 720) → (0 ≤ z68791.toInt ∧ z68791.toInt ≤ 6) → TH G ttC A s tag L F H locs → ((∀ b j : Nat, (tag b ≠ 22 ∨ j ≠ 2) → fld F b j = fld Fo b j) ∧ EF tag F Fo) → fld F p0 2 = .int z68790 → fld F p1 16 = .int z68791 → lv_has ls 4 [(0, .ref p0), (1, .ref p1), (2, .int p2), (3, .int z68789)] → W p l e { frames := 3, cells := 0, slots := 0, locals := 63 } s m args below meth c H locs 0 0 Q (F0 m 55 ls []) := by
    intro n
    induction n with
    | zero =>
      intro z68789 z68790 z68791 F H locs ls hn rz68789 rz68791 hT hfr qz68790 qz68791 hl
      have rz68790 := rg_all z68790
      exfalso
      omega
    | succ n ih55 =>
      intro z68789 z68790 z68791 F H locs ls hn rz68789 rz68791 hT hfr qz68790 qz68791 hl
      have rz68790 := rg_all z68790
      have K92 : ∀ (z68793 : Int32) (z68794 : Int32) (F : Nat → va_E) (H : Heap) (locs : List Loc) (ls : Array Slot), (0 ≤ z68794.toInt ∧ z68794.toInt ≤ 6) → (0 ≤ z68789.toInt ∧ z68789.toInt ≤ 719) → TH G ttC A s tag L F H locs → ((∀ b j : Nat, (tag b ≠ 22 ∨ j ≠ 2) → fld F b j = fld Fo b j) ∧ EF tag F Fo) → fld F p0 2 = .int z68793 → fld F p1 16 = .int z68794 → lv_has ls 4 [(0, .ref p0), (1, .ref p1), (2, .int p2), (3, .int z68789)] → W p l e { frames := 3, cells := 0, slots := 0, locals := 63 } s m args below meth c H locs 0 0 Q (F0 m 92 ls []) := by
        intro z68793 z68794 F H locs ls rz68794 r9s68792 hT hfr qz68793 qz68794 hl
        have rz68793 := rg_all z68793
        refine lv_aload_n hx hb dX9_lookAtAll_92 rfl (lv_at hl 0 rfl) ?_
        refine t_get (C := RX9) (T := TX9) (N := 6) X hT m0 g0 rfl rfl 0 (by decide) qw_93 inlX9 rfl dX9_lookAtAll_93 (fun v68795 hv68795 ov68795 => ?_)
        obtain ⟨b68796, rfl, mb68796, gb68796⟩ := okV_r ov68795
        have gb68796 : tag b68796 = 11 := tg_of gb68796
        refine lv_aload_n hx hb dX9_lookAtAll_96 rfl (lv_at hl 1 rfl) ?_
        refine t_get (C := RX1) (T := TX1) (N := 20) X hT m1 g1 rfl rfl 16 (by decide) qw_1338 inlX1 rfl dX9_lookAtAll_97 (fun v68797 hv68797 ov68797 => ?_)
        obtain rfl : v68797 = .int z68794 := hv68797.symm.trans qz68794
        refine t_cSv (n := 2) (As := [.ref b68796, .int z68794]) (rest := []) X hT (kt158_X5_advance l G tag L F hT.2.2.2 b68796 z68794 mb68796 gb68796 (by omega)) qw_1356 qw_1248 qw_1242 qw_1249 ⟨by decide +kernel, by decide +kernel, by decide +kernel⟩ ⟨Nat.le_of_ble_eq_true rfl, Nat.le_of_ble_eq_true rfl⟩ hl rfl rfl (Nat.le_of_ble_eq_true rfl) dX9_lookAtAll_100 ⟨Nat.le_of_ble_eq_true rfl, Nat.le_of_ble_eq_true rfl⟩ (fun F H locs hT hz68798 => ?_)
        have yz68798 := hz68798
        have qz68793 := (yz68798.1 _ 2 ).trans qz68793
        have qz68794 := (yz68798.1 _ 16 ).trans qz68794
        have hv68795 := (yz68798.1 _ 0 ).trans hv68795
        have hfr : (∀ b j : Nat, (tag b ≠ 22 ∨ j ≠ 2) → fld F b j = fld Fo b j) ∧ EF tag F Fo := ⟨fun b j n22_2 => (yz68798.1 b j ).trans (hfr.1 b j n22_2), fun b j hb => (yz68798.2 b j hb).trans (hfr.2 b j hb)⟩
        obtain ⟨z68799, ez68799⟩ : ∃ y : Int32, y = z68789 + 1 := ⟨_, rfl⟩
        have hz68799 : z68799.toInt = z68789.toInt + 1 := ar_add ez68799 rfl (by decide : (1 : Int32).toInt = 1) (by omega) (by omega)
        refine lv_iinc (v := z68799) (lv' := [(3, .int z68799), (0, .ref p0), (1, .ref p1), (2, .int p2)]) hx hb dX9_lookAtAll_103 hl (k := 3) rfl (by rw [ez68799]; rfl) (by decide) rfl (fun ls hl => ?_)
        refine lv_goto (tgt := 55) hx hb dX9_lookAtAll_106 (by decide) ?_
        exact ih55 z68799 z68793 z68794 _ _ _ _ (by omega) (by omega) (by omega) hT hfr qz68793 qz68794 (lv_sub hl [1, 2, 3, 0] rfl)
      refine lv_iload_n hx hb dX9_lookAtAll_55 rfl (lv_at hl 3 rfl) ?_
      refine t_getsN X hT X.2.2.2.1.2.1.2.2.1 (List.mem_of_getElem? (i := 3) rfl) dX9_lookAtAll_56 ?_
      refine lv_aload_n hx hb dX9_lookAtAll_59 rfl (lv_at hl 1 rfl) ?_
      refine t_get (C := RX1) (T := TX1) (N := 20) X hT m1 g1 rfl rfl 16 (by decide) qw_1338 inlX1 rfl dX9_lookAtAll_60 (fun v68800 hv68800 ov68800 => ?_)
      obtain rfl : v68800 = .int z68791 := hv68800.symm.trans qz68791
      refine t_tild X hT X.2.2.2.1.2.1.2.2.1 (by omega) dX9_lookAtAll_63 (fun z68801 ez68801 => ?_)
      have rz68801 : 1 ≤ z68801.toInt ∧ z68801.toInt ≤ 720 := by rw [ez68801]; exact gRows_r _
      refine lv_icmp_ge (tgt := 109) hx hb dX9_lookAtAll_64 (by decide) (fun c68802 => ?_) (fun c68802 => ?_)
      · have w68803 := cv_le (rfl : z68801.toInt = z68801.toInt) (rfl : z68789.toInt = z68789.toInt) c68802
        exact t_vret hQ X hT hfr (Nat.le_of_ble_eq_true rfl) (Nat.le_of_ble_eq_true rfl) dX9_lookAtAll_109
      · have w68804 := cv_nle (rfl : z68801.toInt = z68801.toInt) (rfl : z68789.toInt = z68789.toInt) c68802
        refine lv_aload_n hx hb dX9_lookAtAll_67 rfl (lv_at hl 0 rfl) ?_
        refine lv_aload_n hx hb dX9_lookAtAll_68 rfl (lv_at hl 1 rfl) ?_
        refine lv_iload_n hx hb dX9_lookAtAll_69 rfl (lv_at hl 2 rfl) ?_
        refine t_cVi (n := 2) (C := RX9) (T := TX9) (N := 6) (As := [.ref p1, .int p2]) (rest := []) X hT (kt153_X9_canBe l G tag L F hT.2.2.2 p0 p1 p2 m0 g0 m1 g1) m0 g0 rfl rfl qw_1340 qw_1341 qw_1342 qw_40 qw_1343 ⟨rfl, by decide +kernel, by decide +kernel, by decide +kernel⟩ ⟨Nat.le_of_ble_eq_true rfl, Nat.le_of_ble_eq_true rfl⟩ hl rfl rfl (Nat.le_of_ble_eq_true rfl) dX9_lookAtAll_70 ⟨Nat.le_of_ble_eq_true rfl, Nat.le_of_ble_eq_true rfl⟩ (fun z68805 F H locs hT hz68805 => ?_)
        obtain ⟨hz68805, yz68805⟩ := hz68805
        have qz68790 := (yz68805.1 _ 2 ).trans qz68790
        have qz68791 := (yz68805.1 _ 16 ).trans qz68791
        have hfr : (∀ b j : Nat, (tag b ≠ 22 ∨ j ≠ 2) → fld F b j = fld Fo b j) ∧ EF tag F Fo := ⟨fun b j n22_2 => (yz68805.1 b j ).trans (hfr.1 b j n22_2), fun b j hb => (yz68805.2 b j hb).trans (hfr.2 b j hb)⟩
        refine lv_if_eq (tgt := 92) hx hb dX9_lookAtAll_73 (by decide) (fun c68806 => ?_) (fun c68806 => ?_)
        · have w68807 := cv_eq (rfl : z68805.toInt = z68805.toInt) (by decide : (0 : Int32).toInt = 0) c68806
          exact K92 z68790 z68791 _ _ _ _ (by omega) (by omega) hT hfr qz68790 qz68791 (lv_sub hl [0, 1, 2, 3] rfl)
        · have w68808 := cv_ne (rfl : z68805.toInt = z68805.toInt) (by decide : (0 : Int32).toInt = 0) c68806
          refine lv_aload_n hx hb dX9_lookAtAll_76 rfl (lv_at hl 0 rfl) ?_
          refine lv_dup hx hb dX9_lookAtAll_77 rfl ?_
          refine t_get (C := RX9) (T := TX9) (N := 6) X hT m0 g0 rfl rfl 2 (by decide) qw_1337 inlX9 rfl dX9_lookAtAll_78 (fun v68809 hv68809 ov68809 => ?_)
          obtain rfl : v68809 = .int z68790 := hv68809.symm.trans qz68790
          refine lv_iconst (v := 1) hx hb dX9_lookAtAll_81 (by decide) ?_
          refine lv_iadd hx hb dX9_lookAtAll_82 ?_
          refine lv_topi (fun z68810 ez68810 => ?_)
          have rz68810 := rg_all z68810
          refine t_put (C := RX9) (T := TX9) (N := 6) (v := .int z68810) X hT m0 g0 rfl tyX9 tyX9_ok nmX9 rfl 2 (by decide) qw_1337 inlX9 rfl (by first | rfl | decide) (by first | rfl | decide) rfl (⟨_, rfl, (show (-2147483648) ≤ (z68810 : Int32).toInt from (by omega)), (show (z68810 : Int32).toInt ≤ 2147483647 from (by omega))⟩) dX9_lookAtAll_83 (fun F H locs hT v68811 h1v68811 h2v68811 => ?_)
          have qz68791 := (h1v68811 _ _ (Or.inr (by decide))).trans qz68791
          have hfr : (∀ b j : Nat, (tag b ≠ 22 ∨ j ≠ 2) → fld F b j = fld Fo b j) ∧ EF tag F Fo := ⟨fun b j n22_2 => (h1v68811 b j (fr_ne g0 n22_2)).trans (hfr.1 b j n22_2), fun b j hb => (h2v68811 b j).trans (hfr.2 b j hb)⟩
          refine lv_aload_n hx hb dX9_lookAtAll_86 rfl (lv_at hl 0 rfl) ?_
          refine lv_aload_n hx hb dX9_lookAtAll_87 rfl (lv_at hl 1 rfl) ?_
          refine lv_iload_n hx hb dX9_lookAtAll_88 rfl (lv_at hl 2 rfl) ?_
          refine t_cVv (n := 2) (C := RX9) (T := TX9) (N := 6) (As := [.ref p1, .int p2]) (rest := []) X hT (kt154_X9_noteRow l G tag L F hT.2.2.2 p0 p1 p2 m0 g0 m1 g1) m0 g0 rfl rfl qw_1352 qw_1353 qw_1354 qw_40 qw_1355 ⟨rfl, by decide +kernel, by decide +kernel, by decide +kernel⟩ ⟨Nat.le_of_ble_eq_true rfl, Nat.le_of_ble_eq_true rfl⟩ hl rfl rfl (Nat.le_of_ble_eq_true rfl) dX9_lookAtAll_89 ⟨Nat.le_of_ble_eq_true rfl, Nat.le_of_ble_eq_true rfl⟩ (fun F H locs hT hz68812 => ?_)
          have yz68812 := hz68812
          have qz68791 := (yz68812.1 _ 16 ).trans qz68791
          have v68811 := (yz68812.1 _ 2 ).trans v68811
          have hfr : (∀ b j : Nat, (tag b ≠ 22 ∨ j ≠ 2) → fld F b j = fld Fo b j) ∧ EF tag F Fo := ⟨fun b j n22_2 => (yz68812.1 b j ).trans (hfr.1 b j n22_2), fun b j hb => (yz68812.2 b j hb).trans (hfr.2 b j hb)⟩
          exact K92 z68810 z68791 _ _ _ _ (by omega) (by omega) hT hfr v68811 qz68791 (lv_sub hl [0, 1, 2, 3] rfl)
  have K7 : ∀ (n : Nat) (z68813 : Int32) (z68814 : Int32) (F : Nat → va_E) (H : Heap) (locs : List Loc) (ls : Array Slot), (6 - z68813.toInt < (n : Int)) → (0 ≤ z68813.toInt ∧ z68813.toInt ≤ 6) → (0 ≤ z68814.toInt ∧ z68814.toInt ≤ 0) → TH G ttC A s tag L F H locs → ((∀ b j : Nat, (tag b ≠ 22 ∨ j ≠ 2) → fld F b j = fld Fo b j) ∧ EF tag F Fo) → fld F p0 2 = .int z68814 → lv_has ls 4 [(0, .ref p0), (1, .ref p1), (2, .int p2), (3, .int z68813)] → W p l e { frames := 3, cells := 0, slots := 0, locals := 63 } s m args below meth c H locs 0 0 Q (F0 m 7 ls []) := by
    intro n
    induction n with
    | zero =>
      intro z68813 z68814 F H locs ls hn rz68813 rz68814 hT hfr qz68814 hl
      exfalso
      omega
    | succ n ih7 =>
      intro z68813 z68814 F H locs ls hn rz68813 rz68814 hT hfr qz68814 hl
      refine lv_iload_n hx hb dX9_lookAtAll_7 rfl (lv_at hl 3 rfl) ?_
      refine lv_bipush (v := 6) hx hb dX9_lookAtAll_8 (by decide) ?_
      refine lv_icmp_ge (tgt := 42) hx hb dX9_lookAtAll_10 (by decide) (fun c68815 => ?_) (fun c68815 => ?_)
      · have w68816 := cv_le (by decide : (6 : Int32).toInt = 6) (rfl : z68813.toInt = z68813.toInt) c68815
        refine lv_aload_n hx hb dX9_lookAtAll_42 rfl (lv_at hl 0 rfl) ?_
        refine t_get (C := RX9) (T := TX9) (N := 6) X hT m0 g0 rfl rfl 0 (by decide) qw_93 inlX9 rfl dX9_lookAtAll_43 (fun v68817 hv68817 ov68817 => ?_)
        obtain ⟨b68818, rfl, mb68818, gb68818⟩ := okV_r ov68817
        have gb68818 : tag b68818 = 11 := tg_of gb68818
        refine lv_aload_n hx hb dX9_lookAtAll_46 rfl (lv_at hl 1 rfl) ?_
        refine t_get (C := RX1) (T := TX1) (N := 20) X hT m1 g1 rfl rfl 16 (by decide) qw_1338 inlX1 rfl dX9_lookAtAll_47 (fun v68819 hv68819 ov68819 => ?_)
        obtain ⟨z68820, rfl, rz68820⟩ := okV_i ov68819
        refine t_cSv (n := 2) (As := [.ref b68818, .int z68820]) (rest := []) X hT (kt151_X5_begin l G tag L F hT.2.2.2 b68818 z68820 mb68818 gb68818 (by omega)) qw_1339 qw_1241 qw_1242 qw_1243 ⟨by decide +kernel, by decide +kernel, by decide +kernel⟩ ⟨Nat.le_of_ble_eq_true rfl, Nat.le_of_ble_eq_true rfl⟩ hl rfl rfl (Nat.le_of_ble_eq_true rfl) dX9_lookAtAll_50 ⟨Nat.le_of_ble_eq_true rfl, Nat.le_of_ble_eq_true rfl⟩ (fun F H locs hT hz68821 => ?_)
        have yz68821 := hz68821
        have qz68814 := (yz68821.1 _ 2 ).trans qz68814
        have hv68817 := (yz68821.1 _ 0 ).trans hv68817
        have hv68819 := (yz68821.1 _ 16 ).trans hv68819
        have hfr : (∀ b j : Nat, (tag b ≠ 22 ∨ j ≠ 2) → fld F b j = fld Fo b j) ∧ EF tag F Fo := ⟨fun b j n22_2 => (yz68821.1 b j ).trans (hfr.1 b j n22_2), fun b j hb => (yz68821.2 b j hb).trans (hfr.2 b j hb)⟩
        refine lv_iconst (v := 0) hx hb dX9_lookAtAll_53 (by decide) ?_
        refine lv_istore_n (lv' := [(3, .int 0), (0, .ref p0), (1, .ref p1), (2, .int p2)]) hx hb dX9_lookAtAll_54 rfl hl (by decide) rfl (fun ls hl => ?_)
        have kk68822 : (0 : Int32).toInt = 0 := by decide
        exact K55 721 0 z68814 z68820 _ _ _ _ (by omega) (by decide) (by omega) hT hfr qz68814 hv68819 (lv_sub hl [1, 2, 3, 0] rfl)
      · have w68823 := cv_nle (by decide : (6 : Int32).toInt = 6) (rfl : z68813.toInt = z68813.toInt) c68815
        refine lv_aload_n hx hb dX9_lookAtAll_13 rfl (lv_at hl 0 rfl) ?_
        refine t_get (C := RX9) (T := TX9) (N := 6) X hT m0 g0 rfl rfl 3 (by decide) qw_95 inlX9 rfl dX9_lookAtAll_14 (fun v68824 hv68824 ov68824 => ?_)
        obtain ⟨b68825, rfl, mb68825, gb68825⟩ := okV_r ov68824
        have gb68825 : tag b68825 = 7 := tg_of gb68825
        refine lv_iload_n hx hb dX9_lookAtAll_17 rfl (lv_at hl 3 rfl) ?_
        refine lv_sipush (v := 999) hx hb dX9_lookAtAll_18 (by decide) ?_
        refine t_ist X hT mb68825 gb68825 rfl (by omega) (show (-2147483648) ≤ (999 : Int32).toInt ∧ (999 : Int32).toInt ≤ 2147483647 from (by decide)) dX9_lookAtAll_21 (fun F H locs hT v68826 h1v68826 h2v68826 => ?_)
        have qz68814 := (h2v68826 _ _).trans qz68814
        have hv68824 := (h2v68826 _ _).trans hv68824
        have hfr : (∀ b j : Nat, (tag b ≠ 22 ∨ j ≠ 2) → fld F b j = fld Fo b j) ∧ EF tag F Fo := ⟨fun b j n22_2 => (h2v68826 b j).trans (hfr.1 b j n22_2), fun b j hb => (h1v68826 b j (Or.inl (ns_ne hb gb68825 (by decide)))).trans (hfr.2 b j hb)⟩
        refine lv_aload_n hx hb dX9_lookAtAll_22 rfl (lv_at hl 0 rfl) ?_
        refine t_get (C := RX9) (T := TX9) (N := 6) X hT m0 g0 rfl rfl 4 (by decide) qw_96 inlX9 rfl dX9_lookAtAll_23 (fun v68827 hv68827 ov68827 => ?_)
        obtain ⟨b68828, rfl, mb68828, gb68828⟩ := okV_r ov68827
        have gb68828 : tag b68828 = 7 := tg_of gb68828
        refine lv_iload_n hx hb dX9_lookAtAll_26 rfl (lv_at hl 3 rfl) ?_
        refine lv_iconst (v := 0) hx hb dX9_lookAtAll_27 (by decide) ?_
        refine t_ist X hT mb68828 gb68828 rfl (by omega) (show (-2147483648) ≤ (0 : Int32).toInt ∧ (0 : Int32).toInt ≤ 2147483647 from (by decide)) dX9_lookAtAll_28 (fun F H locs hT v68829 h1v68829 h2v68829 => ?_)
        have qz68814 := (h2v68829 _ _).trans qz68814
        have hv68824 := (h2v68829 _ _).trans hv68824
        have hv68827 := (h2v68829 _ _).trans hv68827
        have hfr : (∀ b j : Nat, (tag b ≠ 22 ∨ j ≠ 2) → fld F b j = fld Fo b j) ∧ EF tag F Fo := ⟨fun b j n22_2 => (h2v68829 b j).trans (hfr.1 b j n22_2), fun b j hb => (h1v68829 b j (Or.inl (ns_ne hb gb68828 (by decide)))).trans (hfr.2 b j hb)⟩
        refine lv_aload_n hx hb dX9_lookAtAll_29 rfl (lv_at hl 0 rfl) ?_
        refine t_get (C := RX9) (T := TX9) (N := 6) X hT m0 g0 rfl rfl 5 (by decide) qw_97 inlX9 rfl dX9_lookAtAll_30 (fun v68830 hv68830 ov68830 => ?_)
        obtain ⟨b68831, rfl, mb68831, gb68831⟩ := okV_r ov68830
        have gb68831 : tag b68831 = 7 := tg_of gb68831
        refine lv_iload_n hx hb dX9_lookAtAll_33 rfl (lv_at hl 3 rfl) ?_
        refine lv_iconst (v := (-1)) hx hb dX9_lookAtAll_34 (by decide) ?_
        refine t_ist X hT mb68831 gb68831 rfl (by omega) (show (-2147483648) ≤ ((-1) : Int32).toInt ∧ ((-1) : Int32).toInt ≤ 2147483647 from (by decide)) dX9_lookAtAll_35 (fun F H locs hT v68832 h1v68832 h2v68832 => ?_)
        have qz68814 := (h2v68832 _ _).trans qz68814
        have hv68824 := (h2v68832 _ _).trans hv68824
        have hv68827 := (h2v68832 _ _).trans hv68827
        have hv68830 := (h2v68832 _ _).trans hv68830
        have hfr : (∀ b j : Nat, (tag b ≠ 22 ∨ j ≠ 2) → fld F b j = fld Fo b j) ∧ EF tag F Fo := ⟨fun b j n22_2 => (h2v68832 b j).trans (hfr.1 b j n22_2), fun b j hb => (h1v68832 b j (Or.inl (ns_ne hb gb68831 (by decide)))).trans (hfr.2 b j hb)⟩
        obtain ⟨z68833, ez68833⟩ : ∃ y : Int32, y = z68813 + 1 := ⟨_, rfl⟩
        have hz68833 : z68833.toInt = z68813.toInt + 1 := ar_add ez68833 rfl (by decide : (1 : Int32).toInt = 1) (by omega) (by omega)
        refine lv_iinc (v := z68833) (lv' := [(3, .int z68833), (0, .ref p0), (1, .ref p1), (2, .int p2)]) hx hb dX9_lookAtAll_36 hl (k := 3) rfl (by rw [ez68833]; rfl) (by decide) rfl (fun ls hl => ?_)
        refine lv_goto (tgt := 7) hx hb dX9_lookAtAll_39 (by decide) ?_
        exact ih7 z68833 z68814 _ _ _ _ (by omega) (by omega) (by omega) hT hfr qz68814 (lv_sub hl [1, 2, 3, 0] rfl)
  refine lv_aload_n hx hb dX9_lookAtAll_0 rfl (lv_at hl 0 rfl) ?_
  refine lv_iconst (v := 0) hx hb dX9_lookAtAll_1 (by decide) ?_
  refine t_put (C := RX9) (T := TX9) (N := 6) (v := .int 0) X hT m0 g0 rfl tyX9 tyX9_ok nmX9 rfl 2 (by decide) qw_1337 inlX9 rfl (by first | rfl | decide) (by first | rfl | decide) rfl (⟨_, rfl, (show (-2147483648) ≤ (0 : Int32).toInt from (by decide)), (show (0 : Int32).toInt ≤ 2147483647 from (by decide))⟩) dX9_lookAtAll_2 (fun F H locs hT v68834 h1v68834 h2v68834 => ?_)
  have hfr : (∀ b j : Nat, (tag b ≠ 22 ∨ j ≠ 2) → fld F b j = fld Fo b j) ∧ EF tag F Fo := ⟨fun b j n22_2 => (h1v68834 b j (fr_ne g0 n22_2)).trans (hfr.1 b j n22_2), fun b j hb => (h2v68834 b j).trans (hfr.2 b j hb)⟩
  refine lv_iconst (v := 0) hx hb dX9_lookAtAll_5 (by decide) ?_
  refine lv_istore_n (lv' := [(3, .int 0), (0, .ref p0), (1, .ref p1), (2, .int p2)]) hx hb dX9_lookAtAll_6 rfl hl (by decide) rfl (fun ls hl => ?_)
  have kk68835 : (0 : Int32).toInt = 0 := by decide
  exact K7 7 0 0 _ _ _ _ (by omega) (by decide) (by decide) hT hfr v68834 (lv_sub hl [1, 2, 3, 0] rfl)
