set_option maxHeartbeats 4000000 in
set_option maxRecDepth 100000 in
theorem kt100_X9_lastFor (l : Launch) (G : KG) (tag : Nat → Nat) (L : List Nat) (F : Nat → va_E) (ho : okT G ttC tag L F) (p0 : Nat) (p1 : Int32) (p2 : Int32) (m0 : p0 ∈ L) (g0 : tag p0 = 18) (h2 : 0 ≤ p2.toInt ∧ p2.toInt ≤ 5) : TMi l yX9_lastFor cX9_lastFor 4 (some .int) { frames := 1, cells := 0, slots := 0, locals := 13 } G ttC tag L F [.ref p0, .int p1, .int p2] (fun r F1 => F1 = F ∧ ((-2147483648) ≤ r.toInt ∧ r.toInt ≤ 2147483647)) := by
  refine t_bodyi (y := yX9_lastFor) (cd := cX9_lastFor) (mL := 4) (rt := (some .int)) (rm := { frames := 1, cells := 0, slots := 0, locals := 13 }) (av := [.ref p0, .int p1, .int p2]) (by decide) (Nat.le_of_ble_eq_true rfl) ho ?_
  intro p e s m args below meth c ls A Q hQ X hT hl
  have hx := X.1.1
  have hb := X.1.2.1
  have hl : lv_has ls 4 [(0, .ref p0), (1, .int p1), (2, .int p2)] := hl
  have rp1 := rg_all p1
  refine lv_iload_n hx hb dX9_lastFor_0 rfl (lv_at hl 1 rfl) ?_
  refine lv_iconst (v := 1) hx hb dX9_lastFor_1 (by decide) ?_
  refine lv_isub hx hb dX9_lastFor_2 ?_
  refine lv_topi (fun z35773 ez35773 => ?_)
  have rz35773 := rg_all z35773
  refine lv_istore_n (lv' := [(3, .int z35773), (0, .ref p0), (1, .int p1), (2, .int p2)]) hx hb dX9_lastFor_3 rfl hl (by decide) rfl (fun ls hl => ?_)
  refine lv_aload_n hx hb dX9_lastFor_4 rfl (lv_at hl 1 rfl) ?_
  refine t_get (C := RX1) (T := TX1) (N := 20) X hT m0 g0 rfl rfl 19 (by decide) qw_1350 inlX1 rfl dX9_lastFor_5 (fun v35774 hv35774 ov35774 => ?_)
  obtain ⟨b35775, rfl, mb35775, gb35775⟩ := okV_r ov35774
  have gb35775 : tag b35775 = 7 := tg_of gb35775
  refine lv_iload_n hx hb dX9_lastFor_8 rfl (lv_at hl 3 rfl) ?_
  refine t_ild X hT mb35775 gb35775 rfl (by omega) dX9_lastFor_9 (fun z35776 vz35776 rz35776 => ?_)
  have rz35776 : (-2147483648) ≤ z35776.toInt ∧ z35776.toInt ≤ 2147483647 := rz35776
  refine lv_iconst (v := (-1)) hx hb dX9_lastFor_10 (by decide) ?_
  refine lv_icmp_ne (tgt := 18) hx hb dX9_lastFor_11 (by decide) (fun c35777 => ?_) (fun c35777 => ?_)
  · have w35778 := cv_ne (rfl : z35776.toInt = z35776.toInt) (by decide : ((-1) : Int32).toInt = (-1)) c35777
    refine lv_iload_n hx hb dX9_lastFor_18 rfl (lv_at hl 0 rfl) ?_
    refine lv_aload_n hx hb dX9_lastFor_19 rfl (lv_at hl 1 rfl) ?_
    refine t_get (C := RX1) (T := TX1) (N := 20) X hT m0 g0 rfl rfl 19 (by decide) qw_1350 inlX1 rfl dX9_lastFor_20 (fun v35779 hv35779 ov35779 => ?_)
    obtain rfl : v35779 = .ref b35775 := hv35779.symm.trans hv35774
    refine lv_iload_n hx hb dX9_lastFor_23 rfl (lv_at hl 3 rfl) ?_
    refine t_ild X hT mb35775 gb35775 rfl (by omega) dX9_lastFor_24 (fun z35780 vz35780 rz35780 => ?_)
    obtain rfl : z35776 = z35780 := vz35776.symm.trans vz35780
    refine lv_iconst (v := 1) hx hb dX9_lastFor_25 (by decide) ?_
    refine lv_isub hx hb dX9_lastFor_26 ?_
    refine lv_topi (fun z35781 ez35781 => ?_)
    have rz35781 := rg_all z35781
    refine t_mmin X hl qw_1351 qw_1018 qw_850 qw_1019 (Nat.le_of_ble_eq_true rfl) (Nat.le_of_ble_eq_true rfl) (Nat.le_of_ble_eq_true rfl) (Nat.le_of_ble_eq_true rfl) dX9_lastFor_27 (fun z35782 ez35782 => ?_)
    have hz35782 := mmin_e ez35782 (rfl : z35773.toInt = z35773.toInt) (rfl : z35781.toInt = z35781.toInt)
    exact t_iret hQ X hT (⟨rfl, rg_all _⟩) (Nat.le_of_ble_eq_true rfl) (Nat.le_of_ble_eq_true rfl) dX9_lastFor_30
  · have w35783 := cv_eq (rfl : z35776.toInt = z35776.toInt) (by decide : ((-1) : Int32).toInt = (-1)) c35777
    refine lv_iload_n hx hb dX9_lastFor_14 rfl (lv_at hl 0 rfl) ?_
    refine lv_goto (tgt := 30) hx hb dX9_lastFor_15 (by decide) ?_
    exact t_iret hQ X hT (⟨rfl, rg_all _⟩) (Nat.le_of_ble_eq_true rfl) (Nat.le_of_ble_eq_true rfl) dX9_lastFor_30
set_option maxHeartbeats 4000000 in
set_option maxRecDepth 100000 in
theorem kt101_X9_canBe (l : Launch) (G : KG) (tag : Nat → Nat) (L : List Nat) (Fo : Nat → va_E) (ho : okT G ttC tag L Fo) (p0 : Nat) (p1 : Nat) (p2 : Int32) (m0 : p0 ∈ L) (g0 : tag p0 = 22) (m1 : p1 ∈ L) (g1 : tag p1 = 18) : TMi l yX9_canBe cX9_canBe 8 (some .boolean) { frames := 2, cells := 0, slots := 0, locals := 36 } G ttC tag L Fo [.ref p0, .ref p1, .int p2] (fun r F1 => (0 ≤ r.toInt ∧ r.toInt ≤ 1) ∧ ((∀ b j : Nat, fld F1 b j = fld Fo b j) ∧ EF tag F1 Fo)) := by
  refine t_bodyi (y := yX9_canBe) (cd := cX9_canBe) (mL := 8) (rt := (some .boolean)) (rm := { frames := 2, cells := 0, slots := 0, locals := 36 }) (av := [.ref p0, .ref p1, .int p2]) (by decide) (Nat.le_of_ble_eq_true rfl) ho ?_
  intro p e s m args below meth c ls A Q hQ X hT hl
  have hx := X.1.1
  have hb := X.1.2.1
  have hl : lv_has ls 8 [(0, .ref p0), (1, .ref p1), (2, .int p2)] := hl
  have rp2 := rg_all p2
  obtain ⟨F, hFo⟩ : ∃ F : Nat → va_E, F = Fo := ⟨_, rfl⟩
  rw [← hFo] at hT
  have hfr : (∀ b j : Nat, fld F b j = fld Fo b j) ∧ EF tag F Fo := by
    rw [hFo]
    exact ⟨by intros; rfl, fun _ _ _ => rfl⟩
  have K8 : ∀ (n : Nat) (z36324 : Int32) (z36325 : Int32) (z36326 : Int32) (F : Nat → va_E) (H : Heap) (locs : List Loc) (ls : Array Slot), (6 - z36326.toInt < (n : Int)) → (0 ≤ z36326.toInt ∧ z36326.toInt ≤ 6) → TH G ttC A s tag L F H locs → ((∀ b j : Nat, fld F b j = fld Fo b j) ∧ EF tag F Fo) → lv_has ls 8 [(0, .ref p0), (1, .ref p1), (2, .int p2), (3, .int z36324), (4, .int z36325), (5, .int z36326)] → W p l e { frames := 2, cells := 0, slots := 0, locals := 36 } s m args below meth c H locs 0 0 Q (F0 m 8 ls []) := by
    intro n
    induction n with
    | zero =>
      intro z36324 z36325 z36326 F H locs ls hn rz36326 hT hfr hl
      have rz36324 := rg_all z36324
      have rz36325 := rg_all z36325
      exfalso
      omega
    | succ n ih8 =>
      intro z36324 z36325 z36326 F H locs ls hn rz36326 hT hfr hl
      have rz36324 := rg_all z36324
      have rz36325 := rg_all z36325
      refine lv_iload hx hb dX9_canBe_8 (lv_at hl 5 rfl) ?_
      refine lv_aload_n hx hb dX9_canBe_10 rfl (lv_at hl 1 rfl) ?_
      refine t_get (C := RX1) (T := TX1) (N := 20) X hT m1 g1 rfl rfl 16 (by decide) qw_1338 inlX1 rfl dX9_canBe_11 (fun v36327 hv36327 ov36327 => ?_)
      obtain ⟨z36328, rfl, rz36328⟩ := okV_i ov36327
      refine lv_icmp_ge (tgt := 98) hx hb dX9_canBe_14 (by decide) (fun c36329 => ?_) (fun c36329 => ?_)
      · have w36330 := cv_le (rfl : z36328.toInt = z36328.toInt) (rfl : z36326.toInt = z36326.toInt) c36329
        refine lv_iconst (v := 1) hx hb dX9_canBe_98 (by decide) ?_
        exact t_zret hQ X hT (by decide) (⟨(by decide), hfr⟩) (Nat.le_of_ble_eq_true rfl) (Nat.le_of_ble_eq_true rfl) dX9_canBe_99
      · have w36331 := cv_nle (rfl : z36328.toInt = z36328.toInt) (rfl : z36326.toInt = z36326.toInt) c36329
        refine lv_aload_n hx hb dX9_canBe_17 rfl (lv_at hl 0 rfl) ?_
        refine t_get (C := RX9) (T := TX9) (N := 6) X hT m0 g0 rfl rfl 0 (by decide) qw_93 inlX9 rfl dX9_canBe_18 (fun v36332 hv36332 ov36332 => ?_)
        obtain ⟨b36333, rfl, mb36333, gb36333⟩ := okV_r ov36332
        have gb36333 : tag b36333 = 11 := tg_of gb36333
        refine lv_iload hx hb dX9_canBe_21 (lv_at hl 5 rfl) ?_
        refine t_ild X hT mb36333 gb36333 rfl (by omega) dX9_canBe_23 (fun z36334 vz36334 rz36334 => ?_)
        have rz36334 : 0 ≤ z36334.toInt ∧ z36334.toInt ≤ 5 := rz36334
        refine lv_istore (lv' := [(6, .int z36334), (0, .ref p0), (1, .ref p1), (2, .int p2), (3, .int z36324), (4, .int z36325), (5, .int z36326)]) hx hb dX9_canBe_24 hl (by decide) rfl (fun ls hl => ?_)
        refine lv_aload_n hx hb dX9_canBe_26 rfl (lv_at hl 2 rfl) ?_
        refine t_get (C := RX1) (T := TX1) (N := 20) X hT m1 g1 rfl rfl 17 (by decide) qw_1344 inlX1 rfl dX9_canBe_27 (fun v36335 hv36335 ov36335 => ?_)
        obtain ⟨b36336, rfl, mb36336, gb36336⟩ := okV_r ov36335
        have gb36336 : tag b36336 = 7 := tg_of gb36336
        refine lv_iload hx hb dX9_canBe_30 (lv_at hl 0 rfl) ?_
        refine t_ild X hT mb36336 gb36336 rfl (by omega) dX9_canBe_32 (fun z36337 vz36337 rz36337 => ?_)
        have rz36337 : (-2147483648) ≤ z36337.toInt ∧ z36337.toInt ≤ 2147483647 := rz36337
        refine lv_iload_n hx hb dX9_canBe_33 rfl (lv_at hl 4 rfl) ?_
        refine lv_iconst (v := (-1)) hx hb dX9_canBe_34 (by decide) ?_
        refine lv_ixor hx hb dX9_canBe_35 ?_
        refine lv_topi (fun z36338 ez36338 => ?_)
        have rz36338 := rg_all z36338
        refine lv_iand hx hb dX9_canBe_36 ?_
        refine lv_topi (fun z36339 ez36339 => ?_)
        have rz36339 := rg_all z36339
        refine lv_if_eq (tgt := 42) hx hb dX9_canBe_37 (by decide) (fun c36340 => ?_) (fun c36340 => ?_)
        · have w36341 := cv_eq (rfl : z36339.toInt = z36339.toInt) (by decide : (0 : Int32).toInt = 0) c36340
          refine lv_iload hx hb dX9_canBe_42 (lv_at hl 5 rfl) ?_
          refine lv_aload_n hx hb dX9_canBe_44 rfl (lv_at hl 2 rfl) ?_
          refine t_get (C := RX1) (T := TX1) (N := 20) X hT m1 g1 rfl rfl 18 (by decide) qw_1345 inlX1 rfl dX9_canBe_45 (fun v36342 hv36342 ov36342 => ?_)
          obtain ⟨b36343, rfl, mb36343, gb36343⟩ := okV_r ov36342
          have gb36343 : tag b36343 = 7 := tg_of gb36343
          refine lv_iload hx hb dX9_canBe_48 (lv_at hl 0 rfl) ?_
          refine t_ild X hT mb36343 gb36343 rfl (by omega) dX9_canBe_50 (fun z36344 vz36344 rz36344 => ?_)
          have rz36344 : (-2147483648) ≤ z36344.toInt ∧ z36344.toInt ≤ 2147483647 := rz36344
          refine t_mmax X hl qw_1346 qw_849 qw_850 qw_851 (Nat.le_of_ble_eq_true rfl) (Nat.le_of_ble_eq_true rfl) (Nat.le_of_ble_eq_true rfl) (Nat.le_of_ble_eq_true rfl) dX9_canBe_51 (fun z36345 ez36345 => ?_)
          have hz36345 := mmax_e ez36345 (rfl : z36325.toInt = z36325.toInt) (rfl : z36344.toInt = z36344.toInt)
          refine lv_istore (lv' := [(7, .int z36345), (6, .int z36334), (0, .ref p0), (1, .ref p1), (2, .int p2), (3, .int z36324), (4, .int z36325), (5, .int z36326)]) hx hb dX9_canBe_54 hl (by decide) rfl (fun ls hl => ?_)
          refine lv_iload hx hb dX9_canBe_56 (lv_at hl 0 rfl) ?_
          refine lv_aload_n hx hb dX9_canBe_58 rfl (lv_at hl 3 rfl) ?_
          refine lv_iload_n hx hb dX9_canBe_59 rfl (lv_at hl 4 rfl) ?_
          refine lv_iload hx hb dX9_canBe_60 (lv_at hl 1 rfl) ?_
          refine t_cSi (n := 3) (As := [.ref p1, .int p2, .int z36334]) (rest := [.int z36345]) X hT (kt100_X9_lastFor l G tag L F hT.2.2.2 p1 p2 z36334 m1 g1 (by omega)) qw_1347 qw_1348 qw_40 qw_1349 ⟨by decide +kernel, by decide +kernel, by decide +kernel⟩ ⟨Nat.le_of_ble_eq_true rfl, Nat.le_of_ble_eq_true rfl⟩ hl rfl rfl (Nat.le_of_ble_eq_true rfl) dX9_canBe_62 ⟨Nat.le_of_ble_eq_true rfl, Nat.le_of_ble_eq_true rfl⟩ (fun z36346 F9 H locs hT hz36346 => ?_)
          obtain ⟨fz36346, hz36346⟩ := hz36346
          rw [fz36346] at hT
          refine lv_icmp_le (tgt := 70) hx hb dX9_canBe_65 (by decide) (fun c36347 => ?_) (fun c36347 => ?_)
          · have w36348 := cv_le (rfl : z36345.toInt = z36345.toInt) (rfl : z36346.toInt = z36346.toInt) c36347
            refine lv_aload_n hx hb dX9_canBe_70 rfl (lv_at hl 2 rfl) ?_
            refine t_get (C := RX9) (T := TX9) (N := 6) X hT m0 g0 rfl rfl 1 (by decide) qw_94 inlX9 rfl dX9_canBe_71 (fun v36349 hv36349 ov36349 => ?_)
            obtain ⟨b36350, rfl, mb36350, gb36350⟩ := okV_r ov36349
            have gb36350 : tag b36350 = 7 := tg_of gb36350
            refine lv_iload hx hb dX9_canBe_74 (lv_at hl 7 rfl) ?_
            refine lv_iload hx hb dX9_canBe_76 (lv_at hl 0 rfl) ?_
            refine t_ist X hT mb36350 gb36350 rfl (by omega) (show (-2147483648) ≤ (z36345 : Int32).toInt ∧ (z36345 : Int32).toInt ≤ 2147483647 from (by omega)) dX9_canBe_78 (fun F H locs hT v36351 h1v36351 h2v36351 => ?_)
            have hv36327 := (h2v36351 _ _).trans hv36327
            have hv36332 := (h2v36351 _ _).trans hv36332
            have hv36335 := (h2v36351 _ _).trans hv36335
            have hv36342 := (h2v36351 _ _).trans hv36342
            have hv36349 := (h2v36351 _ _).trans hv36349
            have hfr : (∀ b j : Nat, fld F b j = fld Fo b j) ∧ EF tag F Fo := ⟨fun b j  => (h2v36351 b j).trans (hfr.1 b j ), fun b j hb => (h1v36351 b j (Or.inl (ns_ne hb gb36350 (by decide)))).trans (hfr.2 b j hb)⟩
            refine lv_iload hx hb dX9_canBe_79 (lv_at hl 0 rfl) ?_
            refine lv_iconst (v := 1) hx hb dX9_canBe_81 (by decide) ?_
            refine lv_iadd hx hb dX9_canBe_82 ?_
            refine lv_topi (fun z36352 ez36352 => ?_)
            have rz36352 := rg_all z36352
            refine lv_istore (lv' := [(4, .int z36352), (7, .int z36345), (6, .int z36334), (0, .ref p0), (1, .ref p1), (2, .int p2), (3, .int z36324), (5, .int z36326)]) hx hb dX9_canBe_83 hl (by decide) rfl (fun ls hl => ?_)
            refine lv_iload_n hx hb dX9_canBe_85 rfl (lv_at hl 6 rfl) ?_
            refine lv_iconst (v := 1) hx hb dX9_canBe_86 (by decide) ?_
            refine lv_iload hx hb dX9_canBe_87 (lv_at hl 2 rfl) ?_
            refine lv_ishl hx hb dX9_canBe_89 ?_
            refine lv_topi (fun z36353 ez36353 => ?_)
            have rz36353 := rg_all z36353
            refine lv_ior hx hb dX9_canBe_90 ?_
            refine lv_topi (fun z36354 ez36354 => ?_)
            have rz36354 := rg_all z36354
            refine lv_istore_n (lv' := [(3, .int z36354), (4, .int z36352), (7, .int z36345), (6, .int z36334), (0, .ref p0), (1, .ref p1), (2, .int p2), (5, .int z36326)]) hx hb dX9_canBe_91 rfl hl (by decide) rfl (fun ls hl => ?_)
            obtain ⟨z36355, ez36355⟩ : ∃ y : Int32, y = z36326 + 1 := ⟨_, rfl⟩
            have hz36355 : z36355.toInt = z36326.toInt + 1 := ar_add ez36355 rfl (by decide : (1 : Int32).toInt = 1) (by omega) (by omega)
            refine lv_iinc (v := z36355) (lv' := [(5, .int z36355), (3, .int z36354), (4, .int z36352), (7, .int z36345), (6, .int z36334), (0, .ref p0), (1, .ref p1), (2, .int p2)]) hx hb dX9_canBe_92 hl (k := 7) rfl (by rw [ez36355]; rfl) (by decide) rfl (fun ls hl => ?_)
            refine lv_goto (tgt := 8) hx hb dX9_canBe_95 (by decide) ?_
            exact ih8 z36354 z36352 z36355 _ _ _ _ (by omega) (by omega) hT hfr  (lv_sub hl [5, 6, 7, 1, 2, 0] rfl)
          · have w36356 := cv_nle (rfl : z36345.toInt = z36345.toInt) (rfl : z36346.toInt = z36346.toInt) c36347
            refine lv_iconst (v := 0) hx hb dX9_canBe_68 (by decide) ?_
            exact t_zret hQ X hT (by decide) (⟨(by decide), hfr⟩) (Nat.le_of_ble_eq_true rfl) (Nat.le_of_ble_eq_true rfl) dX9_canBe_69
        · have w36357 := cv_ne (rfl : z36339.toInt = z36339.toInt) (by decide : (0 : Int32).toInt = 0) c36340
          refine lv_iconst (v := 0) hx hb dX9_canBe_40 (by decide) ?_
          exact t_zret hQ X hT (by decide) (⟨(by decide), hfr⟩) (Nat.le_of_ble_eq_true rfl) (Nat.le_of_ble_eq_true rfl) dX9_canBe_41
  refine lv_iconst (v := 0) hx hb dX9_canBe_0 (by decide) ?_
  refine lv_istore_n (lv' := [(3, .int 0), (0, .ref p0), (1, .ref p1), (2, .int p2)]) hx hb dX9_canBe_1 rfl hl (by decide) rfl (fun ls hl => ?_)
  refine lv_iconst (v := 0) hx hb dX9_canBe_2 (by decide) ?_
  refine lv_istore (lv' := [(4, .int 0), (3, .int 0), (0, .ref p0), (1, .ref p1), (2, .int p2)]) hx hb dX9_canBe_3 hl (by decide) rfl (fun ls hl => ?_)
  refine lv_iconst (v := 0) hx hb dX9_canBe_5 (by decide) ?_
  refine lv_istore (lv' := [(5, .int 0), (4, .int 0), (3, .int 0), (0, .ref p0), (1, .ref p1), (2, .int p2)]) hx hb dX9_canBe_6 hl (by decide) rfl (fun ls hl => ?_)
  have kk36358 : (0 : Int32).toInt = 0 := by decide
  have kk36359 : (0 : Int32).toInt = 0 := by decide
  have kk36360 : (0 : Int32).toInt = 0 := by decide
  exact K8 7 0 0 0 _ _ _ _ (by omega) (by decide) hT hfr  (lv_sub hl [3, 4, 5, 2, 1, 0] rfl)
set_option maxHeartbeats 4000000 in
set_option maxRecDepth 100000 in
theorem kt102_X9_noteRow (l : Launch) (G : KG) (tag : Nat → Nat) (L : List Nat) (Fo : Nat → va_E) (ho : okT G ttC tag L Fo) (p0 : Nat) (p1 : Nat) (p2 : Int32) (m0 : p0 ∈ L) (g0 : tag p0 = 22) (m1 : p1 ∈ L) (g1 : tag p1 = 18) : TMv l yX9_noteRow cX9_noteRow 7 { frames := 2, cells := 0, slots := 0, locals := 36 } G ttC tag L Fo [.ref p0, .ref p1, .int p2] (fun F1 => ((∀ b j : Nat, fld F1 b j = fld Fo b j) ∧ EF tag F1 Fo)) := by
  refine t_bodyv (y := yX9_noteRow) (cd := cX9_noteRow) (mL := 7) (rm := { frames := 2, cells := 0, slots := 0, locals := 36 }) (av := [.ref p0, .ref p1, .int p2]) (by decide) (Nat.le_of_ble_eq_true rfl) ho ?_
  intro p e s m args below meth c ls A Q hQ X hT hl
  have hx := X.1.1
  have hb := X.1.2.1
  have hl : lv_has ls 7 [(0, .ref p0), (1, .ref p1), (2, .int p2)] := hl
  have rp2 := rg_all p2
  obtain ⟨F, hFo⟩ : ∃ F : Nat → va_E, F = Fo := ⟨_, rfl⟩
  rw [← hFo] at hT
  have hfr : (∀ b j : Nat, fld F b j = fld Fo b j) ∧ EF tag F Fo := by
    rw [hFo]
    exact ⟨by intros; rfl, fun _ _ _ => rfl⟩
  have K82 : ∀ (n : Nat) (z37196 : Int32) (z37197 : Int32) (z37198 : Int32) (z37199 : Int32) (F : Nat → va_E) (H : Heap) (locs : List Loc) (ls : Array Slot), (z37198.toInt - (-1) < (n : Int)) → ((-1) ≤ z37198.toInt ∧ z37198.toInt ≤ 5) → (0 ≤ z37199.toInt ∧ z37199.toInt ≤ 6) → TH G ttC A s tag L F H locs → ((∀ b j : Nat, fld F b j = fld Fo b j) ∧ EF tag F Fo) → fld F p1 16 = .int z37199 → lv_has ls 7 [(0, .ref p0), (1, .ref p1), (2, .int p2), (3, .int z37196), (4, .int z37197), (5, .int z37198)] → W p l e { frames := 2, cells := 0, slots := 0, locals := 36 } s m args below meth c H locs 0 0 Q (F0 m 82 ls []) := by
    intro n
    induction n with
    | zero =>
      intro z37196 z37197 z37198 z37199 F H locs ls hn rz37198 rz37199 hT hfr qz37199 hl
      have rz37196 := rg_all z37196
      have rz37197 := rg_all z37197
      exfalso
      omega
    | succ n ih82 =>
      intro z37196 z37197 z37198 z37199 F H locs ls hn rz37198 rz37199 hT hfr qz37199 hl
      have rz37196 := rg_all z37196
      have rz37197 := rg_all z37197
      refine lv_iload hx hb dX9_noteRow_82 (lv_at hl 5 rfl) ?_
      refine lv_if_lt (tgt := 137) hx hb dX9_noteRow_84 (by decide) (fun c37200 => ?_) (fun c37200 => ?_)
      · have w37201 := cv_lt (rfl : z37198.toInt = z37198.toInt) (by decide : (0 : Int32).toInt = 0) c37200
        exact t_vret hQ X hT hfr (Nat.le_of_ble_eq_true rfl) (Nat.le_of_ble_eq_true rfl) dX9_noteRow_137
      · have w37202 := cv_nlt (rfl : z37198.toInt = z37198.toInt) (by decide : (0 : Int32).toInt = 0) c37200
        refine lv_aload_n hx hb dX9_noteRow_87 rfl (lv_at hl 0 rfl) ?_
        refine t_get (C := RX9) (T := TX9) (N := 6) X hT m0 g0 rfl rfl 0 (by decide) qw_93 inlX9 rfl dX9_noteRow_88 (fun v37203 hv37203 ov37203 => ?_)
        obtain ⟨b37204, rfl, mb37204, gb37204⟩ := okV_r ov37203
        have gb37204 : tag b37204 = 11 := tg_of gb37204
        refine lv_iload hx hb dX9_noteRow_91 (lv_at hl 5 rfl) ?_
        refine t_ild X hT mb37204 gb37204 rfl (by omega) dX9_noteRow_93 (fun z37205 vz37205 rz37205 => ?_)
        have rz37205 : 0 ≤ z37205.toInt ∧ z37205.toInt ≤ 5 := rz37205
        refine lv_istore (lv' := [(6, .int z37205), (0, .ref p0), (1, .ref p1), (2, .int p2), (3, .int z37196), (4, .int z37197), (5, .int z37198)]) hx hb dX9_noteRow_94 hl (by decide) rfl (fun ls hl => ?_)
        refine lv_iload hx hb dX9_noteRow_96 (lv_at hl 5 rfl) ?_
        refine lv_iconst (v := 1) hx hb dX9_noteRow_98 (by decide) ?_
        refine lv_isub hx hb dX9_noteRow_99 ?_
        refine lv_topi (fun z37206 ez37206 => ?_)
        have rz37206 := rg_all z37206
        refine lv_aload_n hx hb dX9_noteRow_100 rfl (lv_at hl 2 rfl) ?_
        refine lv_iload_n hx hb dX9_noteRow_101 rfl (lv_at hl 3 rfl) ?_
        refine lv_iload hx hb dX9_noteRow_102 (lv_at hl 0 rfl) ?_
        refine t_cSi (n := 3) (As := [.ref p1, .int p2, .int z37205]) (rest := [.int z37206]) X hT (kt100_X9_lastFor l G tag L F hT.2.2.2 p1 p2 z37205 m1 g1 (by omega)) qw_1347 qw_1348 qw_40 qw_1349 ⟨by decide +kernel, by decide +kernel, by decide +kernel⟩ ⟨Nat.le_of_ble_eq_true rfl, Nat.le_of_ble_eq_true rfl⟩ hl rfl rfl (Nat.le_of_ble_eq_true rfl) dX9_noteRow_104 ⟨Nat.le_of_ble_eq_true rfl, Nat.le_of_ble_eq_true rfl⟩ (fun z37207 F9 H locs hT hz37207 => ?_)
        obtain ⟨fz37207, hz37207⟩ := hz37207
        rw [fz37207] at hT
        refine t_mmin X hl qw_1351 qw_1018 qw_850 qw_1019 (Nat.le_of_ble_eq_true rfl) (Nat.le_of_ble_eq_true rfl) (Nat.le_of_ble_eq_true rfl) (Nat.le_of_ble_eq_true rfl) dX9_noteRow_107 (fun z37208 ez37208 => ?_)
        have hz37208 := mmin_e ez37208 (rfl : z37206.toInt = z37206.toInt) (rfl : z37207.toInt = z37207.toInt)
        refine lv_istore (lv' := [(4, .int z37208), (6, .int z37205), (0, .ref p0), (1, .ref p1), (2, .int p2), (3, .int z37196), (5, .int z37198)]) hx hb dX9_noteRow_110 hl (by decide) rfl (fun ls hl => ?_)
        refine lv_aload_n hx hb dX9_noteRow_112 rfl (lv_at hl 2 rfl) ?_
        refine t_get (C := RX9) (T := TX9) (N := 6) X hT m0 g0 rfl rfl 4 (by decide) qw_96 inlX9 rfl dX9_noteRow_113 (fun v37209 hv37209 ov37209 => ?_)
        obtain ⟨b37210, rfl, mb37210, gb37210⟩ := okV_r ov37209
        have gb37210 : tag b37210 = 7 := tg_of gb37210
        refine lv_iload hx hb dX9_noteRow_116 (lv_at hl 1 rfl) ?_
        refine lv_aload_n hx hb dX9_noteRow_118 rfl (lv_at hl 2 rfl) ?_
        refine t_get (C := RX9) (T := TX9) (N := 6) X hT m0 g0 rfl rfl 4 (by decide) qw_96 inlX9 rfl dX9_noteRow_119 (fun v37211 hv37211 ov37211 => ?_)
        obtain rfl : v37211 = .ref b37210 := hv37211.symm.trans hv37209
        refine lv_iload hx hb dX9_noteRow_122 (lv_at hl 1 rfl) ?_
        refine t_ild X hT mb37210 gb37210 rfl (by omega) dX9_noteRow_124 (fun z37212 vz37212 rz37212 => ?_)
        have rz37212 : (-2147483648) ≤ z37212.toInt ∧ z37212.toInt ≤ 2147483647 := rz37212
        refine lv_iload hx hb dX9_noteRow_125 (lv_at hl 0 rfl) ?_
        refine t_mmax X hl qw_1346 qw_849 qw_850 qw_851 (Nat.le_of_ble_eq_true rfl) (Nat.le_of_ble_eq_true rfl) (Nat.le_of_ble_eq_true rfl) (Nat.le_of_ble_eq_true rfl) dX9_noteRow_127 (fun z37213 ez37213 => ?_)
        have hz37213 := mmax_e ez37213 (rfl : z37212.toInt = z37212.toInt) (rfl : z37208.toInt = z37208.toInt)
        refine t_ist X hT mb37210 gb37210 rfl (by omega) (show (-2147483648) ≤ (z37213 : Int32).toInt ∧ (z37213 : Int32).toInt ≤ 2147483647 from (by omega)) dX9_noteRow_130 (fun F H locs hT v37214 h1v37214 h2v37214 => ?_)
        have qz37199 := (h2v37214 _ _).trans qz37199
        have hv37203 := (h2v37214 _ _).trans hv37203
        have hv37209 := (h2v37214 _ _).trans hv37209
        have hfr : (∀ b j : Nat, fld F b j = fld Fo b j) ∧ EF tag F Fo := ⟨fun b j  => (h2v37214 b j).trans (hfr.1 b j ), fun b j hb => (h1v37214 b j (Or.inl (ns_ne hb gb37210 (by decide)))).trans (hfr.2 b j hb)⟩
        obtain ⟨z37215, ez37215⟩ : ∃ y : Int32, y = z37198 + (-1) := ⟨_, rfl⟩
        have hz37215 : z37215.toInt = z37198.toInt + (-1) := ar_add ez37215 rfl (by decide : ((-1) : Int32).toInt = (-1)) (by omega) (by omega)
        refine lv_iinc (v := z37215) (lv' := [(5, .int z37215), (4, .int z37208), (6, .int z37205), (0, .ref p0), (1, .ref p1), (2, .int p2), (3, .int z37196)]) hx hb dX9_noteRow_131 hl (k := 6) rfl (by rw [ez37215]; rfl) (by decide) rfl (fun ls hl => ?_)
        refine lv_goto (tgt := 82) hx hb dX9_noteRow_134 (by decide) ?_
        exact ih82 z37196 z37208 z37215 z37199 _ _ _ _ (by omega) (by omega) (by omega) hT hfr qz37199 (lv_sub hl [3, 4, 5, 6, 1, 0] rfl)
  have K5 : ∀ (n : Nat) (z37216 : Int32) (z37217 : Int32) (F : Nat → va_E) (H : Heap) (locs : List Loc) (ls : Array Slot), (6 - z37217.toInt < (n : Int)) → (0 ≤ z37217.toInt ∧ z37217.toInt ≤ 6) → TH G ttC A s tag L F H locs → ((∀ b j : Nat, fld F b j = fld Fo b j) ∧ EF tag F Fo) → lv_has ls 7 [(0, .ref p0), (1, .ref p1), (2, .int p2), (3, .int z37216), (4, .int z37217)] → W p l e { frames := 2, cells := 0, slots := 0, locals := 36 } s m args below meth c H locs 0 0 Q (F0 m 5 ls []) := by
    intro n
    induction n with
    | zero =>
      intro z37216 z37217 F H locs ls hn rz37217 hT hfr hl
      have rz37216 := rg_all z37216
      exfalso
      omega
    | succ n ih5 =>
      intro z37216 z37217 F H locs ls hn rz37217 hT hfr hl
      have rz37216 := rg_all z37216
      refine lv_iload hx hb dX9_noteRow_5 (lv_at hl 4 rfl) ?_
      refine lv_aload_n hx hb dX9_noteRow_7 rfl (lv_at hl 1 rfl) ?_
      refine t_get (C := RX1) (T := TX1) (N := 20) X hT m1 g1 rfl rfl 16 (by decide) qw_1338 inlX1 rfl dX9_noteRow_8 (fun v37218 hv37218 ov37218 => ?_)
      obtain ⟨z37219, rfl, rz37219⟩ := okV_i ov37218
      refine lv_icmp_ge (tgt := 71) hx hb dX9_noteRow_11 (by decide) (fun c37220 => ?_) (fun c37220 => ?_)
      · have w37221 := cv_le (rfl : z37219.toInt = z37219.toInt) (rfl : z37217.toInt = z37217.toInt) c37220
        refine lv_iload_n hx hb dX9_noteRow_71 rfl (lv_at hl 2 rfl) ?_
        refine lv_istore (lv' := [(4, .int p2), (0, .ref p0), (1, .ref p1), (2, .int p2), (3, .int z37216)]) hx hb dX9_noteRow_72 hl (by decide) rfl (fun ls hl => ?_)
        refine lv_aload_n hx hb dX9_noteRow_74 rfl (lv_at hl 2 rfl) ?_
        refine t_get (C := RX1) (T := TX1) (N := 20) X hT m1 g1 rfl rfl 16 (by decide) qw_1338 inlX1 rfl dX9_noteRow_75 (fun v37222 hv37222 ov37222 => ?_)
        obtain rfl : v37222 = .int z37219 := hv37222.symm.trans hv37218
        refine lv_iconst (v := 1) hx hb dX9_noteRow_78 (by decide) ?_
        refine lv_isub hx hb dX9_noteRow_79 ?_
        refine lv_topi (fun z37223 ez37223 => ?_)
        have hz37223 : z37223.toInt = z37219.toInt - 1 := ar_sub ez37223 (rfl : z37219.toInt = z37219.toInt) (by decide : (1 : Int32).toInt = 1) (by omega) (by omega)
        have rz37223 : (-1) ≤ z37223.toInt ∧ z37223.toInt ≤ 5 := by omega
        refine lv_istore (lv' := [(5, .int z37223), (4, .int p2), (0, .ref p0), (1, .ref p1), (2, .int p2), (3, .int z37216)]) hx hb dX9_noteRow_80 hl (by decide) rfl (fun ls hl => ?_)
        exact K82 7 z37216 p2 z37223 z37219 _ _ _ _ (by omega) (by omega) (by omega) hT hfr hv37218 (lv_sub hl [2, 3, 4, 5, 1, 0] rfl)
      · have w37224 := cv_nle (rfl : z37219.toInt = z37219.toInt) (rfl : z37217.toInt = z37217.toInt) c37220
        refine lv_aload_n hx hb dX9_noteRow_14 rfl (lv_at hl 0 rfl) ?_
        refine t_get (C := RX9) (T := TX9) (N := 6) X hT m0 g0 rfl rfl 0 (by decide) qw_93 inlX9 rfl dX9_noteRow_15 (fun v37225 hv37225 ov37225 => ?_)
        obtain ⟨b37226, rfl, mb37226, gb37226⟩ := okV_r ov37225
        have gb37226 : tag b37226 = 11 := tg_of gb37226
        refine lv_iload hx hb dX9_noteRow_18 (lv_at hl 4 rfl) ?_
        refine t_ild X hT mb37226 gb37226 rfl (by omega) dX9_noteRow_20 (fun z37227 vz37227 rz37227 => ?_)
        have rz37227 : 0 ≤ z37227.toInt ∧ z37227.toInt ≤ 5 := rz37227
        refine lv_istore (lv' := [(5, .int z37227), (0, .ref p0), (1, .ref p1), (2, .int p2), (3, .int z37216), (4, .int z37217)]) hx hb dX9_noteRow_21 hl (by decide) rfl (fun ls hl => ?_)
        refine lv_aload_n hx hb dX9_noteRow_23 rfl (lv_at hl 1 rfl) ?_
        refine t_get (C := RX9) (T := TX9) (N := 6) X hT m0 g0 rfl rfl 3 (by decide) qw_95 inlX9 rfl dX9_noteRow_24 (fun v37228 hv37228 ov37228 => ?_)
        obtain ⟨b37229, rfl, mb37229, gb37229⟩ := okV_r ov37228
        have gb37229 : tag b37229 = 7 := tg_of gb37229
        refine lv_iload hx hb dX9_noteRow_27 (lv_at hl 0 rfl) ?_
        refine lv_aload_n hx hb dX9_noteRow_29 rfl (lv_at hl 1 rfl) ?_
        refine t_get (C := RX9) (T := TX9) (N := 6) X hT m0 g0 rfl rfl 3 (by decide) qw_95 inlX9 rfl dX9_noteRow_30 (fun v37230 hv37230 ov37230 => ?_)
        obtain rfl : v37230 = .ref b37229 := hv37230.symm.trans hv37228
        refine lv_iload hx hb dX9_noteRow_33 (lv_at hl 0 rfl) ?_
        refine t_ild X hT mb37229 gb37229 rfl (by omega) dX9_noteRow_35 (fun z37231 vz37231 rz37231 => ?_)
        have rz37231 : (-2147483648) ≤ z37231.toInt ∧ z37231.toInt ≤ 2147483647 := rz37231
        refine lv_aload_n hx hb dX9_noteRow_36 rfl (lv_at hl 1 rfl) ?_
        refine t_get (C := RX9) (T := TX9) (N := 6) X hT m0 g0 rfl rfl 1 (by decide) qw_94 inlX9 rfl dX9_noteRow_37 (fun v37232 hv37232 ov37232 => ?_)
        obtain ⟨b37233, rfl, mb37233, gb37233⟩ := okV_r ov37232
        have gb37233 : tag b37233 = 7 := tg_of gb37233
        refine lv_iload hx hb dX9_noteRow_40 (lv_at hl 5 rfl) ?_
        refine t_ild X hT mb37233 gb37233 rfl (by omega) dX9_noteRow_42 (fun z37234 vz37234 rz37234 => ?_)
        have rz37234 : (-2147483648) ≤ z37234.toInt ∧ z37234.toInt ≤ 2147483647 := rz37234
        refine t_mmin X hl qw_1351 qw_1018 qw_850 qw_1019 (Nat.le_of_ble_eq_true rfl) (Nat.le_of_ble_eq_true rfl) (Nat.le_of_ble_eq_true rfl) (Nat.le_of_ble_eq_true rfl) dX9_noteRow_43 (fun z37235 ez37235 => ?_)
        have hz37235 := mmin_e ez37235 (rfl : z37231.toInt = z37231.toInt) (rfl : z37234.toInt = z37234.toInt)
        refine t_ist X hT mb37229 gb37229 rfl (by omega) (show (-2147483648) ≤ (z37235 : Int32).toInt ∧ (z37235 : Int32).toInt ≤ 2147483647 from (by omega)) dX9_noteRow_46 (fun F H locs hT v37236 h1v37236 h2v37236 => ?_)
        have hv37218 := (h2v37236 _ _).trans hv37218
        have hv37225 := (h2v37236 _ _).trans hv37225
        have hv37228 := (h2v37236 _ _).trans hv37228
        have hv37232 := (h2v37236 _ _).trans hv37232
        have hfr : (∀ b j : Nat, fld F b j = fld Fo b j) ∧ EF tag F Fo := ⟨fun b j  => (h2v37236 b j).trans (hfr.1 b j ), fun b j hb => (h1v37236 b j (Or.inl (ns_ne hb gb37229 (by decide)))).trans (hfr.2 b j hb)⟩
        refine lv_aload_n hx hb dX9_noteRow_47 rfl (lv_at hl 1 rfl) ?_
        refine t_get (C := RX9) (T := TX9) (N := 6) X hT m0 g0 rfl rfl 5 (by decide) qw_97 inlX9 rfl dX9_noteRow_48 (fun v37237 hv37237 ov37237 => ?_)
        obtain ⟨b37238, rfl, mb37238, gb37238⟩ := okV_r ov37237
        have gb37238 : tag b37238 = 7 := tg_of gb37238
        refine lv_iload hx hb dX9_noteRow_51 (lv_at hl 0 rfl) ?_
        refine lv_dup2_11 hx hb dX9_noteRow_53 rfl rfl ?_
        refine t_ild X hT mb37238 gb37238 rfl (by omega) dX9_noteRow_54 (fun z37239 vz37239 rz37239 => ?_)
        have rz37239 : (-2147483648) ≤ z37239.toInt ∧ z37239.toInt ≤ 2147483647 := rz37239
        refine lv_iload_n hx hb dX9_noteRow_55 rfl (lv_at hl 4 rfl) ?_
        refine lv_iand hx hb dX9_noteRow_56 ?_
        refine lv_topi (fun z37240 ez37240 => ?_)
        have rz37240 := rg_all z37240
        refine t_ist X hT mb37238 gb37238 rfl (by omega) (show (-2147483648) ≤ (z37240 : Int32).toInt ∧ (z37240 : Int32).toInt ≤ 2147483647 from (by omega)) dX9_noteRow_57 (fun F H locs hT v37241 h1v37241 h2v37241 => ?_)
        have hv37218 := (h2v37241 _ _).trans hv37218
        have hv37225 := (h2v37241 _ _).trans hv37225
        have hv37228 := (h2v37241 _ _).trans hv37228
        have hv37232 := (h2v37241 _ _).trans hv37232
        have hv37237 := (h2v37241 _ _).trans hv37237
        have hfr : (∀ b j : Nat, fld F b j = fld Fo b j) ∧ EF tag F Fo := ⟨fun b j  => (h2v37241 b j).trans (hfr.1 b j ), fun b j hb => (h1v37241 b j (Or.inl (ns_ne hb gb37238 (by decide)))).trans (hfr.2 b j hb)⟩
        refine lv_iload_n hx hb dX9_noteRow_58 rfl (lv_at hl 4 rfl) ?_
        refine lv_iconst (v := 1) hx hb dX9_noteRow_59 (by decide) ?_
        refine lv_iload hx hb dX9_noteRow_60 (lv_at hl 0 rfl) ?_
        refine lv_ishl hx hb dX9_noteRow_62 ?_
        refine lv_topi (fun z37242 ez37242 => ?_)
        have rz37242 := rg_all z37242
        refine lv_ior hx hb dX9_noteRow_63 ?_
        refine lv_topi (fun z37243 ez37243 => ?_)
        have rz37243 := rg_all z37243
        refine lv_istore_n (lv' := [(3, .int z37243), (5, .int z37227), (0, .ref p0), (1, .ref p1), (2, .int p2), (4, .int z37217)]) hx hb dX9_noteRow_64 rfl hl (by decide) rfl (fun ls hl => ?_)
        obtain ⟨z37244, ez37244⟩ : ∃ y : Int32, y = z37217 + 1 := ⟨_, rfl⟩
        have hz37244 : z37244.toInt = z37217.toInt + 1 := ar_add ez37244 rfl (by decide : (1 : Int32).toInt = 1) (by omega) (by omega)
        refine lv_iinc (v := z37244) (lv' := [(4, .int z37244), (3, .int z37243), (5, .int z37227), (0, .ref p0), (1, .ref p1), (2, .int p2)]) hx hb dX9_noteRow_65 hl (k := 5) rfl (by rw [ez37244]; rfl) (by decide) rfl (fun ls hl => ?_)
        refine lv_goto (tgt := 5) hx hb dX9_noteRow_68 (by decide) ?_
        exact ih5 z37243 z37244 _ _ _ _ (by omega) (by omega) hT hfr  (lv_sub hl [3, 4, 5, 1, 0] rfl)
  refine lv_iconst (v := 0) hx hb dX9_noteRow_0 (by decide) ?_
  refine lv_istore_n (lv' := [(3, .int 0), (0, .ref p0), (1, .ref p1), (2, .int p2)]) hx hb dX9_noteRow_1 rfl hl (by decide) rfl (fun ls hl => ?_)
  refine lv_iconst (v := 0) hx hb dX9_noteRow_2 (by decide) ?_
  refine lv_istore (lv' := [(4, .int 0), (3, .int 0), (0, .ref p0), (1, .ref p1), (2, .int p2)]) hx hb dX9_noteRow_3 hl (by decide) rfl (fun ls hl => ?_)
  have kk37245 : (0 : Int32).toInt = 0 := by decide
  have kk37246 : (0 : Int32).toInt = 0 := by decide
  exact K5 7 0 0 _ _ _ _ (by omega) (by decide) hT hfr  (lv_sub hl [2, 3, 4, 1, 0] rfl)
set_option maxHeartbeats 4000000 in
set_option maxRecDepth 100000 in
theorem kt103_X5_swap (l : Launch) (G : KG) (tag : Nat → Nat) (L : List Nat) (Fo : Nat → va_E) (ho : okT G ttC tag L Fo) (p0 : Nat) (p1 : Int32) (p2 : Int32) (m0 : p0 ∈ L) (g0 : tag p0 = 11) (h1 : 0 ≤ p1.toInt ∧ p1.toInt ≤ 5) (h2 : 0 ≤ p2.toInt ∧ p2.toInt ≤ 5) : TMv l yX5_swap cX5_swap 4 { frames := 0, cells := 0, slots := 0, locals := 0 } G ttC tag L Fo [.ref p0, .int p1, .int p2] (fun F1 => ((∀ b j : Nat, fld F1 b j = fld Fo b j) ∧ EF tag F1 Fo)) := by
  refine t_bodyv (y := yX5_swap) (cd := cX5_swap) (mL := 4) (rm := { frames := 0, cells := 0, slots := 0, locals := 0 }) (av := [.ref p0, .int p1, .int p2]) (by decide) (Nat.le_of_ble_eq_true rfl) ho ?_
  intro p e s m args below meth c ls A Q hQ X hT hl
  have hx := X.1.1
  have hb := X.1.2.1
  have hl : lv_has ls 4 [(0, .ref p0), (1, .int p1), (2, .int p2)] := hl
  obtain ⟨F, hFo⟩ : ∃ F : Nat → va_E, F = Fo := ⟨_, rfl⟩
  rw [← hFo] at hT
  have hfr : (∀ b j : Nat, fld F b j = fld Fo b j) ∧ EF tag F Fo := by
    rw [hFo]
    exact ⟨by intros; rfl, fun _ _ _ => rfl⟩
  refine lv_aload_n hx hb dX5_swap_0 rfl (lv_at hl 0 rfl) ?_
  refine lv_iload_n hx hb dX5_swap_1 rfl (lv_at hl 1 rfl) ?_
  refine t_ild X hT m0 g0 rfl (by omega) dX5_swap_2 (fun z37417 vz37417 rz37417 => ?_)
  have rz37417 : 0 ≤ z37417.toInt ∧ z37417.toInt ≤ 5 := rz37417
  refine lv_istore_n (lv' := [(3, .int z37417), (0, .ref p0), (1, .int p1), (2, .int p2)]) hx hb dX5_swap_3 rfl hl (by decide) rfl (fun ls hl => ?_)
  refine lv_aload_n hx hb dX5_swap_4 rfl (lv_at hl 1 rfl) ?_
  refine lv_iload_n hx hb dX5_swap_5 rfl (lv_at hl 2 rfl) ?_
  refine lv_aload_n hx hb dX5_swap_6 rfl (lv_at hl 1 rfl) ?_
  refine lv_iload_n hx hb dX5_swap_7 rfl (lv_at hl 3 rfl) ?_
  refine t_ild X hT m0 g0 rfl (by omega) dX5_swap_8 (fun z37418 vz37418 rz37418 => ?_)
  have rz37418 : 0 ≤ z37418.toInt ∧ z37418.toInt ≤ 5 := rz37418
  refine t_ist X hT m0 g0 rfl (by omega) (show 0 ≤ (z37418 : Int32).toInt ∧ (z37418 : Int32).toInt ≤ 5 from (by omega)) dX5_swap_9 (fun F H locs hT v37419 h1v37419 h2v37419 => ?_)
  have hfr : (∀ b j : Nat, fld F b j = fld Fo b j) ∧ EF tag F Fo := ⟨fun b j  => (h2v37419 b j).trans (hfr.1 b j ), fun b j hb => (h1v37419 b j (Or.inl (ns_ne hb g0 (by decide)))).trans (hfr.2 b j hb)⟩
  refine lv_aload_n hx hb dX5_swap_10 rfl (lv_at hl 1 rfl) ?_
  refine lv_iload_n hx hb dX5_swap_11 rfl (lv_at hl 3 rfl) ?_
  refine lv_iload_n hx hb dX5_swap_12 rfl (lv_at hl 0 rfl) ?_
  refine t_ist X hT m0 g0 rfl (by omega) (show 0 ≤ (z37417 : Int32).toInt ∧ (z37417 : Int32).toInt ≤ 5 from (by omega)) dX5_swap_13 (fun F H locs hT v37420 h1v37420 h2v37420 => ?_)
  have hfr : (∀ b j : Nat, fld F b j = fld Fo b j) ∧ EF tag F Fo := ⟨fun b j  => (h2v37420 b j).trans (hfr.1 b j ), fun b j hb => (h1v37420 b j (Or.inl (ns_ne hb g0 (by decide)))).trans (hfr.2 b j hb)⟩
  exact t_vret hQ X hT hfr (Nat.le_of_ble_eq_true rfl) (Nat.le_of_ble_eq_true rfl) dX5_swap_14
set_option maxHeartbeats 4000000 in
set_option maxRecDepth 100000 in
theorem kt104_X5_advance (l : Launch) (G : KG) (tag : Nat → Nat) (L : List Nat) (Fo : Nat → va_E) (ho : okT G ttC tag L Fo) (p0 : Nat) (p1 : Int32) (m0 : p0 ∈ L) (g0 : tag p0 = 11) (h1 : 2 ≤ p1.toInt ∧ p1.toInt ≤ 6) : TMv l yX5_advance cX5_advance 6 { frames := 1, cells := 0, slots := 0, locals := 23 } G ttC tag L Fo [.ref p0, .int p1] (fun F1 => ((∀ b j : Nat, fld F1 b j = fld Fo b j) ∧ EF tag F1 Fo)) := by
  refine t_bodyv (y := yX5_advance) (cd := cX5_advance) (mL := 6) (rm := { frames := 1, cells := 0, slots := 0, locals := 23 }) (av := [.ref p0, .int p1]) (by decide) (Nat.le_of_ble_eq_true rfl) ho ?_
  intro p e s m args below meth c ls A Q hQ X hT hl
  have hx := X.1.1
  have hb := X.1.2.1
  have hl : lv_has ls 6 [(0, .ref p0), (1, .int p1)] := hl
  obtain ⟨F, hFo⟩ : ∃ F : Nat → va_E, F = Fo := ⟨_, rfl⟩
  rw [← hFo] at hT
  have hfr : (∀ b j : Nat, fld F b j = fld Fo b j) ∧ EF tag F Fo := by
    rw [hFo]
    exact ⟨by intros; rfl, fun _ _ _ => rfl⟩
  have K77 : ∀ (n : Nat) (z37881 : Int32) (z37882 : Int32) (z37883 : Int32) (z37884 : Int32) (F : Nat → va_E) (H : Heap) (locs : List Loc) (ls : Array Slot), (5 - z37883.toInt < (n : Int)) → (0 ≤ z37881.toInt ∧ z37881.toInt ≤ 4) → (0 ≤ z37882.toInt ∧ z37882.toInt ≤ 5) → (1 ≤ z37883.toInt ∧ z37883.toInt ≤ 5) → (1 ≤ z37884.toInt ∧ z37884.toInt ≤ 5) → TH G ttC A s tag L F H locs → ((∀ b j : Nat, fld F b j = fld Fo b j) ∧ EF tag F Fo) → lv_has ls 6 [(0, .ref p0), (1, .int p1), (2, .int z37881), (3, .int z37882), (4, .int z37883), (5, .int z37884)] → W p l e { frames := 1, cells := 0, slots := 0, locals := 23 } s m args below meth c H locs 0 0 Q (F0 m 77 ls []) := by
    intro n
    induction n with
    | zero =>
      intro z37881 z37882 z37883 z37884 F H locs ls hn rz37881 rz37882 rz37883 rz37884 hT hfr hl
      exfalso
      omega
    | succ n ih77 =>
      intro z37881 z37882 z37883 z37884 F H locs ls hn rz37881 rz37882 rz37883 rz37884 hT hfr hl
      refine lv_iload hx hb dX5_advance_77 (lv_at hl 4 rfl) ?_
      refine lv_iload hx hb dX5_advance_79 (lv_at hl 5 rfl) ?_
      refine lv_icmp_ge (tgt := 101) hx hb dX5_advance_81 (by decide) (fun c37885 => ?_) (fun c37885 => ?_)
      · have w37886 := cv_le (rfl : z37884.toInt = z37884.toInt) (rfl : z37883.toInt = z37883.toInt) c37885
        exact t_vret hQ X hT hfr (Nat.le_of_ble_eq_true rfl) (Nat.le_of_ble_eq_true rfl) dX5_advance_101
      · have w37887 := cv_nle (rfl : z37884.toInt = z37884.toInt) (rfl : z37883.toInt = z37883.toInt) c37885
        refine lv_aload_n hx hb dX5_advance_84 rfl (lv_at hl 0 rfl) ?_
        refine lv_iload hx hb dX5_advance_85 (lv_at hl 4 rfl) ?_
        refine lv_iload hx hb dX5_advance_87 (lv_at hl 5 rfl) ?_
        refine t_cSv (n := 3) (As := [.ref p0, .int z37883, .int z37884]) (rest := []) X hT (kt103_X5_swap l G tag L F hT.2.2.2 p0 z37883 z37884 m0 g0 (by omega) (by omega)) qw_1250 qw_1251 qw_1242 qw_1252 ⟨by decide +kernel, by decide +kernel, by decide +kernel⟩ ⟨Nat.le_of_ble_eq_true rfl, Nat.le_of_ble_eq_true rfl⟩ hl rfl rfl (Nat.le_of_ble_eq_true rfl) dX5_advance_89 ⟨Nat.le_of_ble_eq_true rfl, Nat.le_of_ble_eq_true rfl⟩ (fun F H locs hT hz37888 => ?_)
        have yz37888 := hz37888
        have hfr : (∀ b j : Nat, fld F b j = fld Fo b j) ∧ EF tag F Fo := ⟨fun b j  => (yz37888.1 b j ).trans (hfr.1 b j ), fun b j hb => (yz37888.2 b j hb).trans (hfr.2 b j hb)⟩
        obtain ⟨z37889, ez37889⟩ : ∃ y : Int32, y = z37883 + 1 := ⟨_, rfl⟩
        have hz37889 : z37889.toInt = z37883.toInt + 1 := ar_add ez37889 rfl (by decide : (1 : Int32).toInt = 1) (by omega) (by omega)
        refine lv_iinc (v := z37889) (lv' := [(4, .int z37889), (0, .ref p0), (1, .int p1), (2, .int z37881), (3, .int z37882), (5, .int z37884)]) hx hb dX5_advance_92 hl (k := 4) rfl (by rw [ez37889]; rfl) (by decide) rfl (fun ls hl => ?_)
        obtain ⟨z37890, ez37890⟩ : ∃ y : Int32, y = z37884 + (-1) := ⟨_, rfl⟩
        have hz37890 : z37890.toInt = z37884.toInt + (-1) := ar_add ez37890 rfl (by decide : ((-1) : Int32).toInt = (-1)) (by omega) (by omega)
        refine lv_iinc (v := z37890) (lv' := [(5, .int z37890), (4, .int z37889), (0, .ref p0), (1, .int p1), (2, .int z37881), (3, .int z37882)]) hx hb dX5_advance_95 hl (k := 5) rfl (by rw [ez37890]; rfl) (by decide) rfl (fun ls hl => ?_)
        refine lv_goto (tgt := 77) hx hb dX5_advance_98 (by decide) ?_
        exact ih77 z37881 z37882 z37889 z37890 _ _ _ _ (by omega) (by omega) (by omega) (by omega) (by omega) hT hfr  (lv_sub hl [2, 3, 4, 5, 1, 0] rfl)
  have K61 : ∀ (z37891 : Int32) (z37892 : Int32) (F : Nat → va_E) (H : Heap) (locs : List Loc) (ls : Array Slot), (0 ≤ z37891.toInt ∧ z37891.toInt ≤ 4) → (0 ≤ z37892.toInt ∧ z37892.toInt ≤ 5) → TH G ttC A s tag L F H locs → ((∀ b j : Nat, fld F b j = fld Fo b j) ∧ EF tag F Fo) → lv_has ls 6 [(0, .ref p0), (1, .int p1), (2, .int z37891), (3, .int z37892)] → W p l e { frames := 1, cells := 0, slots := 0, locals := 23 } s m args below meth c H locs 0 0 Q (F0 m 61 ls []) := by
    intro z37891 z37892 F H locs ls rz37891 rz37892 hT hfr hl
    refine lv_aload_n hx hb dX5_advance_61 rfl (lv_at hl 0 rfl) ?_
    refine lv_iload_n hx hb dX5_advance_62 rfl (lv_at hl 2 rfl) ?_
    refine lv_iload_n hx hb dX5_advance_63 rfl (lv_at hl 3 rfl) ?_
    refine t_cSv (n := 3) (As := [.ref p0, .int z37891, .int z37892]) (rest := []) X hT (kt103_X5_swap l G tag L F hT.2.2.2 p0 z37891 z37892 m0 g0 (by omega) (by omega)) qw_1250 qw_1251 qw_1242 qw_1252 ⟨by decide +kernel, by decide +kernel, by decide +kernel⟩ ⟨Nat.le_of_ble_eq_true rfl, Nat.le_of_ble_eq_true rfl⟩ hl rfl rfl (Nat.le_of_ble_eq_true rfl) dX5_advance_64 ⟨Nat.le_of_ble_eq_true rfl, Nat.le_of_ble_eq_true rfl⟩ (fun F H locs hT hz37893 => ?_)
    have yz37893 := hz37893
    have hfr : (∀ b j : Nat, fld F b j = fld Fo b j) ∧ EF tag F Fo := ⟨fun b j  => (yz37893.1 b j ).trans (hfr.1 b j ), fun b j hb => (yz37893.2 b j hb).trans (hfr.2 b j hb)⟩
    refine lv_iload_n hx hb dX5_advance_67 rfl (lv_at hl 2 rfl) ?_
    refine lv_iconst (v := 1) hx hb dX5_advance_68 (by decide) ?_
    refine lv_iadd hx hb dX5_advance_69 ?_
    refine lv_topi (fun z37894 ez37894 => ?_)
    have hz37894 : z37894.toInt = z37891.toInt + 1 := ar_add ez37894 (rfl : z37891.toInt = z37891.toInt) (by decide : (1 : Int32).toInt = 1) (by omega) (by omega)
    have rz37894 : 1 ≤ z37894.toInt ∧ z37894.toInt ≤ 5 := by omega
    refine lv_istore (lv' := [(4, .int z37894), (0, .ref p0), (1, .int p1), (2, .int z37891), (3, .int z37892)]) hx hb dX5_advance_70 hl (by decide) rfl (fun ls hl => ?_)
    refine lv_iload_n hx hb dX5_advance_72 rfl (lv_at hl 2 rfl) ?_
    refine lv_iconst (v := 1) hx hb dX5_advance_73 (by decide) ?_
    refine lv_isub hx hb dX5_advance_74 ?_
    refine lv_topi (fun z37895 ez37895 => ?_)
    have hz37895 : z37895.toInt = p1.toInt - 1 := ar_sub ez37895 (rfl : p1.toInt = p1.toInt) (by decide : (1 : Int32).toInt = 1) (by omega) (by omega)
    have rz37895 : 1 ≤ z37895.toInt ∧ z37895.toInt ≤ 5 := by omega
    refine lv_istore (lv' := [(5, .int z37895), (4, .int z37894), (0, .ref p0), (1, .int p1), (2, .int z37891), (3, .int z37892)]) hx hb dX5_advance_75 hl (by decide) rfl (fun ls hl => ?_)
    exact K77 5 z37891 z37892 z37894 z37895 _ _ _ _ (by omega) (by omega) (by omega) (by omega) (by omega) hT hfr  (lv_sub hl [2, 3, 4, 5, 1, 0] rfl)
  have K41 : ∀ (n : Nat) (z37896 : Int32) (z37897 : Int32) (F : Nat → va_E) (H : Heap) (locs : List Loc) (ls : Array Slot), (z37897.toInt - 0 < (n : Int)) → (0 ≤ z37896.toInt ∧ z37896.toInt ≤ 4) → (0 ≤ z37897.toInt ∧ z37897.toInt ≤ 5) → TH G ttC A s tag L F H locs → ((∀ b j : Nat, fld F b j = fld Fo b j) ∧ EF tag F Fo) → lv_has ls 6 [(0, .ref p0), (1, .int p1), (2, .int z37896), (3, .int z37897)] → W p l e { frames := 1, cells := 0, slots := 0, locals := 23 } s m args below meth c H locs 0 0 Q (F0 m 41 ls []) := by
    intro n
    induction n with
    | zero =>
      intro z37896 z37897 F H locs ls hn rz37896 rz37897 hT hfr hl
      exfalso
      omega
    | succ n ih41 =>
      intro z37896 z37897 F H locs ls hn rz37896 rz37897 hT hfr hl
      refine lv_iload_n hx hb dX5_advance_41 rfl (lv_at hl 3 rfl) ?_
      refine lv_iload_n hx hb dX5_advance_42 rfl (lv_at hl 2 rfl) ?_
      refine lv_icmp_le (tgt := 61) hx hb dX5_advance_43 (by decide) (fun c37898 => ?_) (fun c37898 => ?_)
      · have w37899 := cv_le (rfl : z37897.toInt = z37897.toInt) (rfl : z37896.toInt = z37896.toInt) c37898
        exact K61 z37896 z37897 _ _ _ _ (by omega) (by omega) hT hfr  (lv_sub hl [0, 1, 2, 3] rfl)
      · have w37900 := cv_nle (rfl : z37897.toInt = z37897.toInt) (rfl : z37896.toInt = z37896.toInt) c37898
        refine lv_aload_n hx hb dX5_advance_46 rfl (lv_at hl 0 rfl) ?_
        refine lv_iload_n hx hb dX5_advance_47 rfl (lv_at hl 3 rfl) ?_
        refine t_ild X hT m0 g0 rfl (by omega) dX5_advance_48 (fun z37901 vz37901 rz37901 => ?_)
        have rz37901 : 0 ≤ z37901.toInt ∧ z37901.toInt ≤ 5 := rz37901
        refine lv_aload_n hx hb dX5_advance_49 rfl (lv_at hl 0 rfl) ?_
        refine lv_iload_n hx hb dX5_advance_50 rfl (lv_at hl 2 rfl) ?_
        refine t_ild X hT m0 g0 rfl (by omega) dX5_advance_51 (fun z37902 vz37902 rz37902 => ?_)
        have rz37902 : 0 ≤ z37902.toInt ∧ z37902.toInt ≤ 5 := rz37902
        refine lv_icmp_ge (tgt := 61) hx hb dX5_advance_52 (by decide) (fun c37903 => ?_) (fun c37903 => ?_)
        · have w37904 := cv_le (rfl : z37902.toInt = z37902.toInt) (rfl : z37901.toInt = z37901.toInt) c37903
          exact K61 z37896 z37897 _ _ _ _ (by omega) (by omega) hT hfr  (lv_sub hl [0, 1, 2, 3] rfl)
        · have w37905 := cv_nle (rfl : z37902.toInt = z37902.toInt) (rfl : z37901.toInt = z37901.toInt) c37903
          obtain ⟨z37906, ez37906⟩ : ∃ y : Int32, y = z37897 + (-1) := ⟨_, rfl⟩
          have hz37906 : z37906.toInt = z37897.toInt + (-1) := ar_add ez37906 rfl (by decide : ((-1) : Int32).toInt = (-1)) (by omega) (by omega)
          refine lv_iinc (v := z37906) (lv' := [(3, .int z37906), (0, .ref p0), (1, .int p1), (2, .int z37896)]) hx hb dX5_advance_55 hl (k := 3) rfl (by rw [ez37906]; rfl) (by decide) rfl (fun ls hl => ?_)
          refine lv_goto (tgt := 41) hx hb dX5_advance_58 (by decide) ?_
          exact ih41 z37896 z37906 _ _ _ _ (by omega) (by omega) (by omega) hT hfr  (lv_sub hl [1, 2, 3, 0] rfl)
  have K32 : ∀ (z37907 : Int32) (F : Nat → va_E) (H : Heap) (locs : List Loc) (ls : Array Slot), ((-1) ≤ z37907.toInt ∧ z37907.toInt ≤ 4) → TH G ttC A s tag L F H locs → ((∀ b j : Nat, fld F b j = fld Fo b j) ∧ EF tag F Fo) → lv_has ls 6 [(0, .ref p0), (1, .int p1), (2, .int z37907)] → W p l e { frames := 1, cells := 0, slots := 0, locals := 23 } s m args below meth c H locs 0 0 Q (F0 m 32 ls []) := by
    intro z37907 F H locs ls rz37907 hT hfr hl
    refine lv_iload_n hx hb dX5_advance_32 rfl (lv_at hl 2 rfl) ?_
    refine lv_if_ge (tgt := 37) hx hb dX5_advance_33 (by decide) (fun c37908 => ?_) (fun c37908 => ?_)
    · have w37909 := cv_le (by decide : (0 : Int32).toInt = 0) (rfl : z37907.toInt = z37907.toInt) c37908
      refine lv_iload_n hx hb dX5_advance_37 rfl (lv_at hl 1 rfl) ?_
      refine lv_iconst (v := 1) hx hb dX5_advance_38 (by decide) ?_
      refine lv_isub hx hb dX5_advance_39 ?_
      refine lv_topi (fun z37910 ez37910 => ?_)
      have hz37910 : z37910.toInt = p1.toInt - 1 := ar_sub ez37910 (rfl : p1.toInt = p1.toInt) (by decide : (1 : Int32).toInt = 1) (by omega) (by omega)
      have rz37910 : 1 ≤ z37910.toInt ∧ z37910.toInt ≤ 5 := by omega
      refine lv_istore_n (lv' := [(3, .int z37910), (0, .ref p0), (1, .int p1), (2, .int z37907)]) hx hb dX5_advance_40 rfl hl (by decide) rfl (fun ls hl => ?_)
      exact K41 6 z37907 z37910 _ _ _ _ (by omega) (by omega) (by omega) hT hfr  (lv_sub hl [1, 2, 3, 0] rfl)
    · have w37911 := cv_nle (by decide : (0 : Int32).toInt = 0) (rfl : z37907.toInt = z37907.toInt) c37908
      exact t_vret hQ X hT hfr (Nat.le_of_ble_eq_true rfl) (Nat.le_of_ble_eq_true rfl) dX5_advance_36
  have K11 : ∀ (n : Nat) (z37912 : Int32) (F : Nat → va_E) (H : Heap) (locs : List Loc) (ls : Array Slot), (z37912.toInt - (-1) < (n : Int)) → ((-1) ≤ z37912.toInt ∧ z37912.toInt ≤ 4) → TH G ttC A s tag L F H locs → ((∀ b j : Nat, fld F b j = fld Fo b j) ∧ EF tag F Fo) → lv_has ls 6 [(0, .ref p0), (1, .int p1), (2, .int z37912)] → W p l e { frames := 1, cells := 0, slots := 0, locals := 23 } s m args below meth c H locs 0 0 Q (F0 m 11 ls []) := by
    intro n
    induction n with
    | zero =>
      intro z37912 F H locs ls hn rz37912 hT hfr hl
      exfalso
      omega
    | succ n ih11 =>
      intro z37912 F H locs ls hn rz37912 hT hfr hl
      refine lv_iload_n hx hb dX5_advance_11 rfl (lv_at hl 2 rfl) ?_
      refine lv_if_lt (tgt := 32) hx hb dX5_advance_12 (by decide) (fun c37913 => ?_) (fun c37913 => ?_)
      · have w37914 := cv_lt (rfl : z37912.toInt = z37912.toInt) (by decide : (0 : Int32).toInt = 0) c37913
        exact K32 z37912 _ _ _ _ (by omega) hT hfr  (lv_sub hl [0, 1, 2] rfl)
      · have w37915 := cv_nlt (rfl : z37912.toInt = z37912.toInt) (by decide : (0 : Int32).toInt = 0) c37913
        refine lv_aload_n hx hb dX5_advance_15 rfl (lv_at hl 0 rfl) ?_
        refine lv_iload_n hx hb dX5_advance_16 rfl (lv_at hl 2 rfl) ?_
        refine t_ild X hT m0 g0 rfl (by omega) dX5_advance_17 (fun z37916 vz37916 rz37916 => ?_)
        have rz37916 : 0 ≤ z37916.toInt ∧ z37916.toInt ≤ 5 := rz37916
        refine lv_aload_n hx hb dX5_advance_18 rfl (lv_at hl 0 rfl) ?_
        refine lv_iload_n hx hb dX5_advance_19 rfl (lv_at hl 2 rfl) ?_
        refine lv_iconst (v := 1) hx hb dX5_advance_20 (by decide) ?_
        refine lv_iadd hx hb dX5_advance_21 ?_
        refine lv_topi (fun z37917 ez37917 => ?_)
        have hz37917 : z37917.toInt = z37912.toInt + 1 := ar_add ez37917 (rfl : z37912.toInt = z37912.toInt) (by decide : (1 : Int32).toInt = 1) (by omega) (by omega)
        have rz37917 : 1 ≤ z37917.toInt ∧ z37917.toInt ≤ 5 := by omega
        refine t_ild X hT m0 g0 rfl (by omega) dX5_advance_22 (fun z37918 vz37918 rz37918 => ?_)
        have rz37918 : 0 ≤ z37918.toInt ∧ z37918.toInt ≤ 5 := rz37918
        refine lv_icmp_le (tgt := 32) hx hb dX5_advance_23 (by decide) (fun c37919 => ?_) (fun c37919 => ?_)
        · have w37920 := cv_le (rfl : z37916.toInt = z37916.toInt) (rfl : z37918.toInt = z37918.toInt) c37919
          exact K32 z37912 _ _ _ _ (by omega) hT hfr  (lv_sub hl [0, 1, 2] rfl)
        · have w37921 := cv_nle (rfl : z37916.toInt = z37916.toInt) (rfl : z37918.toInt = z37918.toInt) c37919
          obtain ⟨z37922, ez37922⟩ : ∃ y : Int32, y = z37912 + (-1) := ⟨_, rfl⟩
          have hz37922 : z37922.toInt = z37912.toInt + (-1) := ar_add ez37922 rfl (by decide : ((-1) : Int32).toInt = (-1)) (by omega) (by omega)
          refine lv_iinc (v := z37922) (lv' := [(2, .int z37922), (0, .ref p0), (1, .int p1)]) hx hb dX5_advance_26 hl (k := 2) rfl (by rw [ez37922]; rfl) (by decide) rfl (fun ls hl => ?_)
          refine lv_goto (tgt := 11) hx hb dX5_advance_29 (by decide) ?_
          exact ih11 z37922 _ _ _ _ (by omega) (by omega) hT hfr  (lv_sub hl [1, 2, 0] rfl)
  refine lv_iload_n hx hb dX5_advance_0 rfl (lv_at hl 1 rfl) ?_
  refine lv_aload_n hx hb dX5_advance_1 rfl (lv_at hl 0 rfl) ?_
  refine t_alen X hT m0 g0 rfl (by decide) dX5_advance_2 ?_
  refine lv_topi (fun z37923 ez37923 => ?_)
  obtain rfl : z37923 = 6 := ez37923.trans (by rfl)
  refine lv_icmp_le (tgt := 7) hx hb dX5_advance_3 (by decide) (fun c37924 => ?_) (fun c37924 => ?_)
  · have w37925 := cv_le (rfl : p1.toInt = p1.toInt) (by decide : (6 : Int32).toInt = 6) c37924
    refine lv_iload_n hx hb dX5_advance_7 rfl (lv_at hl 1 rfl) ?_
    refine lv_iconst (v := 2) hx hb dX5_advance_8 (by decide) ?_
    refine lv_isub hx hb dX5_advance_9 ?_
    refine lv_topi (fun z37926 ez37926 => ?_)
    have hz37926 : z37926.toInt = p1.toInt - 2 := ar_sub ez37926 (rfl : p1.toInt = p1.toInt) (by decide : (2 : Int32).toInt = 2) (by omega) (by omega)
    have rz37926 : 0 ≤ z37926.toInt ∧ z37926.toInt ≤ 4 := by omega
    refine lv_istore_n (lv' := [(2, .int z37926), (0, .ref p0), (1, .int p1)]) hx hb dX5_advance_10 rfl hl (by decide) rfl (fun ls hl => ?_)
    exact K11 6 z37926 _ _ _ _ (by omega) (by omega) hT hfr  (lv_sub hl [1, 2, 0] rfl)
  · have w37927 := cv_nle (rfl : p1.toInt = p1.toInt) (by decide : (6 : Int32).toInt = 6) c37924
    exfalso
    omega
set_option maxHeartbeats 4000000 in
set_option maxRecDepth 100000 in
theorem kt105_X5_advance (l : Launch) (G : KG) (tag : Nat → Nat) (L : List Nat) (Fo : Nat → va_E) (ho : okT G ttC tag L Fo) (p0 : Nat) (p1 : Int32) (m0 : p0 ∈ L) (g0 : tag p0 = 11) (h1 : 0 ≤ p1.toInt ∧ p1.toInt ≤ 1) : TMv l yX5_advance cX5_advance 6 { frames := 1, cells := 0, slots := 0, locals := 23 } G ttC tag L Fo [.ref p0, .int p1] (fun F1 => ((∀ b j : Nat, fld F1 b j = fld Fo b j) ∧ EF tag F1 Fo)) := by
  refine t_bodyv (y := yX5_advance) (cd := cX5_advance) (mL := 6) (rm := { frames := 1, cells := 0, slots := 0, locals := 23 }) (av := [.ref p0, .int p1]) (by decide) (Nat.le_of_ble_eq_true rfl) ho ?_
  intro p e s m args below meth c ls A Q hQ X hT hl
  have hx := X.1.1
  have hb := X.1.2.1
  have hl : lv_has ls 6 [(0, .ref p0), (1, .int p1)] := hl
  obtain ⟨F, hFo⟩ : ∃ F : Nat → va_E, F = Fo := ⟨_, rfl⟩
  rw [← hFo] at hT
  have hfr : (∀ b j : Nat, fld F b j = fld Fo b j) ∧ EF tag F Fo := by
    rw [hFo]
    exact ⟨by intros; rfl, fun _ _ _ => rfl⟩
  have K32 : ∀ (z38075 : Int32) (F : Nat → va_E) (H : Heap) (locs : List Loc) (ls : Array Slot), ((-2) ≤ z38075.toInt ∧ z38075.toInt ≤ (-1)) → TH G ttC A s tag L F H locs → ((∀ b j : Nat, fld F b j = fld Fo b j) ∧ EF tag F Fo) → lv_has ls 6 [(0, .ref p0), (1, .int p1), (2, .int z38075)] → W p l e { frames := 1, cells := 0, slots := 0, locals := 23 } s m args below meth c H locs 0 0 Q (F0 m 32 ls []) := by
    intro z38075 F H locs ls rz38075 hT hfr hl
    refine lv_iload_n hx hb dX5_advance_32 rfl (lv_at hl 2 rfl) ?_
    refine lv_if_ge (tgt := 37) hx hb dX5_advance_33 (by decide) (fun c38076 => ?_) (fun c38076 => ?_)
    · have w38077 := cv_le (by decide : (0 : Int32).toInt = 0) (rfl : z38075.toInt = z38075.toInt) c38076
      exfalso
      omega
    · have w38078 := cv_nle (by decide : (0 : Int32).toInt = 0) (rfl : z38075.toInt = z38075.toInt) c38076
      exact t_vret hQ X hT hfr (Nat.le_of_ble_eq_true rfl) (Nat.le_of_ble_eq_true rfl) dX5_advance_36
  have K11 : ∀ (z38079 : Int32) (F : Nat → va_E) (H : Heap) (locs : List Loc) (ls : Array Slot), ((-2) ≤ z38079.toInt ∧ z38079.toInt ≤ (-1)) → TH G ttC A s tag L F H locs → ((∀ b j : Nat, fld F b j = fld Fo b j) ∧ EF tag F Fo) → lv_has ls 6 [(0, .ref p0), (1, .int p1), (2, .int z38079)] → W p l e { frames := 1, cells := 0, slots := 0, locals := 23 } s m args below meth c H locs 0 0 Q (F0 m 11 ls []) := by
    intro z38079 F H locs ls rz38079 hT hfr hl
    refine lv_iload_n hx hb dX5_advance_11 rfl (lv_at hl 2 rfl) ?_
    refine lv_if_lt (tgt := 32) hx hb dX5_advance_12 (by decide) (fun c38080 => ?_) (fun c38080 => ?_)
    · have w38081 := cv_lt (rfl : z38079.toInt = z38079.toInt) (by decide : (0 : Int32).toInt = 0) c38080
      exact K32 z38079 _ _ _ _ (by omega) hT hfr  (lv_sub hl [0, 1, 2] rfl)
    · have w38082 := cv_nlt (rfl : z38079.toInt = z38079.toInt) (by decide : (0 : Int32).toInt = 0) c38080
      exfalso
      omega
  refine lv_iload_n hx hb dX5_advance_0 rfl (lv_at hl 1 rfl) ?_
  refine lv_aload_n hx hb dX5_advance_1 rfl (lv_at hl 0 rfl) ?_
  refine t_alen X hT m0 g0 rfl (by decide) dX5_advance_2 ?_
  refine lv_topi (fun z38083 ez38083 => ?_)
  obtain rfl : z38083 = 6 := ez38083.trans (by rfl)
  refine lv_icmp_le (tgt := 7) hx hb dX5_advance_3 (by decide) (fun c38084 => ?_) (fun c38084 => ?_)
  · have w38085 := cv_le (rfl : p1.toInt = p1.toInt) (by decide : (6 : Int32).toInt = 6) c38084
    refine lv_iload_n hx hb dX5_advance_7 rfl (lv_at hl 1 rfl) ?_
    refine lv_iconst (v := 2) hx hb dX5_advance_8 (by decide) ?_
    refine lv_isub hx hb dX5_advance_9 ?_
    refine lv_topi (fun z38086 ez38086 => ?_)
    have hz38086 : z38086.toInt = p1.toInt - 2 := ar_sub ez38086 (rfl : p1.toInt = p1.toInt) (by decide : (2 : Int32).toInt = 2) (by omega) (by omega)
    have rz38086 : (-2) ≤ z38086.toInt ∧ z38086.toInt ≤ (-1) := by omega
    refine lv_istore_n (lv' := [(2, .int z38086), (0, .ref p0), (1, .int p1)]) hx hb dX5_advance_10 rfl hl (by decide) rfl (fun ls hl => ?_)
    exact K11 z38086 _ _ _ _ (by omega) hT hfr  (lv_sub hl [1, 2, 0] rfl)
  · have w38087 := cv_nle (rfl : p1.toInt = p1.toInt) (by decide : (6 : Int32).toInt = 6) c38084
    exfalso
    omega
theorem kt106_X5_advance (l : Launch) (G : KG) (tag : Nat → Nat) (L : List Nat) (Fo : Nat → va_E) (ho : okT G ttC tag L Fo) (p0 : Nat) (p1 : Int32) (m0 : p0 ∈ L) (g0 : tag p0 = 11) (h1 : 0 ≤ p1.toInt ∧ p1.toInt ≤ 6) : TMv l yX5_advance cX5_advance 6 { frames := 1, cells := 0, slots := 0, locals := 23 } G ttC tag L Fo [.ref p0, .int p1] (fun F1 => ((∀ b j : Nat, fld F1 b j = fld Fo b j) ∧ EF tag F1 Fo)) := by
  by_cases h9 : p1.toInt < 2
  · exact kt105_X5_advance l G tag L Fo ho p0 p1 m0 g0 (by omega)
  · exact kt104_X5_advance l G tag L Fo ho p0 p1 m0 g0 (by omega)
set_option maxHeartbeats 4000000 in
set_option maxRecDepth 100000 in
theorem kt107_X9_lookAtAll (l : Launch) (G : KG) (tag : Nat → Nat) (L : List Nat) (Fo : Nat → va_E) (ho : okT G ttC tag L Fo) (p0 : Nat) (p1 : Nat) (p2 : Int32) (m0 : p0 ∈ L) (g0 : tag p0 = 22) (m1 : p1 ∈ L) (g1 : tag p1 = 18) : TMv l yX9_lookAtAll cX9_lookAtAll 4 { frames := 3, cells := 0, slots := 0, locals := 63 } G ttC tag L Fo [.ref p0, .ref p1, .int p2] (fun F1 => ((∀ b j : Nat, (tag b ≠ 22 ∨ j ≠ 2) → fld F1 b j = fld Fo b j) ∧ EF tag F1 Fo)) := by
  refine t_bodyv (y := yX9_lookAtAll) (cd := cX9_lookAtAll) (mL := 4) (rm := { frames := 3, cells := 0, slots := 0, locals := 63 }) (av := [.ref p0, .ref p1, .int p2]) (by decide) (Nat.le_of_ble_eq_true rfl) ho ?_
  intro p e s m args below meth c ls A Q hQ X hT hl
  have hx := X.1.1
  have hb := X.1.2.1
  have hl : lv_has ls 4 [(0, .ref p0), (1, .ref p1), (2, .int p2)] := hl
  have rp2 := rg_all p2
  obtain ⟨F, hFo⟩ : ∃ F : Nat → va_E, F = Fo := ⟨_, rfl⟩
  rw [← hFo] at hT
  have hfr : (∀ b j : Nat, (tag b ≠ 22 ∨ j ≠ 2) → fld F b j = fld Fo b j) ∧ EF tag F Fo := by
    rw [hFo]
    exact ⟨by intros; rfl, fun _ _ _ => rfl⟩
  have K55 : ∀ (n : Nat) (z39696 : Int32) (z39697 : Int32) (z39698 : Int32) (F : Nat → va_E) (H : Heap) (locs : List Loc) (ls : Array Slot), (720 - z39696.toInt < (n : Int)) → (0 ≤ z39696.toInt ∧ z39696.toInt ≤ 720) → (0 ≤ z39698.toInt ∧ z39698.toInt ≤ 6) → TH G ttC A s tag L F H locs → ((∀ b j : Nat, (tag b ≠ 22 ∨ j ≠ 2) → fld F b j = fld Fo b j) ∧ EF tag F Fo) → fld F p0 2 = .int z39697 → fld F p1 16 = .int z39698 → lv_has ls 4 [(0, .ref p0), (1, .ref p1), (2, .int p2), (3, .int z39696)] → W p l e { frames := 3, cells := 0, slots := 0, locals := 63 } s m args below meth c H locs 0 0 Q (F0 m 55 ls []) := by
    intro n
    induction n with
    | zero =>
      intro z39696 z39697 z39698 F H locs ls hn rz39696 rz39698 hT hfr qz39697 qz39698 hl
      have rz39697 := rg_all z39697
      exfalso
      omega
    | succ n ih55 =>
      intro z39696 z39697 z39698 F H locs ls hn rz39696 rz39698 hT hfr qz39697 qz39698 hl
      have rz39697 := rg_all z39697
      have K92 : ∀ (z39700 : Int32) (z39701 : Int32) (F : Nat → va_E) (H : Heap) (locs : List Loc) (ls : Array Slot), (0 ≤ z39701.toInt ∧ z39701.toInt ≤ 6) → (0 ≤ z39696.toInt ∧ z39696.toInt ≤ 719) → TH G ttC A s tag L F H locs → ((∀ b j : Nat, (tag b ≠ 22 ∨ j ≠ 2) → fld F b j = fld Fo b j) ∧ EF tag F Fo) → fld F p0 2 = .int z39700 → fld F p1 16 = .int z39701 → lv_has ls 4 [(0, .ref p0), (1, .ref p1), (2, .int p2), (3, .int z39696)] → W p l e { frames := 3, cells := 0, slots := 0, locals := 63 } s m args below meth c H locs 0 0 Q (F0 m 92 ls []) := by
        intro z39700 z39701 F H locs ls rz39701 r9s39699 hT hfr qz39700 qz39701 hl
        have rz39700 := rg_all z39700
        refine lv_aload_n hx hb dX9_lookAtAll_92 rfl (lv_at hl 0 rfl) ?_
        refine t_get (C := RX9) (T := TX9) (N := 6) X hT m0 g0 rfl rfl 0 (by decide) qw_93 inlX9 rfl dX9_lookAtAll_93 (fun v39702 hv39702 ov39702 => ?_)
        obtain ⟨b39703, rfl, mb39703, gb39703⟩ := okV_r ov39702
        have gb39703 : tag b39703 = 11 := tg_of gb39703
        refine lv_aload_n hx hb dX9_lookAtAll_96 rfl (lv_at hl 1 rfl) ?_
        refine t_get (C := RX1) (T := TX1) (N := 20) X hT m1 g1 rfl rfl 16 (by decide) qw_1338 inlX1 rfl dX9_lookAtAll_97 (fun v39704 hv39704 ov39704 => ?_)
        obtain rfl : v39704 = .int z39701 := hv39704.symm.trans qz39701
        refine t_cSv (n := 2) (As := [.ref b39703, .int z39701]) (rest := []) X hT (kt106_X5_advance l G tag L F hT.2.2.2 b39703 z39701 mb39703 gb39703 (by omega)) qw_1356 qw_1248 qw_1242 qw_1249 ⟨by decide +kernel, by decide +kernel, by decide +kernel⟩ ⟨Nat.le_of_ble_eq_true rfl, Nat.le_of_ble_eq_true rfl⟩ hl rfl rfl (Nat.le_of_ble_eq_true rfl) dX9_lookAtAll_100 ⟨Nat.le_of_ble_eq_true rfl, Nat.le_of_ble_eq_true rfl⟩ (fun F H locs hT hz39705 => ?_)
        have yz39705 := hz39705
        have qz39700 := (yz39705.1 _ 2 ).trans qz39700
        have qz39701 := (yz39705.1 _ 16 ).trans qz39701
        have hv39702 := (yz39705.1 _ 0 ).trans hv39702
        have hfr : (∀ b j : Nat, (tag b ≠ 22 ∨ j ≠ 2) → fld F b j = fld Fo b j) ∧ EF tag F Fo := ⟨fun b j n22_2 => (yz39705.1 b j ).trans (hfr.1 b j n22_2), fun b j hb => (yz39705.2 b j hb).trans (hfr.2 b j hb)⟩
        obtain ⟨z39706, ez39706⟩ : ∃ y : Int32, y = z39696 + 1 := ⟨_, rfl⟩
        have hz39706 : z39706.toInt = z39696.toInt + 1 := ar_add ez39706 rfl (by decide : (1 : Int32).toInt = 1) (by omega) (by omega)
        refine lv_iinc (v := z39706) (lv' := [(3, .int z39706), (0, .ref p0), (1, .ref p1), (2, .int p2)]) hx hb dX9_lookAtAll_103 hl (k := 3) rfl (by rw [ez39706]; rfl) (by decide) rfl (fun ls hl => ?_)
        refine lv_goto (tgt := 55) hx hb dX9_lookAtAll_106 (by decide) ?_
        exact ih55 z39706 z39700 z39701 _ _ _ _ (by omega) (by omega) (by omega) hT hfr qz39700 qz39701 (lv_sub hl [1, 2, 3, 0] rfl)
      refine lv_iload_n hx hb dX9_lookAtAll_55 rfl (lv_at hl 3 rfl) ?_
      refine t_getsN X hT X.2.2.2.1.2.2.2.1 (List.mem_of_getElem? (i := 3) rfl) dX9_lookAtAll_56 ?_
      refine lv_aload_n hx hb dX9_lookAtAll_59 rfl (lv_at hl 1 rfl) ?_
      refine t_get (C := RX1) (T := TX1) (N := 20) X hT m1 g1 rfl rfl 16 (by decide) qw_1338 inlX1 rfl dX9_lookAtAll_60 (fun v39707 hv39707 ov39707 => ?_)
      obtain rfl : v39707 = .int z39698 := hv39707.symm.trans qz39698
      refine t_tild X hT X.2.2.2.1.2.2.2.1 (by omega) dX9_lookAtAll_63 (fun z39708 ez39708 => ?_)
      have rz39708 : 1 ≤ z39708.toInt ∧ z39708.toInt ≤ 720 := by rw [ez39708]; exact gRows_r _
      refine lv_icmp_ge (tgt := 109) hx hb dX9_lookAtAll_64 (by decide) (fun c39709 => ?_) (fun c39709 => ?_)
      · have w39710 := cv_le (rfl : z39708.toInt = z39708.toInt) (rfl : z39696.toInt = z39696.toInt) c39709
        exact t_vret hQ X hT hfr (Nat.le_of_ble_eq_true rfl) (Nat.le_of_ble_eq_true rfl) dX9_lookAtAll_109
      · have w39711 := cv_nle (rfl : z39708.toInt = z39708.toInt) (rfl : z39696.toInt = z39696.toInt) c39709
        refine lv_aload_n hx hb dX9_lookAtAll_67 rfl (lv_at hl 0 rfl) ?_
        refine lv_aload_n hx hb dX9_lookAtAll_68 rfl (lv_at hl 1 rfl) ?_
        refine lv_iload_n hx hb dX9_lookAtAll_69 rfl (lv_at hl 2 rfl) ?_
        refine t_cVi (n := 2) (C := RX9) (T := TX9) (N := 6) (As := [.ref p1, .int p2]) (rest := []) X hT (kt101_X9_canBe l G tag L F hT.2.2.2 p0 p1 p2 m0 g0 m1 g1) m0 g0 rfl rfl qw_1340 qw_1341 qw_1342 qw_40 qw_1343 ⟨rfl, by decide +kernel, by decide +kernel, by decide +kernel⟩ ⟨Nat.le_of_ble_eq_true rfl, Nat.le_of_ble_eq_true rfl⟩ hl rfl rfl (Nat.le_of_ble_eq_true rfl) dX9_lookAtAll_70 ⟨Nat.le_of_ble_eq_true rfl, Nat.le_of_ble_eq_true rfl⟩ (fun z39712 F H locs hT hz39712 => ?_)
        obtain ⟨hz39712, yz39712⟩ := hz39712
        have qz39697 := (yz39712.1 _ 2 ).trans qz39697
        have qz39698 := (yz39712.1 _ 16 ).trans qz39698
        have hfr : (∀ b j : Nat, (tag b ≠ 22 ∨ j ≠ 2) → fld F b j = fld Fo b j) ∧ EF tag F Fo := ⟨fun b j n22_2 => (yz39712.1 b j ).trans (hfr.1 b j n22_2), fun b j hb => (yz39712.2 b j hb).trans (hfr.2 b j hb)⟩
        refine lv_if_eq (tgt := 92) hx hb dX9_lookAtAll_73 (by decide) (fun c39713 => ?_) (fun c39713 => ?_)
        · have w39714 := cv_eq (rfl : z39712.toInt = z39712.toInt) (by decide : (0 : Int32).toInt = 0) c39713
          exact K92 z39697 z39698 _ _ _ _ (by omega) (by omega) hT hfr qz39697 qz39698 (lv_sub hl [0, 1, 2, 3] rfl)
        · have w39715 := cv_ne (rfl : z39712.toInt = z39712.toInt) (by decide : (0 : Int32).toInt = 0) c39713
          refine lv_aload_n hx hb dX9_lookAtAll_76 rfl (lv_at hl 0 rfl) ?_
          refine lv_dup hx hb dX9_lookAtAll_77 rfl ?_
          refine t_get (C := RX9) (T := TX9) (N := 6) X hT m0 g0 rfl rfl 2 (by decide) qw_1337 inlX9 rfl dX9_lookAtAll_78 (fun v39716 hv39716 ov39716 => ?_)
          obtain rfl : v39716 = .int z39697 := hv39716.symm.trans qz39697
          refine lv_iconst (v := 1) hx hb dX9_lookAtAll_81 (by decide) ?_
          refine lv_iadd hx hb dX9_lookAtAll_82 ?_
          refine lv_topi (fun z39717 ez39717 => ?_)
          have rz39717 := rg_all z39717
          refine t_put (C := RX9) (T := TX9) (N := 6) (v := .int z39717) X hT m0 g0 rfl tyX9 tyX9_ok nmX9 rfl 2 (by decide) qw_1337 inlX9 rfl (by first | rfl | decide) (by first | rfl | decide) rfl (⟨_, rfl, (show (-2147483648) ≤ (z39717 : Int32).toInt from (by omega)), (show (z39717 : Int32).toInt ≤ 2147483647 from (by omega))⟩) dX9_lookAtAll_83 (fun F H locs hT v39718 h1v39718 h2v39718 => ?_)
          have qz39698 := (h1v39718 _ _ (Or.inr (by decide))).trans qz39698
          have hfr : (∀ b j : Nat, (tag b ≠ 22 ∨ j ≠ 2) → fld F b j = fld Fo b j) ∧ EF tag F Fo := ⟨fun b j n22_2 => (h1v39718 b j (fr_ne g0 n22_2)).trans (hfr.1 b j n22_2), fun b j hb => (h2v39718 b j).trans (hfr.2 b j hb)⟩
          refine lv_aload_n hx hb dX9_lookAtAll_86 rfl (lv_at hl 0 rfl) ?_
          refine lv_aload_n hx hb dX9_lookAtAll_87 rfl (lv_at hl 1 rfl) ?_
          refine lv_iload_n hx hb dX9_lookAtAll_88 rfl (lv_at hl 2 rfl) ?_
          refine t_cVv (n := 2) (C := RX9) (T := TX9) (N := 6) (As := [.ref p1, .int p2]) (rest := []) X hT (kt102_X9_noteRow l G tag L F hT.2.2.2 p0 p1 p2 m0 g0 m1 g1) m0 g0 rfl rfl qw_1352 qw_1353 qw_1354 qw_40 qw_1355 ⟨rfl, by decide +kernel, by decide +kernel, by decide +kernel⟩ ⟨Nat.le_of_ble_eq_true rfl, Nat.le_of_ble_eq_true rfl⟩ hl rfl rfl (Nat.le_of_ble_eq_true rfl) dX9_lookAtAll_89 ⟨Nat.le_of_ble_eq_true rfl, Nat.le_of_ble_eq_true rfl⟩ (fun F H locs hT hz39719 => ?_)
          have yz39719 := hz39719
          have qz39698 := (yz39719.1 _ 16 ).trans qz39698
          have v39718 := (yz39719.1 _ 2 ).trans v39718
          have hfr : (∀ b j : Nat, (tag b ≠ 22 ∨ j ≠ 2) → fld F b j = fld Fo b j) ∧ EF tag F Fo := ⟨fun b j n22_2 => (yz39719.1 b j ).trans (hfr.1 b j n22_2), fun b j hb => (yz39719.2 b j hb).trans (hfr.2 b j hb)⟩
          exact K92 z39717 z39698 _ _ _ _ (by omega) (by omega) hT hfr v39718 qz39698 (lv_sub hl [0, 1, 2, 3] rfl)
  have K7 : ∀ (n : Nat) (z39720 : Int32) (z39721 : Int32) (F : Nat → va_E) (H : Heap) (locs : List Loc) (ls : Array Slot), (6 - z39720.toInt < (n : Int)) → (0 ≤ z39720.toInt ∧ z39720.toInt ≤ 6) → (0 ≤ z39721.toInt ∧ z39721.toInt ≤ 0) → TH G ttC A s tag L F H locs → ((∀ b j : Nat, (tag b ≠ 22 ∨ j ≠ 2) → fld F b j = fld Fo b j) ∧ EF tag F Fo) → fld F p0 2 = .int z39721 → lv_has ls 4 [(0, .ref p0), (1, .ref p1), (2, .int p2), (3, .int z39720)] → W p l e { frames := 3, cells := 0, slots := 0, locals := 63 } s m args below meth c H locs 0 0 Q (F0 m 7 ls []) := by
    intro n
    induction n with
    | zero =>
      intro z39720 z39721 F H locs ls hn rz39720 rz39721 hT hfr qz39721 hl
      exfalso
      omega
    | succ n ih7 =>
      intro z39720 z39721 F H locs ls hn rz39720 rz39721 hT hfr qz39721 hl
      refine lv_iload_n hx hb dX9_lookAtAll_7 rfl (lv_at hl 3 rfl) ?_
      refine lv_bipush (v := 6) hx hb dX9_lookAtAll_8 (by decide) ?_
      refine lv_icmp_ge (tgt := 42) hx hb dX9_lookAtAll_10 (by decide) (fun c39722 => ?_) (fun c39722 => ?_)
      · have w39723 := cv_le (by decide : (6 : Int32).toInt = 6) (rfl : z39720.toInt = z39720.toInt) c39722
        refine lv_aload_n hx hb dX9_lookAtAll_42 rfl (lv_at hl 0 rfl) ?_
        refine t_get (C := RX9) (T := TX9) (N := 6) X hT m0 g0 rfl rfl 0 (by decide) qw_93 inlX9 rfl dX9_lookAtAll_43 (fun v39724 hv39724 ov39724 => ?_)
        obtain ⟨b39725, rfl, mb39725, gb39725⟩ := okV_r ov39724
        have gb39725 : tag b39725 = 11 := tg_of gb39725
        refine lv_aload_n hx hb dX9_lookAtAll_46 rfl (lv_at hl 1 rfl) ?_
        refine t_get (C := RX1) (T := TX1) (N := 20) X hT m1 g1 rfl rfl 16 (by decide) qw_1338 inlX1 rfl dX9_lookAtAll_47 (fun v39726 hv39726 ov39726 => ?_)
        obtain ⟨z39727, rfl, rz39727⟩ := okV_i ov39726
        refine t_cSv (n := 2) (As := [.ref b39725, .int z39727]) (rest := []) X hT (kt99_X5_begin l G tag L F hT.2.2.2 b39725 z39727 mb39725 gb39725 (by omega)) qw_1339 qw_1241 qw_1242 qw_1243 ⟨by decide +kernel, by decide +kernel, by decide +kernel⟩ ⟨Nat.le_of_ble_eq_true rfl, Nat.le_of_ble_eq_true rfl⟩ hl rfl rfl (Nat.le_of_ble_eq_true rfl) dX9_lookAtAll_50 ⟨Nat.le_of_ble_eq_true rfl, Nat.le_of_ble_eq_true rfl⟩ (fun F H locs hT hz39728 => ?_)
        have yz39728 := hz39728
        have qz39721 := (yz39728.1 _ 2 ).trans qz39721
        have hv39724 := (yz39728.1 _ 0 ).trans hv39724
        have hv39726 := (yz39728.1 _ 16 ).trans hv39726
        have hfr : (∀ b j : Nat, (tag b ≠ 22 ∨ j ≠ 2) → fld F b j = fld Fo b j) ∧ EF tag F Fo := ⟨fun b j n22_2 => (yz39728.1 b j ).trans (hfr.1 b j n22_2), fun b j hb => (yz39728.2 b j hb).trans (hfr.2 b j hb)⟩
        refine lv_iconst (v := 0) hx hb dX9_lookAtAll_53 (by decide) ?_
        refine lv_istore_n (lv' := [(3, .int 0), (0, .ref p0), (1, .ref p1), (2, .int p2)]) hx hb dX9_lookAtAll_54 rfl hl (by decide) rfl (fun ls hl => ?_)
        have kk39729 : (0 : Int32).toInt = 0 := by decide
        exact K55 721 0 z39721 z39727 _ _ _ _ (by omega) (by decide) (by omega) hT hfr qz39721 hv39726 (lv_sub hl [1, 2, 3, 0] rfl)
      · have w39730 := cv_nle (by decide : (6 : Int32).toInt = 6) (rfl : z39720.toInt = z39720.toInt) c39722
        refine lv_aload_n hx hb dX9_lookAtAll_13 rfl (lv_at hl 0 rfl) ?_
        refine t_get (C := RX9) (T := TX9) (N := 6) X hT m0 g0 rfl rfl 3 (by decide) qw_95 inlX9 rfl dX9_lookAtAll_14 (fun v39731 hv39731 ov39731 => ?_)
        obtain ⟨b39732, rfl, mb39732, gb39732⟩ := okV_r ov39731
        have gb39732 : tag b39732 = 7 := tg_of gb39732
        refine lv_iload_n hx hb dX9_lookAtAll_17 rfl (lv_at hl 3 rfl) ?_
        refine lv_sipush (v := 999) hx hb dX9_lookAtAll_18 (by decide) ?_
        refine t_ist X hT mb39732 gb39732 rfl (by omega) (show (-2147483648) ≤ (999 : Int32).toInt ∧ (999 : Int32).toInt ≤ 2147483647 from (by decide)) dX9_lookAtAll_21 (fun F H locs hT v39733 h1v39733 h2v39733 => ?_)
        have qz39721 := (h2v39733 _ _).trans qz39721
        have hv39731 := (h2v39733 _ _).trans hv39731
        have hfr : (∀ b j : Nat, (tag b ≠ 22 ∨ j ≠ 2) → fld F b j = fld Fo b j) ∧ EF tag F Fo := ⟨fun b j n22_2 => (h2v39733 b j).trans (hfr.1 b j n22_2), fun b j hb => (h1v39733 b j (Or.inl (ns_ne hb gb39732 (by decide)))).trans (hfr.2 b j hb)⟩
        refine lv_aload_n hx hb dX9_lookAtAll_22 rfl (lv_at hl 0 rfl) ?_
        refine t_get (C := RX9) (T := TX9) (N := 6) X hT m0 g0 rfl rfl 4 (by decide) qw_96 inlX9 rfl dX9_lookAtAll_23 (fun v39734 hv39734 ov39734 => ?_)
        obtain ⟨b39735, rfl, mb39735, gb39735⟩ := okV_r ov39734
        have gb39735 : tag b39735 = 7 := tg_of gb39735
        refine lv_iload_n hx hb dX9_lookAtAll_26 rfl (lv_at hl 3 rfl) ?_
        refine lv_iconst (v := 0) hx hb dX9_lookAtAll_27 (by decide) ?_
        refine t_ist X hT mb39735 gb39735 rfl (by omega) (show (-2147483648) ≤ (0 : Int32).toInt ∧ (0 : Int32).toInt ≤ 2147483647 from (by decide)) dX9_lookAtAll_28 (fun F H locs hT v39736 h1v39736 h2v39736 => ?_)
        have qz39721 := (h2v39736 _ _).trans qz39721
        have hv39731 := (h2v39736 _ _).trans hv39731
        have hv39734 := (h2v39736 _ _).trans hv39734
        have hfr : (∀ b j : Nat, (tag b ≠ 22 ∨ j ≠ 2) → fld F b j = fld Fo b j) ∧ EF tag F Fo := ⟨fun b j n22_2 => (h2v39736 b j).trans (hfr.1 b j n22_2), fun b j hb => (h1v39736 b j (Or.inl (ns_ne hb gb39735 (by decide)))).trans (hfr.2 b j hb)⟩
        refine lv_aload_n hx hb dX9_lookAtAll_29 rfl (lv_at hl 0 rfl) ?_
        refine t_get (C := RX9) (T := TX9) (N := 6) X hT m0 g0 rfl rfl 5 (by decide) qw_97 inlX9 rfl dX9_lookAtAll_30 (fun v39737 hv39737 ov39737 => ?_)
        obtain ⟨b39738, rfl, mb39738, gb39738⟩ := okV_r ov39737
        have gb39738 : tag b39738 = 7 := tg_of gb39738
        refine lv_iload_n hx hb dX9_lookAtAll_33 rfl (lv_at hl 3 rfl) ?_
        refine lv_iconst (v := (-1)) hx hb dX9_lookAtAll_34 (by decide) ?_
        refine t_ist X hT mb39738 gb39738 rfl (by omega) (show (-2147483648) ≤ ((-1) : Int32).toInt ∧ ((-1) : Int32).toInt ≤ 2147483647 from (by decide)) dX9_lookAtAll_35 (fun F H locs hT v39739 h1v39739 h2v39739 => ?_)
        have qz39721 := (h2v39739 _ _).trans qz39721
        have hv39731 := (h2v39739 _ _).trans hv39731
        have hv39734 := (h2v39739 _ _).trans hv39734
        have hv39737 := (h2v39739 _ _).trans hv39737
        have hfr : (∀ b j : Nat, (tag b ≠ 22 ∨ j ≠ 2) → fld F b j = fld Fo b j) ∧ EF tag F Fo := ⟨fun b j n22_2 => (h2v39739 b j).trans (hfr.1 b j n22_2), fun b j hb => (h1v39739 b j (Or.inl (ns_ne hb gb39738 (by decide)))).trans (hfr.2 b j hb)⟩
        obtain ⟨z39740, ez39740⟩ : ∃ y : Int32, y = z39720 + 1 := ⟨_, rfl⟩
        have hz39740 : z39740.toInt = z39720.toInt + 1 := ar_add ez39740 rfl (by decide : (1 : Int32).toInt = 1) (by omega) (by omega)
        refine lv_iinc (v := z39740) (lv' := [(3, .int z39740), (0, .ref p0), (1, .ref p1), (2, .int p2)]) hx hb dX9_lookAtAll_36 hl (k := 3) rfl (by rw [ez39740]; rfl) (by decide) rfl (fun ls hl => ?_)
        refine lv_goto (tgt := 7) hx hb dX9_lookAtAll_39 (by decide) ?_
        exact ih7 z39740 z39721 _ _ _ _ (by omega) (by omega) (by omega) hT hfr qz39721 (lv_sub hl [1, 2, 3, 0] rfl)
  refine lv_aload_n hx hb dX9_lookAtAll_0 rfl (lv_at hl 0 rfl) ?_
  refine lv_iconst (v := 0) hx hb dX9_lookAtAll_1 (by decide) ?_
  refine t_put (C := RX9) (T := TX9) (N := 6) (v := .int 0) X hT m0 g0 rfl tyX9 tyX9_ok nmX9 rfl 2 (by decide) qw_1337 inlX9 rfl (by first | rfl | decide) (by first | rfl | decide) rfl (⟨_, rfl, (show (-2147483648) ≤ (0 : Int32).toInt from (by decide)), (show (0 : Int32).toInt ≤ 2147483647 from (by decide))⟩) dX9_lookAtAll_2 (fun F H locs hT v39741 h1v39741 h2v39741 => ?_)
  have hfr : (∀ b j : Nat, (tag b ≠ 22 ∨ j ≠ 2) → fld F b j = fld Fo b j) ∧ EF tag F Fo := ⟨fun b j n22_2 => (h1v39741 b j (fr_ne g0 n22_2)).trans (hfr.1 b j n22_2), fun b j hb => (h2v39741 b j).trans (hfr.2 b j hb)⟩
  refine lv_iconst (v := 0) hx hb dX9_lookAtAll_5 (by decide) ?_
  refine lv_istore_n (lv' := [(3, .int 0), (0, .ref p0), (1, .ref p1), (2, .int p2)]) hx hb dX9_lookAtAll_6 rfl hl (by decide) rfl (fun ls hl => ?_)
  have kk39742 : (0 : Int32).toInt = 0 := by decide
  exact K7 7 0 0 _ _ _ _ (by omega) (by decide) (by decide) hT hfr v39741 (lv_sub hl [1, 2, 3, 0] rfl)
