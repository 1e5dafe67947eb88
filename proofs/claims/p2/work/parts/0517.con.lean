set_option maxHeartbeats 4000000 in
set_option maxRecDepth 100000 in
theorem kt129_X11_take (l : Launch) (G : KG) (tag : Nat → Nat) (L : List Nat) (Fo : Nat → va_E) (ho : okT G ttC tag L Fo) (p0 : Nat) (p1 : Int32) (m0 : p0 ∈ L) (g0 : tag p0 = 26) : TMi l yX11_take cX11_take 4 (some .int) { frames := 3, cells := 0, slots := 0, locals := 68 } G ttC tag L Fo [.ref p0, .int p1] (fun r F1 => ((-2147483648) ≤ r.toInt ∧ r.toInt ≤ 2147483647) ∧ (∀ b j : Nat, (tag b ≠ 19 ∨ j ≠ 0) → (tag b ≠ 19 ∨ j ≠ 1) → (tag b ≠ 23 ∨ j ≠ 2) → (tag b ≠ 23 ∨ j ≠ 3) → (tag b ≠ 26 ∨ j ≠ 13) → fld F1 b j = fld Fo b j)) := by
  refine t_bodyi (y := yX11_take) (cd := cX11_take) (mL := 4) (rt := (some .int)) (rm := { frames := 3, cells := 0, slots := 0, locals := 68 }) (av := [.ref p0, .int p1]) (by decide) (Nat.le_of_ble_eq_true rfl) ho ?_
  intro p e s m args below meth c ls A Q hQ X hT hl
  have hx := X.1.1
  have hb := X.1.2.1
  have hl : lv_has ls 4 [(0, .ref p0), (1, .int p1)] := hl
  have rp1 := rg_all p1
  obtain ⟨F, hFo⟩ : ∃ F : Nat → va_E, F = Fo := ⟨_, rfl⟩
  rw [← hFo] at hT
  have hfr : ∀ b j : Nat, (tag b ≠ 19 ∨ j ≠ 0) → (tag b ≠ 19 ∨ j ≠ 1) → (tag b ≠ 23 ∨ j ≠ 2) → (tag b ≠ 23 ∨ j ≠ 3) → (tag b ≠ 26 ∨ j ≠ 13) → fld F b j = fld Fo b j := by
    rw [hFo]
    intros
    rfl
  refine lv_aload_n hx hb dX11_take_0 rfl (lv_at hl 0 rfl) ?_
  refine lv_iload_n hx hb dX11_take_1 rfl (lv_at hl 1 rfl) ?_
  refine t_cVi (n := 1) (C := RX11) (T := TX11) (N := 16) (As := [.int p1]) (rest := []) X hT (kt61_X11_isHouse l G tag L F hT.2.2.2 p0 p1 m0 g0) m0 g0 rfl rfl qw_770 qw_771 qw_772 qw_2 qw_773 ⟨rfl, by decide +kernel, by decide +kernel, by decide +kernel⟩ ⟨Nat.le_of_ble_eq_true rfl, Nat.le_of_ble_eq_true rfl⟩ hl rfl rfl (Nat.le_of_ble_eq_true rfl) dX11_take_2 ⟨Nat.le_of_ble_eq_true rfl, Nat.le_of_ble_eq_true rfl⟩ (fun z49285 F9 H locs hT hz49285 => ?_)
  obtain ⟨fz49285, hz49285⟩ := hz49285
  rw [fz49285] at hT
  obtain ⟨hz49285, iz49285⟩ := hz49285
  refine lv_if_ne (tgt := 14) hx hb dX11_take_5 (by decide) (fun c49286 => ?_) (fun c49286 => ?_)
  · have w49287 := cv_ne (rfl : z49285.toInt = z49285.toInt) (by decide : (0 : Int32).toInt = 0) c49286
    have w49288 := (fun h => (iz49285 h)) (by omega)
    refine lv_aload_n hx hb dX11_take_14 rfl (lv_at hl 0 rfl) ?_
    refine t_get (C := RX11) (T := TX11) (N := 16) X hT m0 g0 rfl rfl 5 (by decide) qw_23 inlX11 rfl dX11_take_15 (fun v49289 hv49289 ov49289 => ?_)
    obtain ⟨b49290, rfl, mb49290, gb49290⟩ := okV_r ov49289
    have gb49290 : tag b49290 = 19 := tg_of gb49290
    refine lv_iload_n hx hb dX11_take_18 rfl (lv_at hl 1 rfl) ?_
    refine t_cVi (n := 1) (C := RX7) (T := TX7) (N := 7) (As := [.int p1]) (rest := []) X hT (kt21_X7_inmost l G tag L F hT.2.2.2 b49290 p1 mb49290 gb49290 (by omega)) mb49290 gb49290 rfl rfl qw_1292 qw_1293 qw_1294 qw_22 qw_1295 ⟨rfl, by decide +kernel, by decide +kernel, by decide +kernel⟩ ⟨Nat.le_of_ble_eq_true rfl, Nat.le_of_ble_eq_true rfl⟩ hl rfl rfl (Nat.le_of_ble_eq_true rfl) dX11_take_19 ⟨Nat.le_of_ble_eq_true rfl, Nat.le_of_ble_eq_true rfl⟩ (fun z49291 F9 H locs hT hz49291 => ?_)
    obtain ⟨fz49291, hz49291⟩ := hz49291
    rw [fz49291] at hT
    refine lv_istore_n (lv' := [(2, .int z49291), (0, .ref p0), (1, .int p1)]) hx hb dX11_take_22 rfl hl (by decide) rfl (fun ls hl => ?_)
    refine lv_iload_n hx hb dX11_take_23 rfl (lv_at hl 0 rfl) ?_
    refine lv_if_ne (tgt := 34) hx hb dX11_take_24 (by decide) (fun c49292 => ?_) (fun c49292 => ?_)
    · have w49293 := cv_ne (rfl : z49291.toInt = z49291.toInt) (by decide : (0 : Int32).toInt = 0) c49292
      refine lv_aload_n hx hb dX11_take_34 rfl (lv_at hl 1 rfl) ?_
      refine lv_iload_n hx hb dX11_take_35 rfl (lv_at hl 2 rfl) ?_
      refine lv_iload_n hx hb dX11_take_36 rfl (lv_at hl 0 rfl) ?_
      refine t_cVi (n := 2) (C := RX11) (T := TX11) (N := 16) (As := [.int p1, .int z49291]) (rest := []) X hT (kt76_X11_isLivedIn l G tag L F hT.2.2.2 p0 p1 z49291 m0 g0) m0 g0 rfl rfl qw_1316 qw_1317 qw_1318 qw_2 qw_1319 ⟨rfl, by decide +kernel, by decide +kernel, by decide +kernel⟩ ⟨Nat.le_of_ble_eq_true rfl, Nat.le_of_ble_eq_true rfl⟩ hl rfl rfl (Nat.le_of_ble_eq_true rfl) dX11_take_37 ⟨Nat.le_of_ble_eq_true rfl, Nat.le_of_ble_eq_true rfl⟩ (fun z49294 F9 H locs hT hz49294 => ?_)
      obtain ⟨fz49294, hz49294⟩ := hz49294
      rw [fz49294] at hT
      refine lv_if_eq (tgt := 49) hx hb dX11_take_40 (by decide) (fun c49295 => ?_) (fun c49295 => ?_)
      · have w49296 := cv_eq (rfl : z49294.toInt = z49294.toInt) (by decide : (0 : Int32).toInt = 0) c49295
        refine lv_aload_n hx hb dX11_take_49 rfl (lv_at hl 1 rfl) ?_
        refine t_get (C := RX11) (T := TX11) (N := 16) X hT m0 g0 rfl rfl 12 (by decide) qw_45 inlX11 rfl dX11_take_50 (fun v49297 hv49297 ov49297 => ?_)
        obtain ⟨b49298, rfl, mb49298, gb49298⟩ := okV_r ov49297
        have gb49298 : tag b49298 = 23 := tg_of gb49298
        refine lv_aload_n hx hb dX11_take_53 rfl (lv_at hl 1 rfl) ?_
        refine t_get (C := RX11) (T := TX11) (N := 16) X hT m0 g0 rfl rfl 5 (by decide) qw_23 inlX11 rfl dX11_take_54 (fun v49299 hv49299 ov49299 => ?_)
        obtain rfl : v49299 = .ref b49290 := hv49299.symm.trans hv49289
        refine t_cVv (n := 1) (C := RX2) (T := TX2) (N := 5) (As := [.ref b49290]) (rest := []) X hT (kt66_X2_keep l G tag L F hT.2.2.2 b49298 b49290 mb49298 gb49298 mb49290 gb49290) mb49298 gb49298 rfl rfl qw_1427 qw_1428 qw_1429 qw_44 qw_1430 ⟨rfl, by decide +kernel, by decide +kernel, by decide +kernel⟩ ⟨Nat.le_of_ble_eq_true rfl, Nat.le_of_ble_eq_true rfl⟩ hl rfl rfl (Nat.le_of_ble_eq_true rfl) dX11_take_57 ⟨Nat.le_of_ble_eq_true rfl, Nat.le_of_ble_eq_true rfl⟩ (fun F H locs hT hz49300 => ?_)
        have yz49300 := hz49300
        have hv49289 := (yz49300 _ 5 (Or.inr (by decide)) (Or.inr (by decide)) (Or.inr (by decide)) (Or.inr (by decide))).trans hv49289
        have hv49297 := (yz49300 _ 12 (Or.inr (by decide)) (Or.inr (by decide)) (Or.inr (by decide)) (Or.inr (by decide))).trans hv49297
        have hfr : ∀ b j : Nat, (tag b ≠ 19 ∨ j ≠ 0) → (tag b ≠ 19 ∨ j ≠ 1) → (tag b ≠ 23 ∨ j ≠ 2) → (tag b ≠ 23 ∨ j ≠ 3) → (tag b ≠ 26 ∨ j ≠ 13) → fld F b j = fld Fo b j := fun b j n19_0 n19_1 n23_2 n23_3 n26_13 => (yz49300 b j n19_0 n19_1 n23_2 n23_3).trans (hfr b j n19_0 n19_1 n23_2 n23_3 n26_13)
        refine lv_aload_n hx hb dX11_take_60 rfl (lv_at hl 1 rfl) ?_
        refine lv_iload_n hx hb dX11_take_61 rfl (lv_at hl 2 rfl) ?_
        refine lv_iload_n hx hb dX11_take_62 rfl (lv_at hl 0 rfl) ?_
        refine t_cVi (n := 2) (C := RX11) (T := TX11) (N := 16) (As := [.int p1, .int z49291]) (rest := []) X hT (kt84_X11_goldIn l G tag L F hT.2.2.2 p0 p1 z49291 m0 g0) m0 g0 rfl rfl qw_1296 qw_1297 qw_1298 qw_2 qw_1299 ⟨rfl, by decide +kernel, by decide +kernel, by decide +kernel⟩ ⟨Nat.le_of_ble_eq_true rfl, Nat.le_of_ble_eq_true rfl⟩ hl rfl rfl (Nat.le_of_ble_eq_true rfl) dX11_take_63 ⟨Nat.le_of_ble_eq_true rfl, Nat.le_of_ble_eq_true rfl⟩ (fun z49301 F9 H locs hT hz49301 => ?_)
        obtain ⟨fz49301, hz49301⟩ := hz49301
        rw [fz49301] at hT
        refine lv_istore_n (lv' := [(3, .int z49301), (2, .int z49291), (0, .ref p0), (1, .int p1)]) hx hb dX11_take_66 rfl hl (by decide) rfl (fun ls hl => ?_)
        refine lv_aload_n hx hb dX11_take_67 rfl (lv_at hl 2 rfl) ?_
        refine t_get (C := RX11) (T := TX11) (N := 16) X hT m0 g0 rfl rfl 5 (by decide) qw_23 inlX11 rfl dX11_take_68 (fun v49302 hv49302 ov49302 => ?_)
        obtain rfl : v49302 = .ref b49290 := hv49302.symm.trans hv49289
        refine t_get (C := RX7) (T := TX7) (N := 7) X hT mb49290 gb49290 rfl rfl 4 (by decide) qw_768 inlX7 rfl dX11_take_71 (fun v49303 hv49303 ov49303 => ?_)
        obtain ⟨b49304, rfl, mb49304, gb49304⟩ := okV_r ov49303
        have gb49304 : tag b49304 = 5 := tg_of gb49304
        refine lv_iload_n hx hb dX11_take_74 rfl (lv_at hl 3 rfl) ?_
        refine lv_sipush (v := 999) hx hb dX11_take_75 (by decide) ?_
        refine lv_aload_n hx hb dX11_take_78 rfl (lv_at hl 2 rfl) ?_
        refine t_get (C := RX11) (T := TX11) (N := 16) X hT m0 g0 rfl rfl 5 (by decide) qw_23 inlX11 rfl dX11_take_79 (fun v49305 hv49305 ov49305 => ?_)
        obtain rfl : v49305 = .ref b49290 := hv49305.symm.trans hv49289
        refine t_get (C := RX7) (T := TX7) (N := 7) X hT mb49290 gb49290 rfl rfl 4 (by decide) qw_768 inlX7 rfl dX11_take_82 (fun v49306 hv49306 ov49306 => ?_)
        obtain rfl : v49306 = .ref b49304 := hv49306.symm.trans hv49303
        refine lv_iload_n hx hb dX11_take_85 rfl (lv_at hl 3 rfl) ?_
        refine t_ild X hT mb49304 gb49304 rfl (by omega) dX11_take_86 (fun z49307 vz49307 rz49307 => ?_)
        have rz49307 : (-2147483648) ≤ z49307.toInt ∧ z49307.toInt ≤ 2147483647 := rz49307
        refine lv_iload_n hx hb dX11_take_87 rfl (lv_at hl 0 rfl) ?_
        refine lv_iadd hx hb dX11_take_88 ?_
        refine lv_topi (fun z49308 ez49308 => ?_)
        have rz49308 := rg_all z49308
        refine t_mmin X hl qw_1480 qw_1018 qw_850 qw_1019 (Nat.le_of_ble_eq_true rfl) (Nat.le_of_ble_eq_true rfl) (Nat.le_of_ble_eq_true rfl) (Nat.le_of_ble_eq_true rfl) dX11_take_89 (fun z49309 ez49309 => ?_)
        have hz49309 := mmin_e ez49309 (by decide : (999 : Int32).toInt = 999) (rfl : z49308.toInt = z49308.toInt)
        refine t_ist X hT mb49304 gb49304 rfl (by omega) (show (-2147483648) ≤ (z49309 : Int32).toInt ∧ (z49309 : Int32).toInt ≤ 2147483647 from (by omega)) dX11_take_92 (fun F H locs hT v49310 h1v49310 h2v49310 => ?_)
        have hv49289 := (h2v49310 _ _).trans hv49289
        have hv49297 := (h2v49310 _ _).trans hv49297
        have hv49303 := (h2v49310 _ _).trans hv49303
        have hfr : ∀ b j : Nat, (tag b ≠ 19 ∨ j ≠ 0) → (tag b ≠ 19 ∨ j ≠ 1) → (tag b ≠ 23 ∨ j ≠ 2) → (tag b ≠ 23 ∨ j ≠ 3) → (tag b ≠ 26 ∨ j ≠ 13) → fld F b j = fld Fo b j := fun b j n19_0 n19_1 n23_2 n23_3 n26_13 => (h2v49310 b j).trans (hfr b j n19_0 n19_1 n23_2 n23_3 n26_13)
        refine lv_aload_n hx hb dX11_take_93 rfl (lv_at hl 2 rfl) ?_
        refine t_get (C := RX11) (T := TX11) (N := 16) X hT m0 g0 rfl rfl 5 (by decide) qw_23 inlX11 rfl dX11_take_94 (fun v49311 hv49311 ov49311 => ?_)
        obtain rfl : v49311 = .ref b49290 := hv49311.symm.trans hv49289
        refine lv_iload_n hx hb dX11_take_97 rfl (lv_at hl 3 rfl) ?_
        refine lv_iload_n hx hb dX11_take_98 rfl (lv_at hl 1 rfl) ?_
        refine lv_iconst (v := 5) hx hb dX11_take_99 (by decide) ?_
        refine lv_iconst (v := 1) hx hb dX11_take_100 (by decide) ?_
        refine t_cVv (n := 4) (C := RX7) (T := TX7) (N := 7) (As := [.int p1, .int z49291, .int 5, .int 1]) (rest := []) X hT (kt16_X7_setPart l G tag L F hT.2.2.2 b49290 p1 z49291 5 1 mb49290 gb49290) mb49290 gb49290 rfl rfl qw_1459 qw_423 qw_424 qw_22 qw_425 ⟨rfl, by decide +kernel, by decide +kernel, by decide +kernel⟩ ⟨Nat.le_of_ble_eq_true rfl, Nat.le_of_ble_eq_true rfl⟩ hl rfl rfl (Nat.le_of_ble_eq_true rfl) dX11_take_101 ⟨Nat.le_of_ble_eq_true rfl, Nat.le_of_ble_eq_true rfl⟩ (fun F H locs hT hz49312 => ?_)
        have yz49312 := hz49312
        have hv49289 := (yz49312 _ 5 ).trans hv49289
        have hv49297 := (yz49312 _ 12 ).trans hv49297
        have hv49303 := (yz49312 _ 4 ).trans hv49303
        have hfr : ∀ b j : Nat, (tag b ≠ 19 ∨ j ≠ 0) → (tag b ≠ 19 ∨ j ≠ 1) → (tag b ≠ 23 ∨ j ≠ 2) → (tag b ≠ 23 ∨ j ≠ 3) → (tag b ≠ 26 ∨ j ≠ 13) → fld F b j = fld Fo b j := fun b j n19_0 n19_1 n23_2 n23_3 n26_13 => (yz49312 b j ).trans (hfr b j n19_0 n19_1 n23_2 n23_3 n26_13)
        refine lv_aload_n hx hb dX11_take_104 rfl (lv_at hl 2 rfl) ?_
        refine t_get (C := RX11) (T := TX11) (N := 16) X hT m0 g0 rfl rfl 5 (by decide) qw_23 inlX11 rfl dX11_take_105 (fun v49313 hv49313 ov49313 => ?_)
        obtain rfl : v49313 = .ref b49290 := hv49313.symm.trans hv49289
        refine lv_iload_n hx hb dX11_take_108 rfl (lv_at hl 3 rfl) ?_
        refine lv_iload_n hx hb dX11_take_109 rfl (lv_at hl 1 rfl) ?_
        refine lv_bipush (v := 6) hx hb dX11_take_110 (by decide) ?_
        refine lv_iconst (v := 0) hx hb dX11_take_112 (by decide) ?_
        refine t_cVv (n := 4) (C := RX7) (T := TX7) (N := 7) (As := [.int p1, .int z49291, .int 6, .int 0]) (rest := []) X hT (kt16_X7_setPart l G tag L F hT.2.2.2 b49290 p1 z49291 6 0 mb49290 gb49290) mb49290 gb49290 rfl rfl qw_1459 qw_423 qw_424 qw_22 qw_425 ⟨rfl, by decide +kernel, by decide +kernel, by decide +kernel⟩ ⟨Nat.le_of_ble_eq_true rfl, Nat.le_of_ble_eq_true rfl⟩ hl rfl rfl (Nat.le_of_ble_eq_true rfl) dX11_take_113 ⟨Nat.le_of_ble_eq_true rfl, Nat.le_of_ble_eq_true rfl⟩ (fun F H locs hT hz49314 => ?_)
        have yz49314 := hz49314
        have hv49289 := (yz49314 _ 5 ).trans hv49289
        have hv49297 := (yz49314 _ 12 ).trans hv49297
        have hv49303 := (yz49314 _ 4 ).trans hv49303
        have hfr : ∀ b j : Nat, (tag b ≠ 19 ∨ j ≠ 0) → (tag b ≠ 19 ∨ j ≠ 1) → (tag b ≠ 23 ∨ j ≠ 2) → (tag b ≠ 23 ∨ j ≠ 3) → (tag b ≠ 26 ∨ j ≠ 13) → fld F b j = fld Fo b j := fun b j n19_0 n19_1 n23_2 n23_3 n26_13 => (yz49314 b j ).trans (hfr b j n19_0 n19_1 n23_2 n23_3 n26_13)
        refine lv_aload_n hx hb dX11_take_116 rfl (lv_at hl 2 rfl) ?_
        refine lv_iload_n hx hb dX11_take_117 rfl (lv_at hl 0 rfl) ?_
        refine t_cVi (n := 1) (C := RX11) (T := TX11) (N := 16) (As := [.int z49301]) (rest := []) X hT (kt56_X11_answer l G tag L F hT.2.2.2 p0 z49301 m0 g0) m0 g0 rfl rfl qw_463 qw_464 qw_465 qw_2 qw_466 ⟨rfl, by decide +kernel, by decide +kernel, by decide +kernel⟩ ⟨Nat.le_of_ble_eq_true rfl, Nat.le_of_ble_eq_true rfl⟩ hl rfl rfl (Nat.le_of_ble_eq_true rfl) dX11_take_118 ⟨Nat.le_of_ble_eq_true rfl, Nat.le_of_ble_eq_true rfl⟩ (fun z49315 F H locs hT hz49315 => ?_)
        obtain ⟨hz49315, yz49315⟩ := hz49315
        have hv49289 := (yz49315 _ 5 (Or.inr (by decide))).trans hv49289
        have hv49297 := (yz49315 _ 12 (Or.inr (by decide))).trans hv49297
        have hv49303 := (yz49315 _ 4 (Or.inr (by decide))).trans hv49303
        have hfr : ∀ b j : Nat, (tag b ≠ 19 ∨ j ≠ 0) → (tag b ≠ 19 ∨ j ≠ 1) → (tag b ≠ 23 ∨ j ≠ 2) → (tag b ≠ 23 ∨ j ≠ 3) → (tag b ≠ 26 ∨ j ≠ 13) → fld F b j = fld Fo b j := fun b j n19_0 n19_1 n23_2 n23_3 n26_13 => (yz49315 b j n26_13).trans (hfr b j n19_0 n19_1 n23_2 n23_3 n26_13)
        exact t_iret hQ X hT (⟨rg_all _, hfr⟩) (Nat.le_of_ble_eq_true rfl) (Nat.le_of_ble_eq_true rfl) dX11_take_121
      · have w49316 := cv_ne (rfl : z49294.toInt = z49294.toInt) (by decide : (0 : Int32).toInt = 0) c49295
        refine lv_aload_n hx hb dX11_take_43 rfl (lv_at hl 1 rfl) ?_
        refine lv_iconst (v := 5) hx hb dX11_take_44 (by decide) ?_
        refine t_cVi (n := 1) (C := RX11) (T := TX11) (N := 16) (As := [.int 5]) (rest := []) X hT (kt63_X11_refuse l G tag L F hT.2.2.2 p0 5 m0 g0) m0 g0 rfl rfl qw_152 qw_153 qw_154 qw_2 qw_155 ⟨rfl, by decide +kernel, by decide +kernel, by decide +kernel⟩ ⟨Nat.le_of_ble_eq_true rfl, Nat.le_of_ble_eq_true rfl⟩ hl rfl rfl (Nat.le_of_ble_eq_true rfl) dX11_take_45 ⟨Nat.le_of_ble_eq_true rfl, Nat.le_of_ble_eq_true rfl⟩ (fun z49317 F H locs hT hz49317 => ?_)
        obtain ⟨hz49317, yz49317⟩ := hz49317
        have hv49289 := (yz49317 _ 5 (Or.inr (by decide))).trans hv49289
        have hfr : ∀ b j : Nat, (tag b ≠ 19 ∨ j ≠ 0) → (tag b ≠ 19 ∨ j ≠ 1) → (tag b ≠ 23 ∨ j ≠ 2) → (tag b ≠ 23 ∨ j ≠ 3) → (tag b ≠ 26 ∨ j ≠ 13) → fld F b j = fld Fo b j := fun b j n19_0 n19_1 n23_2 n23_3 n26_13 => (yz49317 b j n26_13).trans (hfr b j n19_0 n19_1 n23_2 n23_3 n26_13)
        exact t_iret hQ X hT (⟨rg_all _, hfr⟩) (Nat.le_of_ble_eq_true rfl) (Nat.le_of_ble_eq_true rfl) dX11_take_48
    · have w49318 := cv_eq (rfl : z49291.toInt = z49291.toInt) (by decide : (0 : Int32).toInt = 0) c49292
      refine lv_aload_n hx hb dX11_take_27 rfl (lv_at hl 1 rfl) ?_
      refine lv_bipush (v := 6) hx hb dX11_take_28 (by decide) ?_
      refine t_cVi (n := 1) (C := RX11) (T := TX11) (N := 16) (As := [.int 6]) (rest := []) X hT (kt63_X11_refuse l G tag L F hT.2.2.2 p0 6 m0 g0) m0 g0 rfl rfl qw_152 qw_153 qw_154 qw_2 qw_155 ⟨rfl, by decide +kernel, by decide +kernel, by decide +kernel⟩ ⟨Nat.le_of_ble_eq_true rfl, Nat.le_of_ble_eq_true rfl⟩ hl rfl rfl (Nat.le_of_ble_eq_true rfl) dX11_take_30 ⟨Nat.le_of_ble_eq_true rfl, Nat.le_of_ble_eq_true rfl⟩ (fun z49319 F H locs hT hz49319 => ?_)
      obtain ⟨hz49319, yz49319⟩ := hz49319
      have hv49289 := (yz49319 _ 5 (Or.inr (by decide))).trans hv49289
      have hfr : ∀ b j : Nat, (tag b ≠ 19 ∨ j ≠ 0) → (tag b ≠ 19 ∨ j ≠ 1) → (tag b ≠ 23 ∨ j ≠ 2) → (tag b ≠ 23 ∨ j ≠ 3) → (tag b ≠ 26 ∨ j ≠ 13) → fld F b j = fld Fo b j := fun b j n19_0 n19_1 n23_2 n23_3 n26_13 => (yz49319 b j n26_13).trans (hfr b j n19_0 n19_1 n23_2 n23_3 n26_13)
      exact t_iret hQ X hT (⟨rg_all _, hfr⟩) (Nat.le_of_ble_eq_true rfl) (Nat.le_of_ble_eq_true rfl) dX11_take_33
  · have w49320 := cv_eq (rfl : z49285.toInt = z49285.toInt) (by decide : (0 : Int32).toInt = 0) c49286
    refine lv_aload_n hx hb dX11_take_8 rfl (lv_at hl 0 rfl) ?_
    refine lv_iconst (v := 1) hx hb dX11_take_9 (by decide) ?_
    refine t_cVi (n := 1) (C := RX11) (T := TX11) (N := 16) (As := [.int 1]) (rest := []) X hT (kt63_X11_refuse l G tag L F hT.2.2.2 p0 1 m0 g0) m0 g0 rfl rfl qw_152 qw_153 qw_154 qw_2 qw_155 ⟨rfl, by decide +kernel, by decide +kernel, by decide +kernel⟩ ⟨Nat.le_of_ble_eq_true rfl, Nat.le_of_ble_eq_true rfl⟩ hl rfl rfl (Nat.le_of_ble_eq_true rfl) dX11_take_10 ⟨Nat.le_of_ble_eq_true rfl, Nat.le_of_ble_eq_true rfl⟩ (fun z49321 F H locs hT hz49321 => ?_)
    obtain ⟨hz49321, yz49321⟩ := hz49321
    have hfr : ∀ b j : Nat, (tag b ≠ 19 ∨ j ≠ 0) → (tag b ≠ 19 ∨ j ≠ 1) → (tag b ≠ 23 ∨ j ≠ 2) → (tag b ≠ 23 ∨ j ≠ 3) → (tag b ≠ 26 ∨ j ≠ 13) → fld F b j = fld Fo b j := fun b j n19_0 n19_1 n23_2 n23_3 n26_13 => (yz49321 b j n26_13).trans (hfr b j n19_0 n19_1 n23_2 n23_3 n26_13)
    exact t_iret hQ X hT (⟨rg_all _, hfr⟩) (Nat.le_of_ble_eq_true rfl) (Nat.le_of_ble_eq_true rfl) dX11_take_13
set_option maxHeartbeats 4000000 in
set_option maxRecDepth 100000 in
theorem kt130_X11_takes (l : Launch) (G : KG) (tag : Nat → Nat) (L : List Nat) (Fo : Nat → va_E) (ho : okT G ttC tag L Fo) (p0 : Nat) (p1 : Int32) (m0 : p0 ∈ L) (g0 : tag p0 = 26) : TMi l yX11_takes cX11_takes 3 (some .int) { frames := 3, cells := 0, slots := 0, locals := 68 } G ttC tag L Fo [.ref p0, .int p1] (fun r F1 => ((-2147483648) ≤ r.toInt ∧ r.toInt ≤ 2147483647) ∧ (∀ b j : Nat, (tag b ≠ 26 ∨ j ≠ 13) → fld F1 b j = fld Fo b j)) := by
  refine t_bodyi (y := yX11_takes) (cd := cX11_takes) (mL := 3) (rt := (some .int)) (rm := { frames := 3, cells := 0, slots := 0, locals := 68 }) (av := [.ref p0, .int p1]) (by decide) (Nat.le_of_ble_eq_true rfl) ho ?_
  intro p e s m args below meth c ls A Q hQ X hT hl
  have hx := X.1.1
  have hb := X.1.2.1
  have hl : lv_has ls 3 [(0, .ref p0), (1, .int p1)] := hl
  have rp1 := rg_all p1
  obtain ⟨F, hFo⟩ : ∃ F : Nat → va_E, F = Fo := ⟨_, rfl⟩
  rw [← hFo] at hT
  have hfr : ∀ b j : Nat, (tag b ≠ 26 ∨ j ≠ 13) → fld F b j = fld Fo b j := by
    rw [hFo]
    intros
    rfl
  have K39 : ∀ (z49499 : Int32) (z49500 : Int32) (b49501 : Nat) (F : Nat → va_E) (H : Heap) (locs : List Loc) (ls : Array Slot), (0 ≤ z49499.toInt ∧ z49499.toInt ≤ 6) → (b49501 ∈ L) → (tag b49501 = 26) → (0 ≤ p1.toInt ∧ p1.toInt ≤ 3) → TH G ttC A s tag L F H locs → (∀ b j : Nat, (tag b ≠ 26 ∨ j ≠ 13) → fld F b j = fld Fo b j) → lv_has ls 3 [(0, .ref p0), (1, .int p1), (2, .int z49499)] → W p l e { frames := 3, cells := 0, slots := 0, locals := 68 } s m args below meth c H locs 0 0 Q (F0 m 39 ls [.int z49500, .ref b49501]) := by
    intro z49499 z49500 b49501 F H locs ls rz49499 mb49501 gb49501 r9s49498 hT hfr hl
    have rz49500 := rg_all z49500
    refine t_cVi (n := 1) (C := RX11) (T := TX11) (N := 16) (As := [.int z49500]) (rest := []) X hT (kt56_X11_answer l G tag L F hT.2.2.2 b49501 z49500 mb49501 gb49501) mb49501 gb49501 rfl rfl qw_463 qw_464 qw_465 qw_2 qw_466 ⟨rfl, by decide +kernel, by decide +kernel, by decide +kernel⟩ ⟨Nat.le_of_ble_eq_true rfl, Nat.le_of_ble_eq_true rfl⟩ hl rfl rfl (Nat.le_of_ble_eq_true rfl) dX11_takes_39 ⟨Nat.le_of_ble_eq_true rfl, Nat.le_of_ble_eq_true rfl⟩ (fun z49502 F H locs hT hz49502 => ?_)
    obtain ⟨hz49502, yz49502⟩ := hz49502
    have hfr : ∀ b j : Nat, (tag b ≠ 26 ∨ j ≠ 13) → fld F b j = fld Fo b j := fun b j n26_13 => (yz49502 b j n26_13).trans (hfr b j n26_13)
    exact t_iret hQ X hT (⟨rg_all _, hfr⟩) (Nat.le_of_ble_eq_true rfl) (Nat.le_of_ble_eq_true rfl) dX11_takes_42
  refine lv_aload_n hx hb dX11_takes_0 rfl (lv_at hl 0 rfl) ?_
  refine lv_iload_n hx hb dX11_takes_1 rfl (lv_at hl 1 rfl) ?_
  refine t_cVi (n := 1) (C := RX11) (T := TX11) (N := 16) (As := [.int p1]) (rest := []) X hT (kt61_X11_isHouse l G tag L F hT.2.2.2 p0 p1 m0 g0) m0 g0 rfl rfl qw_770 qw_771 qw_772 qw_2 qw_773 ⟨rfl, by decide +kernel, by decide +kernel, by decide +kernel⟩ ⟨Nat.le_of_ble_eq_true rfl, Nat.le_of_ble_eq_true rfl⟩ hl rfl rfl (Nat.le_of_ble_eq_true rfl) dX11_takes_2 ⟨Nat.le_of_ble_eq_true rfl, Nat.le_of_ble_eq_true rfl⟩ (fun z49503 F9 H locs hT hz49503 => ?_)
  obtain ⟨fz49503, hz49503⟩ := hz49503
  rw [fz49503] at hT
  obtain ⟨hz49503, iz49503⟩ := hz49503
  refine lv_if_ne (tgt := 14) hx hb dX11_takes_5 (by decide) (fun c49504 => ?_) (fun c49504 => ?_)
  · have w49505 := cv_ne (rfl : z49503.toInt = z49503.toInt) (by decide : (0 : Int32).toInt = 0) c49504
    have w49506 := (fun h => (iz49503 h)) (by omega)
    refine lv_aload_n hx hb dX11_takes_14 rfl (lv_at hl 0 rfl) ?_
    refine t_get (C := RX11) (T := TX11) (N := 16) X hT m0 g0 rfl rfl 5 (by decide) qw_23 inlX11 rfl dX11_takes_15 (fun v49507 hv49507 ov49507 => ?_)
    obtain ⟨b49508, rfl, mb49508, gb49508⟩ := okV_r ov49507
    have gb49508 : tag b49508 = 19 := tg_of gb49508
    refine lv_iload_n hx hb dX11_takes_18 rfl (lv_at hl 1 rfl) ?_
    refine t_cVi (n := 1) (C := RX7) (T := TX7) (N := 7) (As := [.int p1]) (rest := []) X hT (kt21_X7_inmost l G tag L F hT.2.2.2 b49508 p1 mb49508 gb49508 (by omega)) mb49508 gb49508 rfl rfl qw_1292 qw_1293 qw_1294 qw_22 qw_1295 ⟨rfl, by decide +kernel, by decide +kernel, by decide +kernel⟩ ⟨Nat.le_of_ble_eq_true rfl, Nat.le_of_ble_eq_true rfl⟩ hl rfl rfl (Nat.le_of_ble_eq_true rfl) dX11_takes_19 ⟨Nat.le_of_ble_eq_true rfl, Nat.le_of_ble_eq_true rfl⟩ (fun z49509 F9 H locs hT hz49509 => ?_)
    obtain ⟨fz49509, hz49509⟩ := hz49509
    rw [fz49509] at hT
    refine lv_istore_n (lv' := [(2, .int z49509), (0, .ref p0), (1, .int p1)]) hx hb dX11_takes_22 rfl hl (by decide) rfl (fun ls hl => ?_)
    refine lv_aload_n hx hb dX11_takes_23 rfl (lv_at hl 1 rfl) ?_
    refine lv_iload_n hx hb dX11_takes_24 rfl (lv_at hl 0 rfl) ?_
    refine lv_if_ne (tgt := 33) hx hb dX11_takes_25 (by decide) (fun c49510 => ?_) (fun c49510 => ?_)
    · have w49511 := cv_ne (rfl : z49509.toInt = z49509.toInt) (by decide : (0 : Int32).toInt = 0) c49510
      refine lv_aload_n hx hb dX11_takes_33 rfl (lv_at hl 1 rfl) ?_
      refine lv_iload_n hx hb dX11_takes_34 rfl (lv_at hl 2 rfl) ?_
      refine lv_iload_n hx hb dX11_takes_35 rfl (lv_at hl 0 rfl) ?_
      refine t_cVi (n := 2) (C := RX11) (T := TX11) (N := 16) (As := [.int p1, .int z49509]) (rest := [.ref p0]) X hT (kt84_X11_goldIn l G tag L F hT.2.2.2 p0 p1 z49509 m0 g0) m0 g0 rfl rfl qw_1296 qw_1297 qw_1298 qw_2 qw_1299 ⟨rfl, by decide +kernel, by decide +kernel, by decide +kernel⟩ ⟨Nat.le_of_ble_eq_true rfl, Nat.le_of_ble_eq_true rfl⟩ hl rfl rfl (Nat.le_of_ble_eq_true rfl) dX11_takes_36 ⟨Nat.le_of_ble_eq_true rfl, Nat.le_of_ble_eq_true rfl⟩ (fun z49512 F9 H locs hT hz49512 => ?_)
      obtain ⟨fz49512, hz49512⟩ := hz49512
      rw [fz49512] at hT
      exact K39 z49509 z49512 p0 _ _ _ _ (by omega) m0 g0 (by omega) hT hfr  (lv_sub hl [1, 2, 0] rfl)
    · have w49513 := cv_eq (rfl : z49509.toInt = z49509.toInt) (by decide : (0 : Int32).toInt = 0) c49510
      refine lv_bipush (v := (-2)) hx hb dX11_takes_28 (by decide) ?_
      refine lv_goto (tgt := 39) hx hb dX11_takes_30 (by decide) ?_
      exact K39 z49509 (-2) p0 _ _ _ _ (by omega) m0 g0 (by omega) hT hfr  (lv_sub hl [1, 2, 0] rfl)
  · have w49514 := cv_eq (rfl : z49503.toInt = z49503.toInt) (by decide : (0 : Int32).toInt = 0) c49504
    refine lv_aload_n hx hb dX11_takes_8 rfl (lv_at hl 0 rfl) ?_
    refine lv_iconst (v := 1) hx hb dX11_takes_9 (by decide) ?_
    refine t_cVi (n := 1) (C := RX11) (T := TX11) (N := 16) (As := [.int 1]) (rest := []) X hT (kt63_X11_refuse l G tag L F hT.2.2.2 p0 1 m0 g0) m0 g0 rfl rfl qw_152 qw_153 qw_154 qw_2 qw_155 ⟨rfl, by decide +kernel, by decide +kernel, by decide +kernel⟩ ⟨Nat.le_of_ble_eq_true rfl, Nat.le_of_ble_eq_true rfl⟩ hl rfl rfl (Nat.le_of_ble_eq_true rfl) dX11_takes_10 ⟨Nat.le_of_ble_eq_true rfl, Nat.le_of_ble_eq_true rfl⟩ (fun z49515 F H locs hT hz49515 => ?_)
    obtain ⟨hz49515, yz49515⟩ := hz49515
    have hfr : ∀ b j : Nat, (tag b ≠ 26 ∨ j ≠ 13) → fld F b j = fld Fo b j := fun b j n26_13 => (yz49515 b j n26_13).trans (hfr b j n26_13)
    exact t_iret hQ X hT (⟨rg_all _, hfr⟩) (Nat.le_of_ble_eq_true rfl) (Nat.le_of_ble_eq_true rfl) dX11_takes_13
set_option maxHeartbeats 4000000 in
set_option maxRecDepth 100000 in
theorem kt131_X11_through (l : Launch) (G : KG) (tag : Nat → Nat) (L : List Nat) (Fo : Nat → va_E) (ho : okT G ttC tag L Fo) (p0 : Nat) (p1 : Int32) (p2 : Int32) (m0 : p0 ∈ L) (g0 : tag p0 = 26) : TMi l yX11_through cX11_through 3 (some .int) { frames := 6, cells := 0, slots := 0, locals := 149 } G ttC tag L Fo [.ref p0, .int p1, .int p2] (fun r F1 => ((-2147483648) ≤ r.toInt ∧ r.toInt ≤ 2147483647) ∧ (∀ b j : Nat, (tag b ≠ 21 ∨ j ≠ 0) → (tag b ≠ 21 ∨ j ≠ 1) → (tag b ≠ 26 ∨ j ≠ 13) → fld F1 b j = fld Fo b j)) := by
  refine t_bodyi (y := yX11_through) (cd := cX11_through) (mL := 3) (rt := (some .int)) (rm := { frames := 6, cells := 0, slots := 0, locals := 149 }) (av := [.ref p0, .int p1, .int p2]) (by decide) (Nat.le_of_ble_eq_true rfl) ho ?_
  intro p e s m args below meth c ls A Q hQ X hT hl
  have hx := X.1.1
  have hb := X.1.2.1
  have hl : lv_has ls 3 [(0, .ref p0), (1, .int p1), (2, .int p2)] := hl
  have rp1 := rg_all p1
  have rp2 := rg_all p2
  obtain ⟨F, hFo⟩ : ∃ F : Nat → va_E, F = Fo := ⟨_, rfl⟩
  rw [← hFo] at hT
  have hfr : ∀ b j : Nat, (tag b ≠ 21 ∨ j ≠ 0) → (tag b ≠ 21 ∨ j ≠ 1) → (tag b ≠ 26 ∨ j ≠ 13) → fld F b j = fld Fo b j := by
    rw [hFo]
    intros
    rfl
  refine lv_aload_n hx hb dX11_through_0 rfl (lv_at hl 0 rfl) ?_
  refine lv_iload_n hx hb dX11_through_1 rfl (lv_at hl 1 rfl) ?_
  refine lv_iload_n hx hb dX11_through_2 rfl (lv_at hl 2 rfl) ?_
  refine t_cVi (n := 2) (C := RX11) (T := TX11) (N := 16) (As := [.int p1, .int p2]) (rest := []) X hT (kt62_X11_isRoom l G tag L F hT.2.2.2 p0 p1 p2 m0 g0) m0 g0 rfl rfl qw_827 qw_828 qw_829 qw_2 qw_830 ⟨rfl, by decide +kernel, by decide +kernel, by decide +kernel⟩ ⟨Nat.le_of_ble_eq_true rfl, Nat.le_of_ble_eq_true rfl⟩ hl rfl rfl (Nat.le_of_ble_eq_true rfl) dX11_through_3 ⟨Nat.le_of_ble_eq_true rfl, Nat.le_of_ble_eq_true rfl⟩ (fun z49692 F9 H locs hT hz49692 => ?_)
  obtain ⟨fz49692, hz49692⟩ := hz49692
  rw [fz49692] at hT
  obtain ⟨hz49692, iz49692⟩ := hz49692
  refine lv_if_ne (tgt := 15) hx hb dX11_through_6 (by decide) (fun c49693 => ?_) (fun c49693 => ?_)
  · have w49694 := cv_ne (rfl : z49692.toInt = z49692.toInt) (by decide : (0 : Int32).toInt = 0) c49693
    have w49695 := (fun h => (iz49692 h).1) (by omega)
    have w49696 := (fun h => (iz49692 h).2) (by omega)
    refine lv_aload_n hx hb dX11_through_15 rfl (lv_at hl 0 rfl) ?_
    refine lv_aload_n hx hb dX11_through_16 rfl (lv_at hl 0 rfl) ?_
    refine t_get (C := RX11) (T := TX11) (N := 16) X hT m0 g0 rfl rfl 10 (by decide) qw_37 inlX11 rfl dX11_through_17 (fun v49697 hv49697 ov49697 => ?_)
    obtain ⟨b49698, rfl, mb49698, gb49698⟩ := okV_r ov49697
    have gb49698 : tag b49698 = 21 := tg_of gb49698
    refine lv_aload_n hx hb dX11_through_20 rfl (lv_at hl 0 rfl) ?_
    refine t_get (C := RX11) (T := TX11) (N := 16) X hT m0 g0 rfl rfl 3 (by decide) qw_18 inlX11 rfl dX11_through_21 (fun v49699 hv49699 ov49699 => ?_)
    obtain ⟨b49700, rfl, mb49700, gb49700⟩ := okV_r ov49699
    have gb49700 : tag b49700 = 18 := tg_of gb49700
    refine lv_aload_n hx hb dX11_through_24 rfl (lv_at hl 0 rfl) ?_
    refine t_get (C := RX11) (T := TX11) (N := 16) X hT m0 g0 rfl rfl 5 (by decide) qw_23 inlX11 rfl dX11_through_25 (fun v49701 hv49701 ov49701 => ?_)
    obtain ⟨b49702, rfl, mb49702, gb49702⟩ := okV_r ov49701
    have gb49702 : tag b49702 = 19 := tg_of gb49702
    refine lv_iload_n hx hb dX11_through_28 rfl (lv_at hl 1 rfl) ?_
    refine lv_iload_n hx hb dX11_through_29 rfl (lv_at hl 2 rfl) ?_
    refine t_cVi (n := 4) (C := RX0) (T := TX0) (N := 2) (As := [.ref b49700, .ref b49702, .int p1, .int p2]) (rest := [.ref p0]) X hT (kt41_X0_cheapest l G tag L F hT.2.2.2 b49698 b49700 b49702 p1 p2 mb49698 gb49698 mb49700 gb49700 mb49702 gb49702 (by omega)) mb49698 gb49698 rfl rfl qw_1012 qw_1013 qw_1014 qw_36 qw_1015 ⟨rfl, by decide +kernel, by decide +kernel, by decide +kernel⟩ ⟨Nat.le_of_ble_eq_true rfl, Nat.le_of_ble_eq_true rfl⟩ hl rfl rfl (Nat.le_of_ble_eq_true rfl) dX11_through_30 ⟨Nat.le_of_ble_eq_true rfl, Nat.le_of_ble_eq_true rfl⟩ (fun z49703 F H locs hT hz49703 => ?_)
    obtain ⟨hz49703, yz49703⟩ := hz49703
    have hv49697 := (yz49703 _ 10 (Or.inr (by decide)) (Or.inr (by decide))).trans hv49697
    have hv49699 := (yz49703 _ 3 (Or.inr (by decide)) (Or.inr (by decide))).trans hv49699
    have hv49701 := (yz49703 _ 5 (Or.inr (by decide)) (Or.inr (by decide))).trans hv49701
    have hfr : ∀ b j : Nat, (tag b ≠ 21 ∨ j ≠ 0) → (tag b ≠ 21 ∨ j ≠ 1) → (tag b ≠ 26 ∨ j ≠ 13) → fld F b j = fld Fo b j := fun b j n21_0 n21_1 n26_13 => (yz49703 b j n21_0 n21_1).trans (hfr b j n21_0 n21_1 n26_13)
    refine lv_bipush (v := 8) hx hb dX11_through_33 (by decide) ?_
    refine lv_idiv hx hb dX11_through_35 (by decide) ?_
    refine lv_topi (fun z49704 ez49704 => ?_)
    have rz49704 := rg_all z49704
    refine t_cVi (n := 1) (C := RX11) (T := TX11) (N := 16) (As := [.int z49704]) (rest := []) X hT (kt56_X11_answer l G tag L F hT.2.2.2 p0 z49704 m0 g0) m0 g0 rfl rfl qw_463 qw_464 qw_465 qw_2 qw_466 ⟨rfl, by decide +kernel, by decide +kernel, by decide +kernel⟩ ⟨Nat.le_of_ble_eq_true rfl, Nat.le_of_ble_eq_true rfl⟩ hl rfl rfl (Nat.le_of_ble_eq_true rfl) dX11_through_36 ⟨Nat.le_of_ble_eq_true rfl, Nat.le_of_ble_eq_true rfl⟩ (fun z49705 F H locs hT hz49705 => ?_)
    obtain ⟨hz49705, yz49705⟩ := hz49705
    have hv49697 := (yz49705 _ 10 (Or.inr (by decide))).trans hv49697
    have hv49699 := (yz49705 _ 3 (Or.inr (by decide))).trans hv49699
    have hv49701 := (yz49705 _ 5 (Or.inr (by decide))).trans hv49701
    have hfr : ∀ b j : Nat, (tag b ≠ 21 ∨ j ≠ 0) → (tag b ≠ 21 ∨ j ≠ 1) → (tag b ≠ 26 ∨ j ≠ 13) → fld F b j = fld Fo b j := fun b j n21_0 n21_1 n26_13 => (yz49705 b j n26_13).trans (hfr b j n21_0 n21_1 n26_13)
    exact t_iret hQ X hT (⟨rg_all _, hfr⟩) (Nat.le_of_ble_eq_true rfl) (Nat.le_of_ble_eq_true rfl) dX11_through_39
  · have w49706 := cv_eq (rfl : z49692.toInt = z49692.toInt) (by decide : (0 : Int32).toInt = 0) c49693
    refine lv_aload_n hx hb dX11_through_9 rfl (lv_at hl 0 rfl) ?_
    refine lv_iconst (v := 1) hx hb dX11_through_10 (by decide) ?_
    refine t_cVi (n := 1) (C := RX11) (T := TX11) (N := 16) (As := [.int 1]) (rest := []) X hT (kt63_X11_refuse l G tag L F hT.2.2.2 p0 1 m0 g0) m0 g0 rfl rfl qw_152 qw_153 qw_154 qw_2 qw_155 ⟨rfl, by decide +kernel, by decide +kernel, by decide +kernel⟩ ⟨Nat.le_of_ble_eq_true rfl, Nat.le_of_ble_eq_true rfl⟩ hl rfl rfl (Nat.le_of_ble_eq_true rfl) dX11_through_11 ⟨Nat.le_of_ble_eq_true rfl, Nat.le_of_ble_eq_true rfl⟩ (fun z49707 F H locs hT hz49707 => ?_)
    obtain ⟨hz49707, yz49707⟩ := hz49707
    have hfr : ∀ b j : Nat, (tag b ≠ 21 ∨ j ≠ 0) → (tag b ≠ 21 ∨ j ≠ 1) → (tag b ≠ 26 ∨ j ≠ 13) → fld F b j = fld Fo b j := fun b j n21_0 n21_1 n26_13 => (yz49707 b j n26_13).trans (hfr b j n21_0 n21_1 n26_13)
    exact t_iret hQ X hT (⟨rg_all _, hfr⟩) (Nat.le_of_ble_eq_true rfl) (Nat.le_of_ble_eq_true rfl) dX11_through_14
set_option maxHeartbeats 4000000 in
set_option maxRecDepth 100000 in
theorem kt132_X11_trouble (l : Launch) (G : KG) (tag : Nat → Nat) (L : List Nat) (F : Nat → va_E) (ho : okT G ttC tag L F) (p0 : Nat) (m0 : p0 ∈ L) (g0 : tag p0 = 26) : TMi l yX11_trouble cX11_trouble 1 (some .int) { frames := 0, cells := 0, slots := 0, locals := 0 } G ttC tag L F [.ref p0] (fun r F1 => F1 = F ∧ ((-2147483648) ≤ r.toInt ∧ r.toInt ≤ 2147483647)) := by
  refine t_bodyi (y := yX11_trouble) (cd := cX11_trouble) (mL := 1) (rt := (some .int)) (rm := { frames := 0, cells := 0, slots := 0, locals := 0 }) (av := [.ref p0]) (by decide) (Nat.le_of_ble_eq_true rfl) ho ?_
  intro p e s m args below meth c ls A Q hQ X hT hl
  have hx := X.1.1
  have hb := X.1.2.1
  have hl : lv_has ls 1 [(0, .ref p0)] := hl
  refine lv_aload_n hx hb dX11_trouble_0 rfl (lv_at hl 0 rfl) ?_
  refine t_get (C := RX11) (T := TX11) (N := 16) X hT m0 g0 rfl rfl 13 (by decide) qw_156 inlX11 rfl dX11_trouble_1 (fun v49730 hv49730 ov49730 => ?_)
  obtain ⟨z49731, rfl, rz49731⟩ := okV_i ov49730
  exact t_iret hQ X hT (⟨rfl, rg_all _⟩) (Nat.le_of_ble_eq_true rfl) (Nat.le_of_ble_eq_true rfl) dX11_trouble_4
set_option maxHeartbeats 4000000 in
set_option maxRecDepth 100000 in
theorem kt133_X2_stepBack (l : Launch) (G : KG) (tag : Nat → Nat) (L : List Nat) (Fo : Nat → va_E) (ho : okT G ttC tag L Fo) (p0 : Nat) (p1 : Nat) (m0 : p0 ∈ L) (g0 : tag p0 = 23) (m1 : p1 ∈ L) (g1 : tag p1 = 19) : TMi l yX2_stepBack cX2_stepBack 2 (some .boolean) { frames := 2, cells := 0, slots := 0, locals := 45 } G ttC tag L Fo [.ref p0, .ref p1] (fun r F1 => (0 ≤ r.toInt ∧ r.toInt ≤ 1) ∧ (∀ b j : Nat, (tag b ≠ 19 ∨ j ≠ 0) → (tag b ≠ 19 ∨ j ≠ 1) → (tag b ≠ 23 ∨ j ≠ 3) → fld F1 b j = fld Fo b j)) := by
  refine t_bodyi (y := yX2_stepBack) (cd := cX2_stepBack) (mL := 2) (rt := (some .boolean)) (rm := { frames := 2, cells := 0, slots := 0, locals := 45 }) (av := [.ref p0, .ref p1]) (by decide) (Nat.le_of_ble_eq_true rfl) ho ?_
  intro p e s m args below meth c ls A Q hQ X hT hl
  have hx := X.1.1
  have hb := X.1.2.1
  have hl : lv_has ls 2 [(0, .ref p0), (1, .ref p1)] := hl
  obtain ⟨F, hFo⟩ : ∃ F : Nat → va_E, F = Fo := ⟨_, rfl⟩
  rw [← hFo] at hT
  have hfr : ∀ b j : Nat, (tag b ≠ 19 ∨ j ≠ 0) → (tag b ≠ 19 ∨ j ≠ 1) → (tag b ≠ 23 ∨ j ≠ 3) → fld F b j = fld Fo b j := by
    rw [hFo]
    intros
    rfl
  refine lv_aload_n hx hb dX2_stepBack_0 rfl (lv_at hl 0 rfl) ?_
  refine t_get (C := RX2) (T := TX2) (N := 5) X hT m0 g0 rfl rfl 3 (by decide) qw_461 inlX2 rfl dX2_stepBack_1 (fun v49923 hv49923 ov49923 => ?_)
  obtain ⟨z49924, rfl, rz49924⟩ := okV_i ov49923
  refine lv_if_ne (tgt := 9) hx hb dX2_stepBack_4 (by decide) (fun c49925 => ?_) (fun c49925 => ?_)
  · have w49926 := cv_ne (rfl : z49924.toInt = z49924.toInt) (by decide : (0 : Int32).toInt = 0) c49925
    refine lv_aload_n hx hb dX2_stepBack_9 rfl (lv_at hl 0 rfl) ?_
    refine lv_dup hx hb dX2_stepBack_10 rfl ?_
    refine t_get (C := RX2) (T := TX2) (N := 5) X hT m0 g0 rfl rfl 3 (by decide) qw_461 inlX2 rfl dX2_stepBack_11 (fun v49927 hv49927 ov49927 => ?_)
    obtain rfl : v49927 = .int z49924 := hv49927.symm.trans hv49923
    refine lv_iconst (v := 1) hx hb dX2_stepBack_14 (by decide) ?_
    refine lv_isub hx hb dX2_stepBack_15 ?_
    refine lv_topi (fun z49928 ez49928 => ?_)
    have hz49928 : z49928.toInt = z49924.toInt - 1 := ar_sub ez49928 (rfl : z49924.toInt = z49924.toInt) (by decide : (1 : Int32).toInt = 1) (by omega) (by omega)
    have rz49928 : 0 ≤ z49928.toInt ∧ z49928.toInt ≤ 9 := by omega
    refine t_put (C := RX2) (T := TX2) (N := 5) (v := .int z49928) X hT m0 g0 rfl tyX2 tyX2_ok nmX2 rfl 3 (by decide) qw_461 inlX2 rfl (by first | rfl | decide) (by first | rfl | decide) rfl (⟨_, rfl, (by omega), (by omega)⟩) dX2_stepBack_16 (fun F H locs hT v49929 h1v49929 h2v49929 => ?_)
    have hfr : ∀ b j : Nat, (tag b ≠ 19 ∨ j ≠ 0) → (tag b ≠ 19 ∨ j ≠ 1) → (tag b ≠ 23 ∨ j ≠ 3) → fld F b j = fld Fo b j := fun b j n19_0 n19_1 n23_3 => (h1v49929 b j (fr_ne g0 n23_3)).trans (hfr b j n19_0 n19_1 n23_3)
    refine lv_aload_n hx hb dX2_stepBack_19 rfl (lv_at hl 1 rfl) ?_
    refine lv_aload_n hx hb dX2_stepBack_20 rfl (lv_at hl 0 rfl) ?_
    refine t_get (C := RX2) (T := TX2) (N := 5) X hT m0 g0 rfl rfl 0 (by decide) qw_103 inlX2 rfl dX2_stepBack_21 (fun v49930 hv49930 ov49930 => ?_)
    obtain ⟨b49931, rfl, mb49931, gb49931⟩ := okV_r ov49930
    have gb49931 : tag b49931 = 16 := tg_of gb49931
    refine lv_aload_n hx hb dX2_stepBack_24 rfl (lv_at hl 0 rfl) ?_
    refine t_get (C := RX2) (T := TX2) (N := 5) X hT m0 g0 rfl rfl 2 (by decide) qw_1431 inlX2 rfl dX2_stepBack_25 (fun v49932 hv49932 ov49932 => ?_)
    obtain ⟨z49933, rfl, rz49933⟩ := okV_i ov49932
    refine lv_aload_n hx hb dX2_stepBack_28 rfl (lv_at hl 0 rfl) ?_
    refine t_get (C := RX2) (T := TX2) (N := 5) X hT m0 g0 rfl rfl 3 (by decide) qw_461 inlX2 rfl dX2_stepBack_29 (fun v49934 hv49934 ov49934 => ?_)
    obtain rfl : v49934 = .int z49928 := hv49934.symm.trans v49929
    refine lv_iadd hx hb dX2_stepBack_32 ?_
    refine lv_topi (fun z49935 ez49935 => ?_)
    have hz49935 : z49935.toInt = z49933.toInt + z49928.toInt := ar_add ez49935 (rfl : z49933.toInt = z49933.toInt) (rfl : z49928.toInt = z49928.toInt) (by omega) (by omega)
    have rz49935 : 0 ≤ z49935.toInt ∧ z49935.toInt ≤ 18 := by omega
    refine lv_bipush (v := 10) hx hb dX2_stepBack_33 (by decide) ?_
    refine lv_irem hx hb dX2_stepBack_35 (by decide) ?_
    refine lv_topi (fun z49936 ez49936 => ?_)
    have hz49936 : z49936.toInt = z49935.toInt % 10 := ar_rem ez49936 (rfl : z49935.toInt = z49935.toInt) (by decide : (10 : Int32).toInt = 10) (by omega) (by omega)
    have rz49936 : 0 ≤ z49936.toInt ∧ z49936.toInt ≤ 9 := by omega
    refine t_ald X hT mb49931 gb49931 rfl (by omega) dX2_stepBack_36 (fun b49937 mb49937 gb49937 => ?_)
    have gb49937 : tag b49937 = 19 := tg_of gb49937
    refine t_cVv (n := 1) (C := RX7) (T := TX7) (N := 7) (As := [.ref b49937]) (rest := []) X hT (kt49_X7_copyFrom l G tag L F hT.2.2.2 p1 b49937 m1 g1 mb49937 gb49937) m1 g1 rfl rfl qw_1432 qw_450 qw_451 qw_22 qw_452 ⟨rfl, by decide +kernel, by decide +kernel, by decide +kernel⟩ ⟨Nat.le_of_ble_eq_true rfl, Nat.le_of_ble_eq_true rfl⟩ hl rfl rfl (Nat.le_of_ble_eq_true rfl) dX2_stepBack_37 ⟨Nat.le_of_ble_eq_true rfl, Nat.le_of_ble_eq_true rfl⟩ (fun F H locs hT hz49938 => ?_)
    have yz49938 := hz49938
    have v49929 := (yz49938 _ 3 (Or.inr (by decide)) (Or.inr (by decide))).trans v49929
    have hv49930 := (yz49938 _ 0 (Or.inl (by rw [g0]; decide)) (Or.inr (by decide))).trans hv49930
    have hv49932 := (yz49938 _ 2 (Or.inr (by decide)) (Or.inr (by decide))).trans hv49932
    have hfr : ∀ b j : Nat, (tag b ≠ 19 ∨ j ≠ 0) → (tag b ≠ 19 ∨ j ≠ 1) → (tag b ≠ 23 ∨ j ≠ 3) → fld F b j = fld Fo b j := fun b j n19_0 n19_1 n23_3 => (yz49938 b j n19_0 n19_1).trans (hfr b j n19_0 n19_1 n23_3)
    refine lv_iconst (v := 1) hx hb dX2_stepBack_40 (by decide) ?_
    exact t_zret hQ X hT (by decide) (⟨(by decide), hfr⟩) (Nat.le_of_ble_eq_true rfl) (Nat.le_of_ble_eq_true rfl) dX2_stepBack_41
  · have w49939 := cv_eq (rfl : z49924.toInt = z49924.toInt) (by decide : (0 : Int32).toInt = 0) c49925
    refine lv_iconst (v := 0) hx hb dX2_stepBack_7 (by decide) ?_
    exact t_zret hQ X hT (by decide) (⟨(by decide), hfr⟩) (Nat.le_of_ble_eq_true rfl) (Nat.le_of_ble_eq_true rfl) dX2_stepBack_8
set_option maxHeartbeats 4000000 in
set_option maxRecDepth 100000 in
theorem kt134_X11_undo (l : Launch) (G : KG) (tag : Nat → Nat) (L : List Nat) (Fo : Nat → va_E) (ho : okT G ttC tag L Fo) (p0 : Nat) (m0 : p0 ∈ L) (g0 : tag p0 = 26) : TMi l yX11_undo cX11_undo 1 (some .boolean) { frames := 3, cells := 0, slots := 0, locals := 66 } G ttC tag L Fo [.ref p0] (fun r F1 => (0 ≤ r.toInt ∧ r.toInt ≤ 1) ∧ (∀ b j : Nat, (tag b ≠ 19 ∨ j ≠ 0) → (tag b ≠ 19 ∨ j ≠ 1) → (tag b ≠ 23 ∨ j ≠ 3) → (tag b ≠ 26 ∨ j ≠ 13) → fld F1 b j = fld Fo b j)) := by
  refine t_bodyi (y := yX11_undo) (cd := cX11_undo) (mL := 1) (rt := (some .boolean)) (rm := { frames := 3, cells := 0, slots := 0, locals := 66 }) (av := [.ref p0]) (by decide) (Nat.le_of_ble_eq_true rfl) ho ?_
  intro p e s m args below meth c ls A Q hQ X hT hl
  have hx := X.1.1
  have hb := X.1.2.1
  have hl : lv_has ls 1 [(0, .ref p0)] := hl
  obtain ⟨F, hFo⟩ : ∃ F : Nat → va_E, F = Fo := ⟨_, rfl⟩
  rw [← hFo] at hT
  have hfr : ∀ b j : Nat, (tag b ≠ 19 ∨ j ≠ 0) → (tag b ≠ 19 ∨ j ≠ 1) → (tag b ≠ 23 ∨ j ≠ 3) → (tag b ≠ 26 ∨ j ≠ 13) → fld F b j = fld Fo b j := by
    rw [hFo]
    intros
    rfl
  refine lv_aload_n hx hb dX11_undo_0 rfl (lv_at hl 0 rfl) ?_
  refine t_get (C := RX11) (T := TX11) (N := 16) X hT m0 g0 rfl rfl 12 (by decide) qw_45 inlX11 rfl dX11_undo_1 (fun v50046 hv50046 ov50046 => ?_)
  obtain ⟨b50047, rfl, mb50047, gb50047⟩ := okV_r ov50046
  have gb50047 : tag b50047 = 23 := tg_of gb50047
  refine lv_aload_n hx hb dX11_undo_4 rfl (lv_at hl 0 rfl) ?_
  refine t_get (C := RX11) (T := TX11) (N := 16) X hT m0 g0 rfl rfl 5 (by decide) qw_23 inlX11 rfl dX11_undo_5 (fun v50048 hv50048 ov50048 => ?_)
  obtain ⟨b50049, rfl, mb50049, gb50049⟩ := okV_r ov50048
  have gb50049 : tag b50049 = 19 := tg_of gb50049
  refine t_cVi (n := 1) (C := RX2) (T := TX2) (N := 5) (As := [.ref b50049]) (rest := []) X hT (kt133_X2_stepBack l G tag L F hT.2.2.2 b50047 b50049 mb50047 gb50047 mb50049 gb50049) mb50047 gb50047 rfl rfl qw_1521 qw_1522 qw_1523 qw_44 qw_1524 ⟨rfl, by decide +kernel, by decide +kernel, by decide +kernel⟩ ⟨Nat.le_of_ble_eq_true rfl, Nat.le_of_ble_eq_true rfl⟩ hl rfl rfl (Nat.le_of_ble_eq_true rfl) dX11_undo_8 ⟨Nat.le_of_ble_eq_true rfl, Nat.le_of_ble_eq_true rfl⟩ (fun z50050 F H locs hT hz50050 => ?_)
  obtain ⟨hz50050, yz50050⟩ := hz50050
  have hv50046 := (yz50050 _ 12 (Or.inr (by decide)) (Or.inr (by decide)) (Or.inr (by decide))).trans hv50046
  have hv50048 := (yz50050 _ 5 (Or.inr (by decide)) (Or.inr (by decide)) (Or.inr (by decide))).trans hv50048
  have hfr : ∀ b j : Nat, (tag b ≠ 19 ∨ j ≠ 0) → (tag b ≠ 19 ∨ j ≠ 1) → (tag b ≠ 23 ∨ j ≠ 3) → (tag b ≠ 26 ∨ j ≠ 13) → fld F b j = fld Fo b j := fun b j n19_0 n19_1 n23_3 n26_13 => (yz50050 b j n19_0 n19_1 n23_3).trans (hfr b j n19_0 n19_1 n23_3 n26_13)
  refine lv_if_eq (tgt := 21) hx hb dX11_undo_11 (by decide) (fun c50051 => ?_) (fun c50051 => ?_)
  · have w50052 := cv_eq (rfl : z50050.toInt = z50050.toInt) (by decide : (0 : Int32).toInt = 0) c50051
    refine lv_aload_n hx hb dX11_undo_21 rfl (lv_at hl 0 rfl) ?_
    refine lv_bipush (v := 6) hx hb dX11_undo_22 (by decide) ?_
    refine t_cVi (n := 1) (C := RX11) (T := TX11) (N := 16) (As := [.int 6]) (rest := []) X hT (kt58_X11_no l G tag L F hT.2.2.2 p0 6 m0 g0) m0 g0 rfl rfl qw_1454 qw_1455 qw_1456 qw_2 qw_1457 ⟨rfl, by decide +kernel, by decide +kernel, by decide +kernel⟩ ⟨Nat.le_of_ble_eq_true rfl, Nat.le_of_ble_eq_true rfl⟩ hl rfl rfl (Nat.le_of_ble_eq_true rfl) dX11_undo_24 ⟨Nat.le_of_ble_eq_true rfl, Nat.le_of_ble_eq_true rfl⟩ (fun z50053 F H locs hT hz50053 => ?_)
    obtain ⟨hz50053, yz50053⟩ := hz50053
    have hv50046 := (yz50053 _ 12 (Or.inr (by decide))).trans hv50046
    have hv50048 := (yz50053 _ 5 (Or.inr (by decide))).trans hv50048
    have hfr : ∀ b j : Nat, (tag b ≠ 19 ∨ j ≠ 0) → (tag b ≠ 19 ∨ j ≠ 1) → (tag b ≠ 23 ∨ j ≠ 3) → (tag b ≠ 26 ∨ j ≠ 13) → fld F b j = fld Fo b j := fun b j n19_0 n19_1 n23_3 n26_13 => (yz50053 b j n26_13).trans (hfr b j n19_0 n19_1 n23_3 n26_13)
    exact t_zret hQ X hT (nar_z (by omega)) (⟨(by omega), hfr⟩) (Nat.le_of_ble_eq_true rfl) (Nat.le_of_ble_eq_true rfl) dX11_undo_27
  · have w50054 := cv_ne (rfl : z50050.toInt = z50050.toInt) (by decide : (0 : Int32).toInt = 0) c50051
    refine lv_aload_n hx hb dX11_undo_14 rfl (lv_at hl 0 rfl) ?_
    refine t_cVi (n := 0) (C := RX11) (T := TX11) (N := 16) (As := []) (rest := []) X hT (kt59_X11_yes l G tag L F hT.2.2.2 p0 m0 g0) m0 g0 rfl rfl qw_1460 qw_1461 qw_1462 qw_2 qw_1463 ⟨rfl, by decide +kernel, by decide +kernel, by decide +kernel⟩ ⟨Nat.le_of_ble_eq_true rfl, Nat.le_of_ble_eq_true rfl⟩ hl rfl rfl (Nat.le_of_ble_eq_true rfl) dX11_undo_15 ⟨Nat.le_of_ble_eq_true rfl, Nat.le_of_ble_eq_true rfl⟩ (fun z50055 F H locs hT hz50055 => ?_)
    obtain ⟨hz50055, yz50055⟩ := hz50055
    have hv50046 := (yz50055 _ 12 (Or.inr (by decide))).trans hv50046
    have hv50048 := (yz50055 _ 5 (Or.inr (by decide))).trans hv50048
    have hfr : ∀ b j : Nat, (tag b ≠ 19 ∨ j ≠ 0) → (tag b ≠ 19 ∨ j ≠ 1) → (tag b ≠ 23 ∨ j ≠ 3) → (tag b ≠ 26 ∨ j ≠ 13) → fld F b j = fld Fo b j := fun b j n19_0 n19_1 n23_3 n26_13 => (yz50055 b j n26_13).trans (hfr b j n19_0 n19_1 n23_3 n26_13)
    refine lv_goto (tgt := 27) hx hb dX11_undo_18 (by decide) ?_
    exact t_zret hQ X hT (nar_z (by omega)) (⟨(by omega), hfr⟩) (Nat.le_of_ble_eq_true rfl) (Nat.le_of_ble_eq_true rfl) dX11_undo_27
set_option maxHeartbeats 4000000 in
set_option maxRecDepth 100000 in
theorem kt135_X11_warm (l : Launch) (G : KG) (tag : Nat → Nat) (L : List Nat) (Fo : Nat → va_E) (ho : okT G ttC tag L Fo) (p0 : Nat) (p1 : Int32) (p2 : Int32) (m0 : p0 ∈ L) (g0 : tag p0 = 26) : TMi l yX11_warm cX11_warm 3 (some .int) { frames := 3, cells := 0, slots := 0, locals := 70 } G ttC tag L Fo [.ref p0, .int p1, .int p2] (fun r F1 => ((-2147483648) ≤ r.toInt ∧ r.toInt ≤ 2147483647) ∧ (∀ b j : Nat, (tag b ≠ 26 ∨ j ≠ 13) → fld F1 b j = fld Fo b j)) := by
  refine t_bodyi (y := yX11_warm) (cd := cX11_warm) (mL := 3) (rt := (some .int)) (rm := { frames := 3, cells := 0, slots := 0, locals := 70 }) (av := [.ref p0, .int p1, .int p2]) (by decide) (Nat.le_of_ble_eq_true rfl) ho ?_
  intro p e s m args below meth c ls A Q hQ X hT hl
  have hx := X.1.1
  have hb := X.1.2.1
  have hl : lv_has ls 3 [(0, .ref p0), (1, .int p1), (2, .int p2)] := hl
  have rp1 := rg_all p1
  have rp2 := rg_all p2
  obtain ⟨F, hFo⟩ : ∃ F : Nat → va_E, F = Fo := ⟨_, rfl⟩
  rw [← hFo] at hT
  have hfr : ∀ b j : Nat, (tag b ≠ 26 ∨ j ≠ 13) → fld F b j = fld Fo b j := by
    rw [hFo]
    intros
    rfl
  refine lv_aload_n hx hb dX11_warm_0 rfl (lv_at hl 0 rfl) ?_
  refine lv_iload_n hx hb dX11_warm_1 rfl (lv_at hl 1 rfl) ?_
  refine lv_iload_n hx hb dX11_warm_2 rfl (lv_at hl 2 rfl) ?_
  refine t_cVi (n := 2) (C := RX11) (T := TX11) (N := 16) (As := [.int p1, .int p2]) (rest := []) X hT (kt62_X11_isRoom l G tag L F hT.2.2.2 p0 p1 p2 m0 g0) m0 g0 rfl rfl qw_827 qw_828 qw_829 qw_2 qw_830 ⟨rfl, by decide +kernel, by decide +kernel, by decide +kernel⟩ ⟨Nat.le_of_ble_eq_true rfl, Nat.le_of_ble_eq_true rfl⟩ hl rfl rfl (Nat.le_of_ble_eq_true rfl) dX11_warm_3 ⟨Nat.le_of_ble_eq_true rfl, Nat.le_of_ble_eq_true rfl⟩ (fun z50155 F9 H locs hT hz50155 => ?_)
  obtain ⟨fz50155, hz50155⟩ := hz50155
  rw [fz50155] at hT
  obtain ⟨hz50155, iz50155⟩ := hz50155
  refine lv_if_ne (tgt := 15) hx hb dX11_warm_6 (by decide) (fun c50156 => ?_) (fun c50156 => ?_)
  · have w50157 := cv_ne (rfl : z50155.toInt = z50155.toInt) (by decide : (0 : Int32).toInt = 0) c50156
    have w50158 := (fun h => (iz50155 h).1) (by omega)
    have w50159 := (fun h => (iz50155 h).2) (by omega)
    refine lv_aload_n hx hb dX11_warm_15 rfl (lv_at hl 0 rfl) ?_
    refine lv_aload_n hx hb dX11_warm_16 rfl (lv_at hl 0 rfl) ?_
    refine lv_iload_n hx hb dX11_warm_17 rfl (lv_at hl 1 rfl) ?_
    refine lv_iload_n hx hb dX11_warm_18 rfl (lv_at hl 2 rfl) ?_
    refine t_cVi (n := 2) (C := RX11) (T := TX11) (N := 16) (As := [.int p1, .int p2]) (rest := [.ref p0]) X hT (kt87_X11_warmth l G tag L F hT.2.2.2 p0 p1 p2 m0 g0 (by omega)) m0 g0 rfl rfl qw_844 qw_845 qw_846 qw_2 qw_847 ⟨rfl, by decide +kernel, by decide +kernel, by decide +kernel⟩ ⟨Nat.le_of_ble_eq_true rfl, Nat.le_of_ble_eq_true rfl⟩ hl rfl rfl (Nat.le_of_ble_eq_true rfl) dX11_warm_19 ⟨Nat.le_of_ble_eq_true rfl, Nat.le_of_ble_eq_true rfl⟩ (fun z50160 F9 H locs hT hz50160 => ?_)
    obtain ⟨fz50160, hz50160⟩ := hz50160
    rw [fz50160] at hT
    refine t_cVi (n := 1) (C := RX11) (T := TX11) (N := 16) (As := [.int z50160]) (rest := []) X hT (kt56_X11_answer l G tag L F hT.2.2.2 p0 z50160 m0 g0) m0 g0 rfl rfl qw_463 qw_464 qw_465 qw_2 qw_466 ⟨rfl, by decide +kernel, by decide +kernel, by decide +kernel⟩ ⟨Nat.le_of_ble_eq_true rfl, Nat.le_of_ble_eq_true rfl⟩ hl rfl rfl (Nat.le_of_ble_eq_true rfl) dX11_warm_22 ⟨Nat.le_of_ble_eq_true rfl, Nat.le_of_ble_eq_true rfl⟩ (fun z50161 F H locs hT hz50161 => ?_)
    obtain ⟨hz50161, yz50161⟩ := hz50161
    have hfr : ∀ b j : Nat, (tag b ≠ 26 ∨ j ≠ 13) → fld F b j = fld Fo b j := fun b j n26_13 => (yz50161 b j n26_13).trans (hfr b j n26_13)
    exact t_iret hQ X hT (⟨rg_all _, hfr⟩) (Nat.le_of_ble_eq_true rfl) (Nat.le_of_ble_eq_true rfl) dX11_warm_25
  · have w50162 := cv_eq (rfl : z50155.toInt = z50155.toInt) (by decide : (0 : Int32).toInt = 0) c50156
    refine lv_aload_n hx hb dX11_warm_9 rfl (lv_at hl 0 rfl) ?_
    refine lv_iconst (v := 1) hx hb dX11_warm_10 (by decide) ?_
    refine t_cVi (n := 1) (C := RX11) (T := TX11) (N := 16) (As := [.int 1]) (rest := []) X hT (kt63_X11_refuse l G tag L F hT.2.2.2 p0 1 m0 g0) m0 g0 rfl rfl qw_152 qw_153 qw_154 qw_2 qw_155 ⟨rfl, by decide +kernel, by decide +kernel, by decide +kernel⟩ ⟨Nat.le_of_ble_eq_true rfl, Nat.le_of_ble_eq_true rfl⟩ hl rfl rfl (Nat.le_of_ble_eq_true rfl) dX11_warm_11 ⟨Nat.le_of_ble_eq_true rfl, Nat.le_of_ble_eq_true rfl⟩ (fun z50163 F H locs hT hz50163 => ?_)
    obtain ⟨hz50163, yz50163⟩ := hz50163
    have hfr : ∀ b j : Nat, (tag b ≠ 26 ∨ j ≠ 13) → fld F b j = fld Fo b j := fun b j n26_13 => (yz50163 b j n26_13).trans (hfr b j n26_13)
    exact t_iret hQ X hT (⟨rg_all _, hfr⟩) (Nat.le_of_ble_eq_true rfl) (Nat.le_of_ble_eq_true rfl) dX11_warm_14
set_option maxHeartbeats 4000000 in
set_option maxRecDepth 100000 in
theorem kt136_X11_way (l : Launch) (G : KG) (tag : Nat → Nat) (L : List Nat) (Fo : Nat → va_E) (ho : okT G ttC tag L Fo) (p0 : Nat) (p1 : Int32) (p2 : Int32) (m0 : p0 ∈ L) (g0 : tag p0 = 26) : TMi l yX11_way cX11_way 3 (some .int) { frames := 4, cells := 0, slots := 0, locals := 93 } G ttC tag L Fo [.ref p0, .int p1, .int p2] (fun r F1 => ((-2147483648) ≤ r.toInt ∧ r.toInt ≤ 2147483647) ∧ (∀ b j : Nat, (tag b ≠ 26 ∨ j ≠ 13) → fld F1 b j = fld Fo b j)) := by
  refine t_bodyi (y := yX11_way) (cd := cX11_way) (mL := 3) (rt := (some .int)) (rm := { frames := 4, cells := 0, slots := 0, locals := 93 }) (av := [.ref p0, .int p1, .int p2]) (by decide) (Nat.le_of_ble_eq_true rfl) ho ?_
  intro p e s m args below meth c ls A Q hQ X hT hl
  have hx := X.1.1
  have hb := X.1.2.1
  have hl : lv_has ls 3 [(0, .ref p0), (1, .int p1), (2, .int p2)] := hl
  have rp1 := rg_all p1
  have rp2 := rg_all p2
  obtain ⟨F, hFo⟩ : ∃ F : Nat → va_E, F = Fo := ⟨_, rfl⟩
  rw [← hFo] at hT
  have hfr : ∀ b j : Nat, (tag b ≠ 26 ∨ j ≠ 13) → fld F b j = fld Fo b j := by
    rw [hFo]
    intros
    rfl
  refine lv_aload_n hx hb dX11_way_0 rfl (lv_at hl 0 rfl) ?_
  refine lv_iload_n hx hb dX11_way_1 rfl (lv_at hl 1 rfl) ?_
  refine lv_iload_n hx hb dX11_way_2 rfl (lv_at hl 2 rfl) ?_
  refine t_cVi (n := 2) (C := RX11) (T := TX11) (N := 16) (As := [.int p1, .int p2]) (rest := []) X hT (kt62_X11_isRoom l G tag L F hT.2.2.2 p0 p1 p2 m0 g0) m0 g0 rfl rfl qw_827 qw_828 qw_829 qw_2 qw_830 ⟨rfl, by decide +kernel, by decide +kernel, by decide +kernel⟩ ⟨Nat.le_of_ble_eq_true rfl, Nat.le_of_ble_eq_true rfl⟩ hl rfl rfl (Nat.le_of_ble_eq_true rfl) dX11_way_3 ⟨Nat.le_of_ble_eq_true rfl, Nat.le_of_ble_eq_true rfl⟩ (fun z50285 F9 H locs hT hz50285 => ?_)
  obtain ⟨fz50285, hz50285⟩ := hz50285
  rw [fz50285] at hT
  obtain ⟨hz50285, iz50285⟩ := hz50285
  refine lv_if_ne (tgt := 15) hx hb dX11_way_6 (by decide) (fun c50286 => ?_) (fun c50286 => ?_)
  · have w50287 := cv_ne (rfl : z50285.toInt = z50285.toInt) (by decide : (0 : Int32).toInt = 0) c50286
    have w50288 := (fun h => (iz50285 h).1) (by omega)
    have w50289 := (fun h => (iz50285 h).2) (by omega)
    refine lv_aload_n hx hb dX11_way_15 rfl (lv_at hl 0 rfl) ?_
    refine lv_aload_n hx hb dX11_way_16 rfl (lv_at hl 0 rfl) ?_
    refine t_get (C := RX11) (T := TX11) (N := 16) X hT m0 g0 rfl rfl 5 (by decide) qw_23 inlX11 rfl dX11_way_17 (fun v50290 hv50290 ov50290 => ?_)
    obtain ⟨b50291, rfl, mb50291, gb50291⟩ := okV_r ov50290
    have gb50291 : tag b50291 = 19 := tg_of gb50291
    refine lv_iload_n hx hb dX11_way_20 rfl (lv_at hl 1 rfl) ?_
    refine lv_iload_n hx hb dX11_way_21 rfl (lv_at hl 2 rfl) ?_
    refine t_cVi (n := 2) (C := RX7) (T := TX7) (N := 7) (As := [.int p1, .int p2]) (rest := [.ref p0]) X hT (kt26_X7_wayTo l G tag L F hT.2.2.2 b50291 p1 p2 mb50291 gb50291 (by omega)) mb50291 gb50291 rfl rfl qw_979 qw_980 qw_981 qw_22 qw_982 ⟨rfl, by decide +kernel, by decide +kernel, by decide +kernel⟩ ⟨Nat.le_of_ble_eq_true rfl, Nat.le_of_ble_eq_true rfl⟩ hl rfl rfl (Nat.le_of_ble_eq_true rfl) dX11_way_22 ⟨Nat.le_of_ble_eq_true rfl, Nat.le_of_ble_eq_true rfl⟩ (fun z50292 F9 H locs hT hz50292 => ?_)
    obtain ⟨fz50292, hz50292⟩ := hz50292
    rw [fz50292] at hT
    refine t_cVi (n := 1) (C := RX11) (T := TX11) (N := 16) (As := [.int z50292]) (rest := []) X hT (kt56_X11_answer l G tag L F hT.2.2.2 p0 z50292 m0 g0) m0 g0 rfl rfl qw_463 qw_464 qw_465 qw_2 qw_466 ⟨rfl, by decide +kernel, by decide +kernel, by decide +kernel⟩ ⟨Nat.le_of_ble_eq_true rfl, Nat.le_of_ble_eq_true rfl⟩ hl rfl rfl (Nat.le_of_ble_eq_true rfl) dX11_way_25 ⟨Nat.le_of_ble_eq_true rfl, Nat.le_of_ble_eq_true rfl⟩ (fun z50293 F H locs hT hz50293 => ?_)
    obtain ⟨hz50293, yz50293⟩ := hz50293
    have hv50290 := (yz50293 _ 5 (Or.inr (by decide))).trans hv50290
    have hfr : ∀ b j : Nat, (tag b ≠ 26 ∨ j ≠ 13) → fld F b j = fld Fo b j := fun b j n26_13 => (yz50293 b j n26_13).trans (hfr b j n26_13)
    exact t_iret hQ X hT (⟨rg_all _, hfr⟩) (Nat.le_of_ble_eq_true rfl) (Nat.le_of_ble_eq_true rfl) dX11_way_28
  · have w50294 := cv_eq (rfl : z50285.toInt = z50285.toInt) (by decide : (0 : Int32).toInt = 0) c50286
    refine lv_aload_n hx hb dX11_way_9 rfl (lv_at hl 0 rfl) ?_
    refine lv_iconst (v := 1) hx hb dX11_way_10 (by decide) ?_
    refine t_cVi (n := 1) (C := RX11) (T := TX11) (N := 16) (As := [.int 1]) (rest := []) X hT (kt63_X11_refuse l G tag L F hT.2.2.2 p0 1 m0 g0) m0 g0 rfl rfl qw_152 qw_153 qw_154 qw_2 qw_155 ⟨rfl, by decide +kernel, by decide +kernel, by decide +kernel⟩ ⟨Nat.le_of_ble_eq_true rfl, Nat.le_of_ble_eq_true rfl⟩ hl rfl rfl (Nat.le_of_ble_eq_true rfl) dX11_way_11 ⟨Nat.le_of_ble_eq_true rfl, Nat.le_of_ble_eq_true rfl⟩ (fun z50295 F H locs hT hz50295 => ?_)
    obtain ⟨hz50295, yz50295⟩ := hz50295
    have hfr : ∀ b j : Nat, (tag b ≠ 26 ∨ j ≠ 13) → fld F b j = fld Fo b j := fun b j n26_13 => (yz50295 b j n26_13).trans (hfr b j n26_13)
    exact t_iret hQ X hT (⟨rg_all _, hfr⟩) (Nat.le_of_ble_eq_true rfl) (Nat.le_of_ble_eq_true rfl) dX11_way_14
set_option maxHeartbeats 4000000 in
set_option maxRecDepth 100000 in
theorem kt137_X11_where (l : Launch) (G : KG) (tag : Nat → Nat) (L : List Nat) (F : Nat → va_E) (ho : okT G ttC tag L F) (p0 : Nat) (m0 : p0 ∈ L) (g0 : tag p0 = 26) : TMi l yX11_where cX11_where 1 (some .int) { frames := 0, cells := 0, slots := 0, locals := 0 } G ttC tag L F [.ref p0] (fun r F1 => F1 = F ∧ ((-2147483648) ≤ r.toInt ∧ r.toInt ≤ 2147483647)) := by
  refine t_bodyi (y := yX11_where) (cd := cX11_where) (mL := 1) (rt := (some .int)) (rm := { frames := 0, cells := 0, slots := 0, locals := 0 }) (av := [.ref p0]) (by decide) (Nat.le_of_ble_eq_true rfl) ho ?_
  intro p e s m args below meth c ls A Q hQ X hT hl
  have hx := X.1.1
  have hb := X.1.2.1
  have hl : lv_has ls 1 [(0, .ref p0)] := hl
  refine lv_aload_n hx hb dX11_where_0 rfl (lv_at hl 0 rfl) ?_
  refine t_get (C := RX11) (T := TX11) (N := 16) X hT m0 g0 rfl rfl 13 (by decide) qw_156 inlX11 rfl dX11_where_1 (fun v50373 hv50373 ov50373 => ?_)
  obtain ⟨z50374, rfl, rz50374⟩ := okV_i ov50373
  refine lv_iconst (v := 4) hx hb dX11_where_4 (by decide) ?_
  refine lv_icmp_ne (tgt := 15) hx hb dX11_where_5 (by decide) (fun c50375 => ?_) (fun c50375 => ?_)
  · have w50376 := cv_ne (rfl : z50374.toInt = z50374.toInt) (by decide : (4 : Int32).toInt = 4) c50375
    refine lv_iconst (v := (-1)) hx hb dX11_where_15 (by decide) ?_
    exact t_iret hQ X hT (⟨rfl, rg_all _⟩) (Nat.le_of_ble_eq_true rfl) (Nat.le_of_ble_eq_true rfl) dX11_where_16
  · have w50377 := cv_eq (rfl : z50374.toInt = z50374.toInt) (by decide : (4 : Int32).toInt = 4) c50375
    refine lv_aload_n hx hb dX11_where_8 rfl (lv_at hl 0 rfl) ?_
    refine t_get (C := RX11) (T := TX11) (N := 16) X hT m0 g0 rfl rfl 15 (by decide) qw_149 inlX11 rfl dX11_where_9 (fun v50378 hv50378 ov50378 => ?_)
    obtain ⟨z50379, rfl, rz50379⟩ := okV_i ov50378
    refine lv_goto (tgt := 16) hx hb dX11_where_12 (by decide) ?_
    exact t_iret hQ X hT (⟨rfl, rg_all _⟩) (Nat.le_of_ble_eq_true rfl) (Nat.le_of_ble_eq_true rfl) dX11_where_16
set_option maxHeartbeats 4000000 in
set_option maxRecDepth 100000 in
theorem kt138_X11_whose (l : Launch) (G : KG) (tag : Nat → Nat) (L : List Nat) (Fo : Nat → va_E) (ho : okT G ttC tag L Fo) (p0 : Nat) (p1 : Int32) (p2 : Int32) (m0 : p0 ∈ L) (g0 : tag p0 = 26) : TMi l yX11_whose cX11_whose 3 (some .int) { frames := 2, cells := 0, slots := 0, locals := 50 } G ttC tag L Fo [.ref p0, .int p1, .int p2] (fun r F1 => ((-2147483648) ≤ r.toInt ∧ r.toInt ≤ 2147483647) ∧ (∀ b j : Nat, (tag b ≠ 26 ∨ j ≠ 13) → fld F1 b j = fld Fo b j)) := by
  refine t_bodyi (y := yX11_whose) (cd := cX11_whose) (mL := 3) (rt := (some .int)) (rm := { frames := 2, cells := 0, slots := 0, locals := 50 }) (av := [.ref p0, .int p1, .int p2]) (by decide) (Nat.le_of_ble_eq_true rfl) ho ?_
  intro p e s m args below meth c ls A Q hQ X hT hl
  have hx := X.1.1
  have hb := X.1.2.1
  have hl : lv_has ls 3 [(0, .ref p0), (1, .int p1), (2, .int p2)] := hl
  have rp1 := rg_all p1
  have rp2 := rg_all p2
  obtain ⟨F, hFo⟩ : ∃ F : Nat → va_E, F = Fo := ⟨_, rfl⟩
  rw [← hFo] at hT
  have hfr : ∀ b j : Nat, (tag b ≠ 26 ∨ j ≠ 13) → fld F b j = fld Fo b j := by
    rw [hFo]
    intros
    rfl
  have K19 : ∀ (z50578 : Int32) (F : Nat → va_E) (H : Heap) (locs : List Loc) (ls : Array Slot), (0 ≤ z50578.toInt ∧ z50578.toInt ≤ 1) → TH G ttC A s tag L F H locs → (∀ b j : Nat, (tag b ≠ 26 ∨ j ≠ 13) → fld F b j = fld Fo b j) → fld F p0 2 = .int z50578 → lv_has ls 3 [(0, .ref p0), (1, .int p1), (2, .int p2)] → W p l e { frames := 2, cells := 0, slots := 0, locals := 50 } s m args below meth c H locs 0 0 Q (F0 m 19 ls []) := by
    intro z50578 F H locs ls rz50578 hT hfr qz50578 hl
    refine lv_aload_n hx hb dX11_whose_19 rfl (lv_at hl 0 rfl) ?_
    refine lv_iconst (v := 1) hx hb dX11_whose_20 (by decide) ?_
    refine t_cVi (n := 1) (C := RX11) (T := TX11) (N := 16) (As := [.int 1]) (rest := []) X hT (kt63_X11_refuse l G tag L F hT.2.2.2 p0 1 m0 g0) m0 g0 rfl rfl qw_152 qw_153 qw_154 qw_2 qw_155 ⟨rfl, by decide +kernel, by decide +kernel, by decide +kernel⟩ ⟨Nat.le_of_ble_eq_true rfl, Nat.le_of_ble_eq_true rfl⟩ hl rfl rfl (Nat.le_of_ble_eq_true rfl) dX11_whose_21 ⟨Nat.le_of_ble_eq_true rfl, Nat.le_of_ble_eq_true rfl⟩ (fun z50579 F H locs hT hz50579 => ?_)
    obtain ⟨hz50579, yz50579⟩ := hz50579
    have qz50578 := (yz50579 _ 2 (Or.inr (by decide))).trans qz50578
    have hfr : ∀ b j : Nat, (tag b ≠ 26 ∨ j ≠ 13) → fld F b j = fld Fo b j := fun b j n26_13 => (yz50579 b j n26_13).trans (hfr b j n26_13)
    exact t_iret hQ X hT (⟨rg_all _, hfr⟩) (Nat.le_of_ble_eq_true rfl) (Nat.le_of_ble_eq_true rfl) dX11_whose_24
  refine lv_aload_n hx hb dX11_whose_0 rfl (lv_at hl 0 rfl) ?_
  refine t_get (C := RX11) (T := TX11) (N := 16) X hT m0 g0 rfl rfl 2 (by decide) qw_150 inlX11 rfl dX11_whose_1 (fun v50580 hv50580 ov50580 => ?_)
  obtain ⟨z50581, rfl, rz50581⟩ := okV_i ov50580
  refine lv_if_eq (tgt := 19) hx hb dX11_whose_4 (by decide) (fun c50582 => ?_) (fun c50582 => ?_)
  · have w50583 := cv_eq (rfl : z50581.toInt = z50581.toInt) (by decide : (0 : Int32).toInt = 0) c50582
    exact K19 z50581 _ _ _ _ (by omega) hT hfr hv50580 (lv_sub hl [0, 1, 2] rfl)
  · have w50584 := cv_ne (rfl : z50581.toInt = z50581.toInt) (by decide : (0 : Int32).toInt = 0) c50582
    refine lv_aload_n hx hb dX11_whose_7 rfl (lv_at hl 0 rfl) ?_
    refine t_get (C := RX11) (T := TX11) (N := 16) X hT m0 g0 rfl rfl 3 (by decide) qw_18 inlX11 rfl dX11_whose_8 (fun v50585 hv50585 ov50585 => ?_)
    obtain ⟨b50586, rfl, mb50586, gb50586⟩ := okV_r ov50585
    have gb50586 : tag b50586 = 18 := tg_of gb50586
    refine lv_iload_n hx hb dX11_whose_11 rfl (lv_at hl 1 rfl) ?_
    refine lv_iload_n hx hb dX11_whose_12 rfl (lv_at hl 2 rfl) ?_
    refine t_cVi (n := 2) (C := RX1) (T := TX1) (N := 20) (As := [.int p1, .int p2]) (rest := []) X hT (kt6_X1_isOn l G tag L F hT.2.2.2 b50586 p1 p2 mb50586 gb50586) mb50586 gb50586 rfl rfl qw_711 qw_385 qw_386 qw_17 qw_387 ⟨rfl, by decide +kernel, by decide +kernel, by decide +kernel⟩ ⟨Nat.le_of_ble_eq_true rfl, Nat.le_of_ble_eq_true rfl⟩ hl rfl rfl (Nat.le_of_ble_eq_true rfl) dX11_whose_13 ⟨Nat.le_of_ble_eq_true rfl, Nat.le_of_ble_eq_true rfl⟩ (fun z50587 F9 H locs hT hz50587 => ?_)
    obtain ⟨fz50587, hz50587⟩ := hz50587
    rw [fz50587] at hT
    refine lv_if_ne (tgt := 25) hx hb dX11_whose_16 (by decide) (fun c50588 => ?_) (fun c50588 => ?_)
    · have w50589 := cv_ne (rfl : z50587.toInt = z50587.toInt) (by decide : (0 : Int32).toInt = 0) c50588
      refine lv_aload_n hx hb dX11_whose_25 rfl (lv_at hl 0 rfl) ?_
      refine lv_aload_n hx hb dX11_whose_26 rfl (lv_at hl 0 rfl) ?_
      refine t_get (C := RX11) (T := TX11) (N := 16) X hT m0 g0 rfl rfl 3 (by decide) qw_18 inlX11 rfl dX11_whose_27 (fun v50590 hv50590 ov50590 => ?_)
      obtain rfl : v50590 = .ref b50586 := hv50590.symm.trans hv50585
      refine lv_aload_n hx hb dX11_whose_30 rfl (lv_at hl 0 rfl) ?_
      refine t_get (C := RX11) (T := TX11) (N := 16) X hT m0 g0 rfl rfl 5 (by decide) qw_23 inlX11 rfl dX11_whose_31 (fun v50591 hv50591 ov50591 => ?_)
      obtain ⟨b50592, rfl, mb50592, gb50592⟩ := okV_r ov50591
      have gb50592 : tag b50592 = 19 := tg_of gb50592
      refine lv_iload_n hx hb dX11_whose_34 rfl (lv_at hl 1 rfl) ?_
      refine lv_iload_n hx hb dX11_whose_35 rfl (lv_at hl 2 rfl) ?_
      refine t_cSi (n := 4) (As := [.ref b50586, .ref b50592, .int p1, .int p2]) (rest := [.ref p0]) X hT (kt28_X6_ownersOf l G tag L F hT.2.2.2 b50586 b50592 p1 p2 mb50586 gb50586 mb50592 gb50592) qw_712 qw_713 qw_380 qw_714 ⟨by decide +kernel, by decide +kernel, by decide +kernel⟩ ⟨Nat.le_of_ble_eq_true rfl, Nat.le_of_ble_eq_true rfl⟩ hl rfl rfl (Nat.le_of_ble_eq_true rfl) dX11_whose_36 ⟨Nat.le_of_ble_eq_true rfl, Nat.le_of_ble_eq_true rfl⟩ (fun z50593 F9 H locs hT hz50593 => ?_)
      obtain ⟨fz50593, hz50593⟩ := hz50593
      rw [fz50593] at hT
      refine t_cVi (n := 1) (C := RX11) (T := TX11) (N := 16) (As := [.int z50593]) (rest := []) X hT (kt56_X11_answer l G tag L F hT.2.2.2 p0 z50593 m0 g0) m0 g0 rfl rfl qw_463 qw_464 qw_465 qw_2 qw_466 ⟨rfl, by decide +kernel, by decide +kernel, by decide +kernel⟩ ⟨Nat.le_of_ble_eq_true rfl, Nat.le_of_ble_eq_true rfl⟩ hl rfl rfl (Nat.le_of_ble_eq_true rfl) dX11_whose_39 ⟨Nat.le_of_ble_eq_true rfl, Nat.le_of_ble_eq_true rfl⟩ (fun z50594 F H locs hT hz50594 => ?_)
      obtain ⟨hz50594, yz50594⟩ := hz50594
      have hv50580 := (yz50594 _ 2 (Or.inr (by decide))).trans hv50580
      have hv50585 := (yz50594 _ 3 (Or.inr (by decide))).trans hv50585
      have hv50591 := (yz50594 _ 5 (Or.inr (by decide))).trans hv50591
      have hfr : ∀ b j : Nat, (tag b ≠ 26 ∨ j ≠ 13) → fld F b j = fld Fo b j := fun b j n26_13 => (yz50594 b j n26_13).trans (hfr b j n26_13)
      exact t_iret hQ X hT (⟨rg_all _, hfr⟩) (Nat.le_of_ble_eq_true rfl) (Nat.le_of_ble_eq_true rfl) dX11_whose_42
    · have w50595 := cv_eq (rfl : z50587.toInt = z50587.toInt) (by decide : (0 : Int32).toInt = 0) c50588
      exact K19 z50581 _ _ _ _ (by omega) hT hfr hv50580 (lv_sub hl [0, 1, 2] rfl)
