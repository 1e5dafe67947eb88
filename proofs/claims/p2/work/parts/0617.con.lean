set_option maxHeartbeats 4000000 in
set_option maxRecDepth 100000 in
theorem kt417_X11_take (l : Launch) (G : KG) (tag : Nat → Nat) (L : List Nat) (Fo : Nat → va_E) (ho : okT G ttC tag L Fo) (p0 : Nat) (p1 : Int32) (m0 : p0 ∈ L) (g0 : tag p0 = 26) : TMi l yX11_take cX11_take 4 (some .int) { frames := 3, cells := 0, slots := 0, locals := 68 } G ttC tag L Fo [.ref p0, .int p1] (fun r F1 => ((-2147483648) ≤ r.toInt ∧ r.toInt ≤ 2147483647) ∧ ((∀ b j : Nat, (tag b ≠ 19 ∨ j ≠ 0) → (tag b ≠ 19 ∨ j ≠ 1) → (tag b ≠ 23 ∨ j ≠ 2) → (tag b ≠ 23 ∨ j ≠ 3) → (tag b ≠ 26 ∨ j ≠ 13) → fld F1 b j = fld Fo b j) ∧ EF tag F1 Fo)) := by
  refine t_bodyi (y := yX11_take) (cd := cX11_take) (mL := 4) (rt := (some .int)) (rm := { frames := 3, cells := 0, slots := 0, locals := 68 }) (av := [.ref p0, .int p1]) (by decide) (Nat.le_of_ble_eq_true rfl) ho ?_
  intro p e s m args below meth c ls A Q hQ X hT hl
  have hx := X.1.1
  have hb := X.1.2.1
  have hl : lv_has ls 4 [(0, .ref p0), (1, .int p1)] := hl
  have rp1 := rg_all p1
  obtain ⟨F, hFo⟩ : ∃ F : Nat → va_E, F = Fo := ⟨_, rfl⟩
  rw [← hFo] at hT
  have hfr : (∀ b j : Nat, (tag b ≠ 19 ∨ j ≠ 0) → (tag b ≠ 19 ∨ j ≠ 1) → (tag b ≠ 23 ∨ j ≠ 2) → (tag b ≠ 23 ∨ j ≠ 3) → (tag b ≠ 26 ∨ j ≠ 13) → fld F b j = fld Fo b j) ∧ EF tag F Fo := by
    rw [hFo]
    exact ⟨by intros; rfl, fun _ _ _ => rfl⟩
  refine lv_aload_n hx hb dX11_take_0 rfl (lv_at hl 0 rfl) ?_
  refine lv_iload_n hx hb dX11_take_1 rfl (lv_at hl 1 rfl) ?_
  refine t_cVi (n := 1) (C := RX11) (T := TX11) (N := 16) (As := [.int p1]) (rest := []) X hT (kt355_X11_isHouse l G tag L F hT.2.2.2 p0 p1 m0 g0) m0 g0 rfl rfl qw_770 qw_771 qw_772 qw_2 qw_773 ⟨rfl, by decide +kernel, by decide +kernel, by decide +kernel⟩ ⟨Nat.le_of_ble_eq_true rfl, Nat.le_of_ble_eq_true rfl⟩ hl rfl rfl (Nat.le_of_ble_eq_true rfl) dX11_take_2 ⟨Nat.le_of_ble_eq_true rfl, Nat.le_of_ble_eq_true rfl⟩ (fun z133675 F9 H locs hT hz133675 => ?_)
  obtain ⟨fz133675, hz133675⟩ := hz133675
  rw [fz133675] at hT
  obtain ⟨hz133675, iz133675⟩ := hz133675
  refine lv_if_ne (tgt := 14) hx hb dX11_take_5 (by decide) (fun c133676 => ?_) (fun c133676 => ?_)
  · have w133677 := cv_ne (rfl : z133675.toInt = z133675.toInt) (by decide : (0 : Int32).toInt = 0) c133676
    have w133678 := (fun h => (iz133675 h)) (by omega)
    refine lv_aload_n hx hb dX11_take_14 rfl (lv_at hl 0 rfl) ?_
    refine t_get (C := RX11) (T := TX11) (N := 16) X hT m0 g0 rfl rfl 5 (by decide) qw_23 inlX11 rfl dX11_take_15 (fun v133679 hv133679 ov133679 => ?_)
    obtain ⟨b133680, rfl, mb133680, gb133680⟩ := okV_r ov133679
    have gb133680 : tag b133680 = 19 := tg_of gb133680
    refine lv_iload_n hx hb dX11_take_18 rfl (lv_at hl 1 rfl) ?_
    refine t_cVi (n := 1) (C := RX7) (T := TX7) (N := 7) (As := [.int p1]) (rest := []) X hT (kt315_X7_inmost l G tag L F hT.2.2.2 b133680 p1 mb133680 gb133680 (by omega)) mb133680 gb133680 rfl rfl qw_1292 qw_1293 qw_1294 qw_22 qw_1295 ⟨rfl, by decide +kernel, by decide +kernel, by decide +kernel⟩ ⟨Nat.le_of_ble_eq_true rfl, Nat.le_of_ble_eq_true rfl⟩ hl rfl rfl (Nat.le_of_ble_eq_true rfl) dX11_take_19 ⟨Nat.le_of_ble_eq_true rfl, Nat.le_of_ble_eq_true rfl⟩ (fun z133681 F9 H locs hT hz133681 => ?_)
    obtain ⟨fz133681, hz133681⟩ := hz133681
    rw [fz133681] at hT
    refine lv_istore_n (lv' := [(2, .int z133681), (0, .ref p0), (1, .int p1)]) hx hb dX11_take_22 rfl hl (by decide) rfl (fun ls hl => ?_)
    refine lv_iload_n hx hb dX11_take_23 rfl (lv_at hl 0 rfl) ?_
    refine lv_if_ne (tgt := 34) hx hb dX11_take_24 (by decide) (fun c133682 => ?_) (fun c133682 => ?_)
    · have w133683 := cv_ne (rfl : z133681.toInt = z133681.toInt) (by decide : (0 : Int32).toInt = 0) c133682
      refine lv_aload_n hx hb dX11_take_34 rfl (lv_at hl 1 rfl) ?_
      refine lv_iload_n hx hb dX11_take_35 rfl (lv_at hl 2 rfl) ?_
      refine lv_iload_n hx hb dX11_take_36 rfl (lv_at hl 0 rfl) ?_
      refine t_cVi (n := 2) (C := RX11) (T := TX11) (N := 16) (As := [.int p1, .int z133681]) (rest := []) X hT (kt368_X11_isLivedIn l G tag L F hT.2.2.2 p0 p1 z133681 m0 g0) m0 g0 rfl rfl qw_1316 qw_1317 qw_1318 qw_2 qw_1319 ⟨rfl, by decide +kernel, by decide +kernel, by decide +kernel⟩ ⟨Nat.le_of_ble_eq_true rfl, Nat.le_of_ble_eq_true rfl⟩ hl rfl rfl (Nat.le_of_ble_eq_true rfl) dX11_take_37 ⟨Nat.le_of_ble_eq_true rfl, Nat.le_of_ble_eq_true rfl⟩ (fun z133684 F9 H locs hT hz133684 => ?_)
      obtain ⟨fz133684, hz133684⟩ := hz133684
      rw [fz133684] at hT
      refine lv_if_eq (tgt := 49) hx hb dX11_take_40 (by decide) (fun c133685 => ?_) (fun c133685 => ?_)
      · have w133686 := cv_eq (rfl : z133684.toInt = z133684.toInt) (by decide : (0 : Int32).toInt = 0) c133685
        refine lv_aload_n hx hb dX11_take_49 rfl (lv_at hl 1 rfl) ?_
        refine t_get (C := RX11) (T := TX11) (N := 16) X hT m0 g0 rfl rfl 12 (by decide) qw_45 inlX11 rfl dX11_take_50 (fun v133687 hv133687 ov133687 => ?_)
        obtain ⟨b133688, rfl, mb133688, gb133688⟩ := okV_r ov133687
        have gb133688 : tag b133688 = 23 := tg_of gb133688
        refine lv_aload_n hx hb dX11_take_53 rfl (lv_at hl 1 rfl) ?_
        refine t_get (C := RX11) (T := TX11) (N := 16) X hT m0 g0 rfl rfl 5 (by decide) qw_23 inlX11 rfl dX11_take_54 (fun v133689 hv133689 ov133689 => ?_)
        obtain rfl : v133689 = .ref b133680 := hv133689.symm.trans hv133679
        refine t_cVv (n := 1) (C := RX2) (T := TX2) (N := 5) (As := [.ref b133680]) (rest := []) X hT (kt360_X2_keep l G tag L F hT.2.2.2 b133688 b133680 mb133688 gb133688 mb133680 gb133680) mb133688 gb133688 rfl rfl qw_1427 qw_1428 qw_1429 qw_44 qw_1430 ⟨rfl, by decide +kernel, by decide +kernel, by decide +kernel⟩ ⟨Nat.le_of_ble_eq_true rfl, Nat.le_of_ble_eq_true rfl⟩ hl rfl rfl (Nat.le_of_ble_eq_true rfl) dX11_take_57 ⟨Nat.le_of_ble_eq_true rfl, Nat.le_of_ble_eq_true rfl⟩ (fun F H locs hT hz133690 => ?_)
        have yz133690 := hz133690
        have hv133679 := (yz133690.1 _ 5 (Or.inr (by decide)) (Or.inr (by decide)) (Or.inr (by decide)) (Or.inr (by decide))).trans hv133679
        have hv133687 := (yz133690.1 _ 12 (Or.inr (by decide)) (Or.inr (by decide)) (Or.inr (by decide)) (Or.inr (by decide))).trans hv133687
        have hfr : (∀ b j : Nat, (tag b ≠ 19 ∨ j ≠ 0) → (tag b ≠ 19 ∨ j ≠ 1) → (tag b ≠ 23 ∨ j ≠ 2) → (tag b ≠ 23 ∨ j ≠ 3) → (tag b ≠ 26 ∨ j ≠ 13) → fld F b j = fld Fo b j) ∧ EF tag F Fo := ⟨fun b j n19_0 n19_1 n23_2 n23_3 n26_13 => (yz133690.1 b j n19_0 n19_1 n23_2 n23_3).trans (hfr.1 b j n19_0 n19_1 n23_2 n23_3 n26_13), fun b j hb => (yz133690.2 b j hb).trans (hfr.2 b j hb)⟩
        refine lv_aload_n hx hb dX11_take_60 rfl (lv_at hl 1 rfl) ?_
        refine lv_iload_n hx hb dX11_take_61 rfl (lv_at hl 2 rfl) ?_
        refine lv_iload_n hx hb dX11_take_62 rfl (lv_at hl 0 rfl) ?_
        refine t_cVi (n := 2) (C := RX11) (T := TX11) (N := 16) (As := [.int p1, .int z133681]) (rest := []) X hT (kt376_X11_goldIn l G tag L F hT.2.2.2 p0 p1 z133681 m0 g0) m0 g0 rfl rfl qw_1296 qw_1297 qw_1298 qw_2 qw_1299 ⟨rfl, by decide +kernel, by decide +kernel, by decide +kernel⟩ ⟨Nat.le_of_ble_eq_true rfl, Nat.le_of_ble_eq_true rfl⟩ hl rfl rfl (Nat.le_of_ble_eq_true rfl) dX11_take_63 ⟨Nat.le_of_ble_eq_true rfl, Nat.le_of_ble_eq_true rfl⟩ (fun z133691 F9 H locs hT hz133691 => ?_)
        obtain ⟨fz133691, hz133691⟩ := hz133691
        rw [fz133691] at hT
        refine lv_istore_n (lv' := [(3, .int z133691), (2, .int z133681), (0, .ref p0), (1, .int p1)]) hx hb dX11_take_66 rfl hl (by decide) rfl (fun ls hl => ?_)
        refine lv_aload_n hx hb dX11_take_67 rfl (lv_at hl 2 rfl) ?_
        refine t_get (C := RX11) (T := TX11) (N := 16) X hT m0 g0 rfl rfl 5 (by decide) qw_23 inlX11 rfl dX11_take_68 (fun v133692 hv133692 ov133692 => ?_)
        obtain rfl : v133692 = .ref b133680 := hv133692.symm.trans hv133679
        refine t_get (C := RX7) (T := TX7) (N := 7) X hT mb133680 gb133680 rfl rfl 4 (by decide) qw_768 inlX7 rfl dX11_take_71 (fun v133693 hv133693 ov133693 => ?_)
        obtain ⟨b133694, rfl, mb133694, gb133694⟩ := okV_r ov133693
        have gb133694 : tag b133694 = 5 := tg_of gb133694
        refine lv_iload_n hx hb dX11_take_74 rfl (lv_at hl 3 rfl) ?_
        refine lv_sipush (v := 999) hx hb dX11_take_75 (by decide) ?_
        refine lv_aload_n hx hb dX11_take_78 rfl (lv_at hl 2 rfl) ?_
        refine t_get (C := RX11) (T := TX11) (N := 16) X hT m0 g0 rfl rfl 5 (by decide) qw_23 inlX11 rfl dX11_take_79 (fun v133695 hv133695 ov133695 => ?_)
        obtain rfl : v133695 = .ref b133680 := hv133695.symm.trans hv133679
        refine t_get (C := RX7) (T := TX7) (N := 7) X hT mb133680 gb133680 rfl rfl 4 (by decide) qw_768 inlX7 rfl dX11_take_82 (fun v133696 hv133696 ov133696 => ?_)
        obtain rfl : v133696 = .ref b133694 := hv133696.symm.trans hv133693
        refine lv_iload_n hx hb dX11_take_85 rfl (lv_at hl 3 rfl) ?_
        refine t_ild X hT mb133694 gb133694 rfl (by omega) dX11_take_86 (fun z133697 vz133697 rz133697 => ?_)
        have rz133697 : (-2147483648) ≤ z133697.toInt ∧ z133697.toInt ≤ 2147483647 := rz133697
        refine lv_iload_n hx hb dX11_take_87 rfl (lv_at hl 0 rfl) ?_
        refine lv_iadd hx hb dX11_take_88 ?_
        refine lv_topi (fun z133698 ez133698 => ?_)
        have rz133698 := rg_all z133698
        refine t_mmin X hl qw_1480 qw_1018 qw_850 qw_1019 (Nat.le_of_ble_eq_true rfl) (Nat.le_of_ble_eq_true rfl) (Nat.le_of_ble_eq_true rfl) (Nat.le_of_ble_eq_true rfl) dX11_take_89 (fun z133699 ez133699 => ?_)
        have hz133699 := mmin_e ez133699 (by decide : (999 : Int32).toInt = 999) (rfl : z133698.toInt = z133698.toInt)
        refine t_ist X hT mb133694 gb133694 rfl (by omega) (show (-2147483648) ≤ (z133699 : Int32).toInt ∧ (z133699 : Int32).toInt ≤ 2147483647 from (by omega)) dX11_take_92 (fun F H locs hT v133700 h1v133700 h2v133700 => ?_)
        have hv133679 := (h2v133700 _ _).trans hv133679
        have hv133687 := (h2v133700 _ _).trans hv133687
        have hv133693 := (h2v133700 _ _).trans hv133693
        have hfr : (∀ b j : Nat, (tag b ≠ 19 ∨ j ≠ 0) → (tag b ≠ 19 ∨ j ≠ 1) → (tag b ≠ 23 ∨ j ≠ 2) → (tag b ≠ 23 ∨ j ≠ 3) → (tag b ≠ 26 ∨ j ≠ 13) → fld F b j = fld Fo b j) ∧ EF tag F Fo := ⟨fun b j n19_0 n19_1 n23_2 n23_3 n26_13 => (h2v133700 b j).trans (hfr.1 b j n19_0 n19_1 n23_2 n23_3 n26_13), fun b j hb => (h1v133700 b j (Or.inl (ns_ne hb gb133694 (by decide)))).trans (hfr.2 b j hb)⟩
        refine lv_aload_n hx hb dX11_take_93 rfl (lv_at hl 2 rfl) ?_
        refine t_get (C := RX11) (T := TX11) (N := 16) X hT m0 g0 rfl rfl 5 (by decide) qw_23 inlX11 rfl dX11_take_94 (fun v133701 hv133701 ov133701 => ?_)
        obtain rfl : v133701 = .ref b133680 := hv133701.symm.trans hv133679
        refine lv_iload_n hx hb dX11_take_97 rfl (lv_at hl 3 rfl) ?_
        refine lv_iload_n hx hb dX11_take_98 rfl (lv_at hl 1 rfl) ?_
        refine lv_iconst (v := 5) hx hb dX11_take_99 (by decide) ?_
        refine lv_iconst (v := 1) hx hb dX11_take_100 (by decide) ?_
        refine t_cVv (n := 4) (C := RX7) (T := TX7) (N := 7) (As := [.int p1, .int z133681, .int 5, .int 1]) (rest := []) X hT (kt310_X7_setPart l G tag L F hT.2.2.2 b133680 p1 z133681 5 1 mb133680 gb133680) mb133680 gb133680 rfl rfl qw_1459 qw_423 qw_424 qw_22 qw_425 ⟨rfl, by decide +kernel, by decide +kernel, by decide +kernel⟩ ⟨Nat.le_of_ble_eq_true rfl, Nat.le_of_ble_eq_true rfl⟩ hl rfl rfl (Nat.le_of_ble_eq_true rfl) dX11_take_101 ⟨Nat.le_of_ble_eq_true rfl, Nat.le_of_ble_eq_true rfl⟩ (fun F H locs hT hz133702 => ?_)
        have yz133702 := hz133702
        have hv133679 := (yz133702.1 _ 5 ).trans hv133679
        have hv133687 := (yz133702.1 _ 12 ).trans hv133687
        have hv133693 := (yz133702.1 _ 4 ).trans hv133693
        have hfr : (∀ b j : Nat, (tag b ≠ 19 ∨ j ≠ 0) → (tag b ≠ 19 ∨ j ≠ 1) → (tag b ≠ 23 ∨ j ≠ 2) → (tag b ≠ 23 ∨ j ≠ 3) → (tag b ≠ 26 ∨ j ≠ 13) → fld F b j = fld Fo b j) ∧ EF tag F Fo := ⟨fun b j n19_0 n19_1 n23_2 n23_3 n26_13 => (yz133702.1 b j ).trans (hfr.1 b j n19_0 n19_1 n23_2 n23_3 n26_13), fun b j hb => (yz133702.2 b j hb).trans (hfr.2 b j hb)⟩
        refine lv_aload_n hx hb dX11_take_104 rfl (lv_at hl 2 rfl) ?_
        refine t_get (C := RX11) (T := TX11) (N := 16) X hT m0 g0 rfl rfl 5 (by decide) qw_23 inlX11 rfl dX11_take_105 (fun v133703 hv133703 ov133703 => ?_)
        obtain rfl : v133703 = .ref b133680 := hv133703.symm.trans hv133679
        refine lv_iload_n hx hb dX11_take_108 rfl (lv_at hl 3 rfl) ?_
        refine lv_iload_n hx hb dX11_take_109 rfl (lv_at hl 1 rfl) ?_
        refine lv_bipush (v := 6) hx hb dX11_take_110 (by decide) ?_
        refine lv_iconst (v := 0) hx hb dX11_take_112 (by decide) ?_
        refine t_cVv (n := 4) (C := RX7) (T := TX7) (N := 7) (As := [.int p1, .int z133681, .int 6, .int 0]) (rest := []) X hT (kt310_X7_setPart l G tag L F hT.2.2.2 b133680 p1 z133681 6 0 mb133680 gb133680) mb133680 gb133680 rfl rfl qw_1459 qw_423 qw_424 qw_22 qw_425 ⟨rfl, by decide +kernel, by decide +kernel, by decide +kernel⟩ ⟨Nat.le_of_ble_eq_true rfl, Nat.le_of_ble_eq_true rfl⟩ hl rfl rfl (Nat.le_of_ble_eq_true rfl) dX11_take_113 ⟨Nat.le_of_ble_eq_true rfl, Nat.le_of_ble_eq_true rfl⟩ (fun F H locs hT hz133704 => ?_)
        have yz133704 := hz133704
        have hv133679 := (yz133704.1 _ 5 ).trans hv133679
        have hv133687 := (yz133704.1 _ 12 ).trans hv133687
        have hv133693 := (yz133704.1 _ 4 ).trans hv133693
        have hfr : (∀ b j : Nat, (tag b ≠ 19 ∨ j ≠ 0) → (tag b ≠ 19 ∨ j ≠ 1) → (tag b ≠ 23 ∨ j ≠ 2) → (tag b ≠ 23 ∨ j ≠ 3) → (tag b ≠ 26 ∨ j ≠ 13) → fld F b j = fld Fo b j) ∧ EF tag F Fo := ⟨fun b j n19_0 n19_1 n23_2 n23_3 n26_13 => (yz133704.1 b j ).trans (hfr.1 b j n19_0 n19_1 n23_2 n23_3 n26_13), fun b j hb => (yz133704.2 b j hb).trans (hfr.2 b j hb)⟩
        refine lv_aload_n hx hb dX11_take_116 rfl (lv_at hl 2 rfl) ?_
        refine lv_iload_n hx hb dX11_take_117 rfl (lv_at hl 0 rfl) ?_
        refine t_cVi (n := 1) (C := RX11) (T := TX11) (N := 16) (As := [.int z133691]) (rest := []) X hT (kt350_X11_answer l G tag L F hT.2.2.2 p0 z133691 m0 g0) m0 g0 rfl rfl qw_463 qw_464 qw_465 qw_2 qw_466 ⟨rfl, by decide +kernel, by decide +kernel, by decide +kernel⟩ ⟨Nat.le_of_ble_eq_true rfl, Nat.le_of_ble_eq_true rfl⟩ hl rfl rfl (Nat.le_of_ble_eq_true rfl) dX11_take_118 ⟨Nat.le_of_ble_eq_true rfl, Nat.le_of_ble_eq_true rfl⟩ (fun z133705 F H locs hT hz133705 => ?_)
        obtain ⟨hz133705, yz133705⟩ := hz133705
        have hv133679 := (yz133705.1 _ 5 (Or.inr (by decide))).trans hv133679
        have hv133687 := (yz133705.1 _ 12 (Or.inr (by decide))).trans hv133687
        have hv133693 := (yz133705.1 _ 4 (Or.inr (by decide))).trans hv133693
        have hfr : (∀ b j : Nat, (tag b ≠ 19 ∨ j ≠ 0) → (tag b ≠ 19 ∨ j ≠ 1) → (tag b ≠ 23 ∨ j ≠ 2) → (tag b ≠ 23 ∨ j ≠ 3) → (tag b ≠ 26 ∨ j ≠ 13) → fld F b j = fld Fo b j) ∧ EF tag F Fo := ⟨fun b j n19_0 n19_1 n23_2 n23_3 n26_13 => (yz133705.1 b j n26_13).trans (hfr.1 b j n19_0 n19_1 n23_2 n23_3 n26_13), fun b j hb => (yz133705.2 b j hb).trans (hfr.2 b j hb)⟩
        exact t_iret hQ X hT (⟨rg_all _, hfr⟩) (Nat.le_of_ble_eq_true rfl) (Nat.le_of_ble_eq_true rfl) dX11_take_121
      · have w133706 := cv_ne (rfl : z133684.toInt = z133684.toInt) (by decide : (0 : Int32).toInt = 0) c133685
        refine lv_aload_n hx hb dX11_take_43 rfl (lv_at hl 1 rfl) ?_
        refine lv_iconst (v := 5) hx hb dX11_take_44 (by decide) ?_
        refine t_cVi (n := 1) (C := RX11) (T := TX11) (N := 16) (As := [.int 5]) (rest := []) X hT (kt357_X11_refuse l G tag L F hT.2.2.2 p0 5 m0 g0) m0 g0 rfl rfl qw_152 qw_153 qw_154 qw_2 qw_155 ⟨rfl, by decide +kernel, by decide +kernel, by decide +kernel⟩ ⟨Nat.le_of_ble_eq_true rfl, Nat.le_of_ble_eq_true rfl⟩ hl rfl rfl (Nat.le_of_ble_eq_true rfl) dX11_take_45 ⟨Nat.le_of_ble_eq_true rfl, Nat.le_of_ble_eq_true rfl⟩ (fun z133707 F H locs hT hz133707 => ?_)
        obtain ⟨hz133707, yz133707⟩ := hz133707
        have hv133679 := (yz133707.1 _ 5 (Or.inr (by decide))).trans hv133679
        have hfr : (∀ b j : Nat, (tag b ≠ 19 ∨ j ≠ 0) → (tag b ≠ 19 ∨ j ≠ 1) → (tag b ≠ 23 ∨ j ≠ 2) → (tag b ≠ 23 ∨ j ≠ 3) → (tag b ≠ 26 ∨ j ≠ 13) → fld F b j = fld Fo b j) ∧ EF tag F Fo := ⟨fun b j n19_0 n19_1 n23_2 n23_3 n26_13 => (yz133707.1 b j n26_13).trans (hfr.1 b j n19_0 n19_1 n23_2 n23_3 n26_13), fun b j hb => (yz133707.2 b j hb).trans (hfr.2 b j hb)⟩
        exact t_iret hQ X hT (⟨rg_all _, hfr⟩) (Nat.le_of_ble_eq_true rfl) (Nat.le_of_ble_eq_true rfl) dX11_take_48
    · have w133708 := cv_eq (rfl : z133681.toInt = z133681.toInt) (by decide : (0 : Int32).toInt = 0) c133682
      refine lv_aload_n hx hb dX11_take_27 rfl (lv_at hl 1 rfl) ?_
      refine lv_bipush (v := 6) hx hb dX11_take_28 (by decide) ?_
      refine t_cVi (n := 1) (C := RX11) (T := TX11) (N := 16) (As := [.int 6]) (rest := []) X hT (kt357_X11_refuse l G tag L F hT.2.2.2 p0 6 m0 g0) m0 g0 rfl rfl qw_152 qw_153 qw_154 qw_2 qw_155 ⟨rfl, by decide +kernel, by decide +kernel, by decide +kernel⟩ ⟨Nat.le_of_ble_eq_true rfl, Nat.le_of_ble_eq_true rfl⟩ hl rfl rfl (Nat.le_of_ble_eq_true rfl) dX11_take_30 ⟨Nat.le_of_ble_eq_true rfl, Nat.le_of_ble_eq_true rfl⟩ (fun z133709 F H locs hT hz133709 => ?_)
      obtain ⟨hz133709, yz133709⟩ := hz133709
      have hv133679 := (yz133709.1 _ 5 (Or.inr (by decide))).trans hv133679
      have hfr : (∀ b j : Nat, (tag b ≠ 19 ∨ j ≠ 0) → (tag b ≠ 19 ∨ j ≠ 1) → (tag b ≠ 23 ∨ j ≠ 2) → (tag b ≠ 23 ∨ j ≠ 3) → (tag b ≠ 26 ∨ j ≠ 13) → fld F b j = fld Fo b j) ∧ EF tag F Fo := ⟨fun b j n19_0 n19_1 n23_2 n23_3 n26_13 => (yz133709.1 b j n26_13).trans (hfr.1 b j n19_0 n19_1 n23_2 n23_3 n26_13), fun b j hb => (yz133709.2 b j hb).trans (hfr.2 b j hb)⟩
      exact t_iret hQ X hT (⟨rg_all _, hfr⟩) (Nat.le_of_ble_eq_true rfl) (Nat.le_of_ble_eq_true rfl) dX11_take_33
  · have w133710 := cv_eq (rfl : z133675.toInt = z133675.toInt) (by decide : (0 : Int32).toInt = 0) c133676
    refine lv_aload_n hx hb dX11_take_8 rfl (lv_at hl 0 rfl) ?_
    refine lv_iconst (v := 1) hx hb dX11_take_9 (by decide) ?_
    refine t_cVi (n := 1) (C := RX11) (T := TX11) (N := 16) (As := [.int 1]) (rest := []) X hT (kt357_X11_refuse l G tag L F hT.2.2.2 p0 1 m0 g0) m0 g0 rfl rfl qw_152 qw_153 qw_154 qw_2 qw_155 ⟨rfl, by decide +kernel, by decide +kernel, by decide +kernel⟩ ⟨Nat.le_of_ble_eq_true rfl, Nat.le_of_ble_eq_true rfl⟩ hl rfl rfl (Nat.le_of_ble_eq_true rfl) dX11_take_10 ⟨Nat.le_of_ble_eq_true rfl, Nat.le_of_ble_eq_true rfl⟩ (fun z133711 F H locs hT hz133711 => ?_)
    obtain ⟨hz133711, yz133711⟩ := hz133711
    have hfr : (∀ b j : Nat, (tag b ≠ 19 ∨ j ≠ 0) → (tag b ≠ 19 ∨ j ≠ 1) → (tag b ≠ 23 ∨ j ≠ 2) → (tag b ≠ 23 ∨ j ≠ 3) → (tag b ≠ 26 ∨ j ≠ 13) → fld F b j = fld Fo b j) ∧ EF tag F Fo := ⟨fun b j n19_0 n19_1 n23_2 n23_3 n26_13 => (yz133711.1 b j n26_13).trans (hfr.1 b j n19_0 n19_1 n23_2 n23_3 n26_13), fun b j hb => (yz133711.2 b j hb).trans (hfr.2 b j hb)⟩
    exact t_iret hQ X hT (⟨rg_all _, hfr⟩) (Nat.le_of_ble_eq_true rfl) (Nat.le_of_ble_eq_true rfl) dX11_take_13
set_option maxHeartbeats 4000000 in
set_option maxRecDepth 100000 in
theorem kt418_X11_takes (l : Launch) (G : KG) (tag : Nat → Nat) (L : List Nat) (Fo : Nat → va_E) (ho : okT G ttC tag L Fo) (p0 : Nat) (p1 : Int32) (m0 : p0 ∈ L) (g0 : tag p0 = 26) : TMi l yX11_takes cX11_takes 3 (some .int) { frames := 3, cells := 0, slots := 0, locals := 68 } G ttC tag L Fo [.ref p0, .int p1] (fun r F1 => ((-2147483648) ≤ r.toInt ∧ r.toInt ≤ 2147483647) ∧ ((∀ b j : Nat, (tag b ≠ 26 ∨ j ≠ 13) → fld F1 b j = fld Fo b j) ∧ EF tag F1 Fo)) := by
  refine t_bodyi (y := yX11_takes) (cd := cX11_takes) (mL := 3) (rt := (some .int)) (rm := { frames := 3, cells := 0, slots := 0, locals := 68 }) (av := [.ref p0, .int p1]) (by decide) (Nat.le_of_ble_eq_true rfl) ho ?_
  intro p e s m args below meth c ls A Q hQ X hT hl
  have hx := X.1.1
  have hb := X.1.2.1
  have hl : lv_has ls 3 [(0, .ref p0), (1, .int p1)] := hl
  have rp1 := rg_all p1
  obtain ⟨F, hFo⟩ : ∃ F : Nat → va_E, F = Fo := ⟨_, rfl⟩
  rw [← hFo] at hT
  have hfr : (∀ b j : Nat, (tag b ≠ 26 ∨ j ≠ 13) → fld F b j = fld Fo b j) ∧ EF tag F Fo := by
    rw [hFo]
    exact ⟨by intros; rfl, fun _ _ _ => rfl⟩
  have K39 : ∀ (z133889 : Int32) (z133890 : Int32) (b133891 : Nat) (F : Nat → va_E) (H : Heap) (locs : List Loc) (ls : Array Slot), (0 ≤ z133889.toInt ∧ z133889.toInt ≤ 6) → (b133891 ∈ L) → (tag b133891 = 26) → (0 ≤ p1.toInt ∧ p1.toInt ≤ 3) → TH G ttC A s tag L F H locs → ((∀ b j : Nat, (tag b ≠ 26 ∨ j ≠ 13) → fld F b j = fld Fo b j) ∧ EF tag F Fo) → lv_has ls 3 [(0, .ref p0), (1, .int p1), (2, .int z133889)] → W p l e { frames := 3, cells := 0, slots := 0, locals := 68 } s m args below meth c H locs 0 0 Q (F0 m 39 ls [.int z133890, .ref b133891]) := by
    intro z133889 z133890 b133891 F H locs ls rz133889 mb133891 gb133891 r9s133888 hT hfr hl
    have rz133890 := rg_all z133890
    refine t_cVi (n := 1) (C := RX11) (T := TX11) (N := 16) (As := [.int z133890]) (rest := []) X hT (kt350_X11_answer l G tag L F hT.2.2.2 b133891 z133890 mb133891 gb133891) mb133891 gb133891 rfl rfl qw_463 qw_464 qw_465 qw_2 qw_466 ⟨rfl, by decide +kernel, by decide +kernel, by decide +kernel⟩ ⟨Nat.le_of_ble_eq_true rfl, Nat.le_of_ble_eq_true rfl⟩ hl rfl rfl (Nat.le_of_ble_eq_true rfl) dX11_takes_39 ⟨Nat.le_of_ble_eq_true rfl, Nat.le_of_ble_eq_true rfl⟩ (fun z133892 F H locs hT hz133892 => ?_)
    obtain ⟨hz133892, yz133892⟩ := hz133892
    have hfr : (∀ b j : Nat, (tag b ≠ 26 ∨ j ≠ 13) → fld F b j = fld Fo b j) ∧ EF tag F Fo := ⟨fun b j n26_13 => (yz133892.1 b j n26_13).trans (hfr.1 b j n26_13), fun b j hb => (yz133892.2 b j hb).trans (hfr.2 b j hb)⟩
    exact t_iret hQ X hT (⟨rg_all _, hfr⟩) (Nat.le_of_ble_eq_true rfl) (Nat.le_of_ble_eq_true rfl) dX11_takes_42
  refine lv_aload_n hx hb dX11_takes_0 rfl (lv_at hl 0 rfl) ?_
  refine lv_iload_n hx hb dX11_takes_1 rfl (lv_at hl 1 rfl) ?_
  refine t_cVi (n := 1) (C := RX11) (T := TX11) (N := 16) (As := [.int p1]) (rest := []) X hT (kt355_X11_isHouse l G tag L F hT.2.2.2 p0 p1 m0 g0) m0 g0 rfl rfl qw_770 qw_771 qw_772 qw_2 qw_773 ⟨rfl, by decide +kernel, by decide +kernel, by decide +kernel⟩ ⟨Nat.le_of_ble_eq_true rfl, Nat.le_of_ble_eq_true rfl⟩ hl rfl rfl (Nat.le_of_ble_eq_true rfl) dX11_takes_2 ⟨Nat.le_of_ble_eq_true rfl, Nat.le_of_ble_eq_true rfl⟩ (fun z133893 F9 H locs hT hz133893 => ?_)
  obtain ⟨fz133893, hz133893⟩ := hz133893
  rw [fz133893] at hT
  obtain ⟨hz133893, iz133893⟩ := hz133893
  refine lv_if_ne (tgt := 14) hx hb dX11_takes_5 (by decide) (fun c133894 => ?_) (fun c133894 => ?_)
  · have w133895 := cv_ne (rfl : z133893.toInt = z133893.toInt) (by decide : (0 : Int32).toInt = 0) c133894
    have w133896 := (fun h => (iz133893 h)) (by omega)
    refine lv_aload_n hx hb dX11_takes_14 rfl (lv_at hl 0 rfl) ?_
    refine t_get (C := RX11) (T := TX11) (N := 16) X hT m0 g0 rfl rfl 5 (by decide) qw_23 inlX11 rfl dX11_takes_15 (fun v133897 hv133897 ov133897 => ?_)
    obtain ⟨b133898, rfl, mb133898, gb133898⟩ := okV_r ov133897
    have gb133898 : tag b133898 = 19 := tg_of gb133898
    refine lv_iload_n hx hb dX11_takes_18 rfl (lv_at hl 1 rfl) ?_
    refine t_cVi (n := 1) (C := RX7) (T := TX7) (N := 7) (As := [.int p1]) (rest := []) X hT (kt315_X7_inmost l G tag L F hT.2.2.2 b133898 p1 mb133898 gb133898 (by omega)) mb133898 gb133898 rfl rfl qw_1292 qw_1293 qw_1294 qw_22 qw_1295 ⟨rfl, by decide +kernel, by decide +kernel, by decide +kernel⟩ ⟨Nat.le_of_ble_eq_true rfl, Nat.le_of_ble_eq_true rfl⟩ hl rfl rfl (Nat.le_of_ble_eq_true rfl) dX11_takes_19 ⟨Nat.le_of_ble_eq_true rfl, Nat.le_of_ble_eq_true rfl⟩ (fun z133899 F9 H locs hT hz133899 => ?_)
    obtain ⟨fz133899, hz133899⟩ := hz133899
    rw [fz133899] at hT
    refine lv_istore_n (lv' := [(2, .int z133899), (0, .ref p0), (1, .int p1)]) hx hb dX11_takes_22 rfl hl (by decide) rfl (fun ls hl => ?_)
    refine lv_aload_n hx hb dX11_takes_23 rfl (lv_at hl 1 rfl) ?_
    refine lv_iload_n hx hb dX11_takes_24 rfl (lv_at hl 0 rfl) ?_
    refine lv_if_ne (tgt := 33) hx hb dX11_takes_25 (by decide) (fun c133900 => ?_) (fun c133900 => ?_)
    · have w133901 := cv_ne (rfl : z133899.toInt = z133899.toInt) (by decide : (0 : Int32).toInt = 0) c133900
      refine lv_aload_n hx hb dX11_takes_33 rfl (lv_at hl 1 rfl) ?_
      refine lv_iload_n hx hb dX11_takes_34 rfl (lv_at hl 2 rfl) ?_
      refine lv_iload_n hx hb dX11_takes_35 rfl (lv_at hl 0 rfl) ?_
      refine t_cVi (n := 2) (C := RX11) (T := TX11) (N := 16) (As := [.int p1, .int z133899]) (rest := [.ref p0]) X hT (kt376_X11_goldIn l G tag L F hT.2.2.2 p0 p1 z133899 m0 g0) m0 g0 rfl rfl qw_1296 qw_1297 qw_1298 qw_2 qw_1299 ⟨rfl, by decide +kernel, by decide +kernel, by decide +kernel⟩ ⟨Nat.le_of_ble_eq_true rfl, Nat.le_of_ble_eq_true rfl⟩ hl rfl rfl (Nat.le_of_ble_eq_true rfl) dX11_takes_36 ⟨Nat.le_of_ble_eq_true rfl, Nat.le_of_ble_eq_true rfl⟩ (fun z133902 F9 H locs hT hz133902 => ?_)
      obtain ⟨fz133902, hz133902⟩ := hz133902
      rw [fz133902] at hT
      exact K39 z133899 z133902 p0 _ _ _ _ (by omega) m0 g0 (by omega) hT hfr  (lv_sub hl [1, 2, 0] rfl)
    · have w133903 := cv_eq (rfl : z133899.toInt = z133899.toInt) (by decide : (0 : Int32).toInt = 0) c133900
      refine lv_bipush (v := (-2)) hx hb dX11_takes_28 (by decide) ?_
      refine lv_goto (tgt := 39) hx hb dX11_takes_30 (by decide) ?_
      exact K39 z133899 (-2) p0 _ _ _ _ (by omega) m0 g0 (by omega) hT hfr  (lv_sub hl [1, 2, 0] rfl)
  · have w133904 := cv_eq (rfl : z133893.toInt = z133893.toInt) (by decide : (0 : Int32).toInt = 0) c133894
    refine lv_aload_n hx hb dX11_takes_8 rfl (lv_at hl 0 rfl) ?_
    refine lv_iconst (v := 1) hx hb dX11_takes_9 (by decide) ?_
    refine t_cVi (n := 1) (C := RX11) (T := TX11) (N := 16) (As := [.int 1]) (rest := []) X hT (kt357_X11_refuse l G tag L F hT.2.2.2 p0 1 m0 g0) m0 g0 rfl rfl qw_152 qw_153 qw_154 qw_2 qw_155 ⟨rfl, by decide +kernel, by decide +kernel, by decide +kernel⟩ ⟨Nat.le_of_ble_eq_true rfl, Nat.le_of_ble_eq_true rfl⟩ hl rfl rfl (Nat.le_of_ble_eq_true rfl) dX11_takes_10 ⟨Nat.le_of_ble_eq_true rfl, Nat.le_of_ble_eq_true rfl⟩ (fun z133905 F H locs hT hz133905 => ?_)
    obtain ⟨hz133905, yz133905⟩ := hz133905
    have hfr : (∀ b j : Nat, (tag b ≠ 26 ∨ j ≠ 13) → fld F b j = fld Fo b j) ∧ EF tag F Fo := ⟨fun b j n26_13 => (yz133905.1 b j n26_13).trans (hfr.1 b j n26_13), fun b j hb => (yz133905.2 b j hb).trans (hfr.2 b j hb)⟩
    exact t_iret hQ X hT (⟨rg_all _, hfr⟩) (Nat.le_of_ble_eq_true rfl) (Nat.le_of_ble_eq_true rfl) dX11_takes_13
set_option maxHeartbeats 4000000 in
set_option maxRecDepth 100000 in
theorem kt419_X11_through (l : Launch) (G : KG) (tag : Nat → Nat) (L : List Nat) (Fo : Nat → va_E) (ho : okT G ttC tag L Fo) (p0 : Nat) (p1 : Int32) (p2 : Int32) (m0 : p0 ∈ L) (g0 : tag p0 = 26) : TMi l yX11_through cX11_through 3 (some .int) { frames := 6, cells := 0, slots := 0, locals := 149 } G ttC tag L Fo [.ref p0, .int p1, .int p2] (fun r F1 => ((-2147483648) ≤ r.toInt ∧ r.toInt ≤ 2147483647) ∧ ((∀ b j : Nat, (tag b ≠ 21 ∨ j ≠ 0) → (tag b ≠ 21 ∨ j ≠ 1) → (tag b ≠ 26 ∨ j ≠ 13) → fld F1 b j = fld Fo b j) ∧ EF tag F1 Fo)) := by
  refine t_bodyi (y := yX11_through) (cd := cX11_through) (mL := 3) (rt := (some .int)) (rm := { frames := 6, cells := 0, slots := 0, locals := 149 }) (av := [.ref p0, .int p1, .int p2]) (by decide) (Nat.le_of_ble_eq_true rfl) ho ?_
  intro p e s m args below meth c ls A Q hQ X hT hl
  have hx := X.1.1
  have hb := X.1.2.1
  have hl : lv_has ls 3 [(0, .ref p0), (1, .int p1), (2, .int p2)] := hl
  have rp1 := rg_all p1
  have rp2 := rg_all p2
  obtain ⟨F, hFo⟩ : ∃ F : Nat → va_E, F = Fo := ⟨_, rfl⟩
  rw [← hFo] at hT
  have hfr : (∀ b j : Nat, (tag b ≠ 21 ∨ j ≠ 0) → (tag b ≠ 21 ∨ j ≠ 1) → (tag b ≠ 26 ∨ j ≠ 13) → fld F b j = fld Fo b j) ∧ EF tag F Fo := by
    rw [hFo]
    exact ⟨by intros; rfl, fun _ _ _ => rfl⟩
  refine lv_aload_n hx hb dX11_through_0 rfl (lv_at hl 0 rfl) ?_
  refine lv_iload_n hx hb dX11_through_1 rfl (lv_at hl 1 rfl) ?_
  refine lv_iload_n hx hb dX11_through_2 rfl (lv_at hl 2 rfl) ?_
  refine t_cVi (n := 2) (C := RX11) (T := TX11) (N := 16) (As := [.int p1, .int p2]) (rest := []) X hT (kt356_X11_isRoom l G tag L F hT.2.2.2 p0 p1 p2 m0 g0) m0 g0 rfl rfl qw_827 qw_828 qw_829 qw_2 qw_830 ⟨rfl, by decide +kernel, by decide +kernel, by decide +kernel⟩ ⟨Nat.le_of_ble_eq_true rfl, Nat.le_of_ble_eq_true rfl⟩ hl rfl rfl (Nat.le_of_ble_eq_true rfl) dX11_through_3 ⟨Nat.le_of_ble_eq_true rfl, Nat.le_of_ble_eq_true rfl⟩ (fun z134082 F9 H locs hT hz134082 => ?_)
  obtain ⟨fz134082, hz134082⟩ := hz134082
  rw [fz134082] at hT
  obtain ⟨hz134082, iz134082⟩ := hz134082
  refine lv_if_ne (tgt := 15) hx hb dX11_through_6 (by decide) (fun c134083 => ?_) (fun c134083 => ?_)
  · have w134084 := cv_ne (rfl : z134082.toInt = z134082.toInt) (by decide : (0 : Int32).toInt = 0) c134083
    have w134085 := (fun h => (iz134082 h).1) (by omega)
    have w134086 := (fun h => (iz134082 h).2) (by omega)
    refine lv_aload_n hx hb dX11_through_15 rfl (lv_at hl 0 rfl) ?_
    refine lv_aload_n hx hb dX11_through_16 rfl (lv_at hl 0 rfl) ?_
    refine t_get (C := RX11) (T := TX11) (N := 16) X hT m0 g0 rfl rfl 10 (by decide) qw_37 inlX11 rfl dX11_through_17 (fun v134087 hv134087 ov134087 => ?_)
    obtain ⟨b134088, rfl, mb134088, gb134088⟩ := okV_r ov134087
    have gb134088 : tag b134088 = 21 := tg_of gb134088
    refine lv_aload_n hx hb dX11_through_20 rfl (lv_at hl 0 rfl) ?_
    refine t_get (C := RX11) (T := TX11) (N := 16) X hT m0 g0 rfl rfl 3 (by decide) qw_18 inlX11 rfl dX11_through_21 (fun v134089 hv134089 ov134089 => ?_)
    obtain ⟨b134090, rfl, mb134090, gb134090⟩ := okV_r ov134089
    have gb134090 : tag b134090 = 18 := tg_of gb134090
    refine lv_aload_n hx hb dX11_through_24 rfl (lv_at hl 0 rfl) ?_
    refine t_get (C := RX11) (T := TX11) (N := 16) X hT m0 g0 rfl rfl 5 (by decide) qw_23 inlX11 rfl dX11_through_25 (fun v134091 hv134091 ov134091 => ?_)
    obtain ⟨b134092, rfl, mb134092, gb134092⟩ := okV_r ov134091
    have gb134092 : tag b134092 = 19 := tg_of gb134092
    refine lv_iload_n hx hb dX11_through_28 rfl (lv_at hl 1 rfl) ?_
    refine lv_iload_n hx hb dX11_through_29 rfl (lv_at hl 2 rfl) ?_
    refine t_cVi (n := 4) (C := RX0) (T := TX0) (N := 2) (As := [.ref b134090, .ref b134092, .int p1, .int p2]) (rest := [.ref p0]) X hT (kt335_X0_cheapest l G tag L F hT.2.2.2 b134088 b134090 b134092 p1 p2 mb134088 gb134088 mb134090 gb134090 mb134092 gb134092 (by omega)) mb134088 gb134088 rfl rfl qw_1012 qw_1013 qw_1014 qw_36 qw_1015 ⟨rfl, by decide +kernel, by decide +kernel, by decide +kernel⟩ ⟨Nat.le_of_ble_eq_true rfl, Nat.le_of_ble_eq_true rfl⟩ hl rfl rfl (Nat.le_of_ble_eq_true rfl) dX11_through_30 ⟨Nat.le_of_ble_eq_true rfl, Nat.le_of_ble_eq_true rfl⟩ (fun z134093 F H locs hT hz134093 => ?_)
    obtain ⟨hz134093, yz134093⟩ := hz134093
    have hv134087 := (yz134093.1 _ 10 (Or.inr (by decide)) (Or.inr (by decide))).trans hv134087
    have hv134089 := (yz134093.1 _ 3 (Or.inr (by decide)) (Or.inr (by decide))).trans hv134089
    have hv134091 := (yz134093.1 _ 5 (Or.inr (by decide)) (Or.inr (by decide))).trans hv134091
    have hfr : (∀ b j : Nat, (tag b ≠ 21 ∨ j ≠ 0) → (tag b ≠ 21 ∨ j ≠ 1) → (tag b ≠ 26 ∨ j ≠ 13) → fld F b j = fld Fo b j) ∧ EF tag F Fo := ⟨fun b j n21_0 n21_1 n26_13 => (yz134093.1 b j n21_0 n21_1).trans (hfr.1 b j n21_0 n21_1 n26_13), fun b j hb => (yz134093.2 b j hb).trans (hfr.2 b j hb)⟩
    refine lv_bipush (v := 8) hx hb dX11_through_33 (by decide) ?_
    refine lv_idiv hx hb dX11_through_35 (by decide) ?_
    refine lv_topi (fun z134094 ez134094 => ?_)
    have rz134094 := rg_all z134094
    refine t_cVi (n := 1) (C := RX11) (T := TX11) (N := 16) (As := [.int z134094]) (rest := []) X hT (kt350_X11_answer l G tag L F hT.2.2.2 p0 z134094 m0 g0) m0 g0 rfl rfl qw_463 qw_464 qw_465 qw_2 qw_466 ⟨rfl, by decide +kernel, by decide +kernel, by decide +kernel⟩ ⟨Nat.le_of_ble_eq_true rfl, Nat.le_of_ble_eq_true rfl⟩ hl rfl rfl (Nat.le_of_ble_eq_true rfl) dX11_through_36 ⟨Nat.le_of_ble_eq_true rfl, Nat.le_of_ble_eq_true rfl⟩ (fun z134095 F H locs hT hz134095 => ?_)
    obtain ⟨hz134095, yz134095⟩ := hz134095
    have hv134087 := (yz134095.1 _ 10 (Or.inr (by decide))).trans hv134087
    have hv134089 := (yz134095.1 _ 3 (Or.inr (by decide))).trans hv134089
    have hv134091 := (yz134095.1 _ 5 (Or.inr (by decide))).trans hv134091
    have hfr : (∀ b j : Nat, (tag b ≠ 21 ∨ j ≠ 0) → (tag b ≠ 21 ∨ j ≠ 1) → (tag b ≠ 26 ∨ j ≠ 13) → fld F b j = fld Fo b j) ∧ EF tag F Fo := ⟨fun b j n21_0 n21_1 n26_13 => (yz134095.1 b j n26_13).trans (hfr.1 b j n21_0 n21_1 n26_13), fun b j hb => (yz134095.2 b j hb).trans (hfr.2 b j hb)⟩
    exact t_iret hQ X hT (⟨rg_all _, hfr⟩) (Nat.le_of_ble_eq_true rfl) (Nat.le_of_ble_eq_true rfl) dX11_through_39
  · have w134096 := cv_eq (rfl : z134082.toInt = z134082.toInt) (by decide : (0 : Int32).toInt = 0) c134083
    refine lv_aload_n hx hb dX11_through_9 rfl (lv_at hl 0 rfl) ?_
    refine lv_iconst (v := 1) hx hb dX11_through_10 (by decide) ?_
    refine t_cVi (n := 1) (C := RX11) (T := TX11) (N := 16) (As := [.int 1]) (rest := []) X hT (kt357_X11_refuse l G tag L F hT.2.2.2 p0 1 m0 g0) m0 g0 rfl rfl qw_152 qw_153 qw_154 qw_2 qw_155 ⟨rfl, by decide +kernel, by decide +kernel, by decide +kernel⟩ ⟨Nat.le_of_ble_eq_true rfl, Nat.le_of_ble_eq_true rfl⟩ hl rfl rfl (Nat.le_of_ble_eq_true rfl) dX11_through_11 ⟨Nat.le_of_ble_eq_true rfl, Nat.le_of_ble_eq_true rfl⟩ (fun z134097 F H locs hT hz134097 => ?_)
    obtain ⟨hz134097, yz134097⟩ := hz134097
    have hfr : (∀ b j : Nat, (tag b ≠ 21 ∨ j ≠ 0) → (tag b ≠ 21 ∨ j ≠ 1) → (tag b ≠ 26 ∨ j ≠ 13) → fld F b j = fld Fo b j) ∧ EF tag F Fo := ⟨fun b j n21_0 n21_1 n26_13 => (yz134097.1 b j n26_13).trans (hfr.1 b j n21_0 n21_1 n26_13), fun b j hb => (yz134097.2 b j hb).trans (hfr.2 b j hb)⟩
    exact t_iret hQ X hT (⟨rg_all _, hfr⟩) (Nat.le_of_ble_eq_true rfl) (Nat.le_of_ble_eq_true rfl) dX11_through_14
set_option maxHeartbeats 4000000 in
set_option maxRecDepth 100000 in
theorem kt420_X11_trouble (l : Launch) (G : KG) (tag : Nat → Nat) (L : List Nat) (F : Nat → va_E) (ho : okT G ttC tag L F) (p0 : Nat) (m0 : p0 ∈ L) (g0 : tag p0 = 26) : TMi l yX11_trouble cX11_trouble 1 (some .int) { frames := 0, cells := 0, slots := 0, locals := 0 } G ttC tag L F [.ref p0] (fun r F1 => F1 = F ∧ ((-2147483648) ≤ r.toInt ∧ r.toInt ≤ 2147483647)) := by
  refine t_bodyi (y := yX11_trouble) (cd := cX11_trouble) (mL := 1) (rt := (some .int)) (rm := { frames := 0, cells := 0, slots := 0, locals := 0 }) (av := [.ref p0]) (by decide) (Nat.le_of_ble_eq_true rfl) ho ?_
  intro p e s m args below meth c ls A Q hQ X hT hl
  have hx := X.1.1
  have hb := X.1.2.1
  have hl : lv_has ls 1 [(0, .ref p0)] := hl
  refine lv_aload_n hx hb dX11_trouble_0 rfl (lv_at hl 0 rfl) ?_
  refine t_get (C := RX11) (T := TX11) (N := 16) X hT m0 g0 rfl rfl 13 (by decide) qw_156 inlX11 rfl dX11_trouble_1 (fun v134120 hv134120 ov134120 => ?_)
  obtain ⟨z134121, rfl, rz134121⟩ := okV_i ov134120
  exact t_iret hQ X hT (⟨rfl, rg_all _⟩) (Nat.le_of_ble_eq_true rfl) (Nat.le_of_ble_eq_true rfl) dX11_trouble_4
set_option maxHeartbeats 4000000 in
set_option maxRecDepth 100000 in
theorem kt421_X2_stepBack (l : Launch) (G : KG) (tag : Nat → Nat) (L : List Nat) (Fo : Nat → va_E) (ho : okT G ttC tag L Fo) (p0 : Nat) (p1 : Nat) (m0 : p0 ∈ L) (g0 : tag p0 = 23) (m1 : p1 ∈ L) (g1 : tag p1 = 19) : TMi l yX2_stepBack cX2_stepBack 2 (some .boolean) { frames := 2, cells := 0, slots := 0, locals := 45 } G ttC tag L Fo [.ref p0, .ref p1] (fun r F1 => (0 ≤ r.toInt ∧ r.toInt ≤ 1) ∧ ((∀ b j : Nat, (tag b ≠ 19 ∨ j ≠ 0) → (tag b ≠ 19 ∨ j ≠ 1) → (tag b ≠ 23 ∨ j ≠ 3) → fld F1 b j = fld Fo b j) ∧ EF tag F1 Fo)) := by
  refine t_bodyi (y := yX2_stepBack) (cd := cX2_stepBack) (mL := 2) (rt := (some .boolean)) (rm := { frames := 2, cells := 0, slots := 0, locals := 45 }) (av := [.ref p0, .ref p1]) (by decide) (Nat.le_of_ble_eq_true rfl) ho ?_
  intro p e s m args below meth c ls A Q hQ X hT hl
  have hx := X.1.1
  have hb := X.1.2.1
  have hl : lv_has ls 2 [(0, .ref p0), (1, .ref p1)] := hl
  obtain ⟨F, hFo⟩ : ∃ F : Nat → va_E, F = Fo := ⟨_, rfl⟩
  rw [← hFo] at hT
  have hfr : (∀ b j : Nat, (tag b ≠ 19 ∨ j ≠ 0) → (tag b ≠ 19 ∨ j ≠ 1) → (tag b ≠ 23 ∨ j ≠ 3) → fld F b j = fld Fo b j) ∧ EF tag F Fo := by
    rw [hFo]
    exact ⟨by intros; rfl, fun _ _ _ => rfl⟩
  refine lv_aload_n hx hb dX2_stepBack_0 rfl (lv_at hl 0 rfl) ?_
  refine t_get (C := RX2) (T := TX2) (N := 5) X hT m0 g0 rfl rfl 3 (by decide) qw_461 inlX2 rfl dX2_stepBack_1 (fun v134313 hv134313 ov134313 => ?_)
  obtain ⟨z134314, rfl, rz134314⟩ := okV_i ov134313
  refine lv_if_ne (tgt := 9) hx hb dX2_stepBack_4 (by decide) (fun c134315 => ?_) (fun c134315 => ?_)
  · have w134316 := cv_ne (rfl : z134314.toInt = z134314.toInt) (by decide : (0 : Int32).toInt = 0) c134315
    refine lv_aload_n hx hb dX2_stepBack_9 rfl (lv_at hl 0 rfl) ?_
    refine lv_dup hx hb dX2_stepBack_10 rfl ?_
    refine t_get (C := RX2) (T := TX2) (N := 5) X hT m0 g0 rfl rfl 3 (by decide) qw_461 inlX2 rfl dX2_stepBack_11 (fun v134317 hv134317 ov134317 => ?_)
    obtain rfl : v134317 = .int z134314 := hv134317.symm.trans hv134313
    refine lv_iconst (v := 1) hx hb dX2_stepBack_14 (by decide) ?_
    refine lv_isub hx hb dX2_stepBack_15 ?_
    refine lv_topi (fun z134318 ez134318 => ?_)
    have hz134318 : z134318.toInt = z134314.toInt - 1 := ar_sub ez134318 (rfl : z134314.toInt = z134314.toInt) (by decide : (1 : Int32).toInt = 1) (by omega) (by omega)
    have rz134318 : 0 ≤ z134318.toInt ∧ z134318.toInt ≤ 9 := by omega
    refine t_put (C := RX2) (T := TX2) (N := 5) (v := .int z134318) X hT m0 g0 rfl tyX2 tyX2_ok nmX2 rfl 3 (by decide) qw_461 inlX2 rfl (by first | rfl | decide) (by first | rfl | decide) rfl (⟨_, rfl, (show 0 ≤ (z134318 : Int32).toInt from (by omega)), (show (z134318 : Int32).toInt ≤ 10 from (by omega))⟩) dX2_stepBack_16 (fun F H locs hT v134319 h1v134319 h2v134319 => ?_)
    have hfr : (∀ b j : Nat, (tag b ≠ 19 ∨ j ≠ 0) → (tag b ≠ 19 ∨ j ≠ 1) → (tag b ≠ 23 ∨ j ≠ 3) → fld F b j = fld Fo b j) ∧ EF tag F Fo := ⟨fun b j n19_0 n19_1 n23_3 => (h1v134319 b j (fr_ne g0 n23_3)).trans (hfr.1 b j n19_0 n19_1 n23_3), fun b j hb => (h2v134319 b j).trans (hfr.2 b j hb)⟩
    refine lv_aload_n hx hb dX2_stepBack_19 rfl (lv_at hl 1 rfl) ?_
    refine lv_aload_n hx hb dX2_stepBack_20 rfl (lv_at hl 0 rfl) ?_
    refine t_get (C := RX2) (T := TX2) (N := 5) X hT m0 g0 rfl rfl 0 (by decide) qw_103 inlX2 rfl dX2_stepBack_21 (fun v134320 hv134320 ov134320 => ?_)
    obtain ⟨b134321, rfl, mb134321, gb134321⟩ := okV_r ov134320
    have gb134321 : tag b134321 = 16 := tg_of gb134321
    refine lv_aload_n hx hb dX2_stepBack_24 rfl (lv_at hl 0 rfl) ?_
    refine t_get (C := RX2) (T := TX2) (N := 5) X hT m0 g0 rfl rfl 2 (by decide) qw_1431 inlX2 rfl dX2_stepBack_25 (fun v134322 hv134322 ov134322 => ?_)
    obtain ⟨z134323, rfl, rz134323⟩ := okV_i ov134322
    refine lv_aload_n hx hb dX2_stepBack_28 rfl (lv_at hl 0 rfl) ?_
    refine t_get (C := RX2) (T := TX2) (N := 5) X hT m0 g0 rfl rfl 3 (by decide) qw_461 inlX2 rfl dX2_stepBack_29 (fun v134324 hv134324 ov134324 => ?_)
    obtain rfl : v134324 = .int z134318 := hv134324.symm.trans v134319
    refine lv_iadd hx hb dX2_stepBack_32 ?_
    refine lv_topi (fun z134325 ez134325 => ?_)
    have hz134325 : z134325.toInt = z134323.toInt + z134318.toInt := ar_add ez134325 (rfl : z134323.toInt = z134323.toInt) (rfl : z134318.toInt = z134318.toInt) (by omega) (by omega)
    have rz134325 : 0 ≤ z134325.toInt ∧ z134325.toInt ≤ 18 := by omega
    refine lv_bipush (v := 10) hx hb dX2_stepBack_33 (by decide) ?_
    refine lv_irem hx hb dX2_stepBack_35 (by decide) ?_
    refine lv_topi (fun z134326 ez134326 => ?_)
    have hz134326 : z134326.toInt = z134325.toInt % 10 := ar_rem ez134326 (rfl : z134325.toInt = z134325.toInt) (by decide : (10 : Int32).toInt = 10) (by omega) (by omega)
    have rz134326 : 0 ≤ z134326.toInt ∧ z134326.toInt ≤ 9 := by omega
    refine t_ald X hT mb134321 gb134321 rfl (by omega) dX2_stepBack_36 (fun b134327 mb134327 gb134327 => ?_)
    have gb134327 : tag b134327 = 19 := tg_of gb134327
    refine t_cVv (n := 1) (C := RX7) (T := TX7) (N := 7) (As := [.ref b134327]) (rest := []) X hT (kt343_X7_copyFrom l G tag L F hT.2.2.2 p1 b134327 m1 g1 mb134327 gb134327) m1 g1 rfl rfl qw_1432 qw_450 qw_451 qw_22 qw_452 ⟨rfl, by decide +kernel, by decide +kernel, by decide +kernel⟩ ⟨Nat.le_of_ble_eq_true rfl, Nat.le_of_ble_eq_true rfl⟩ hl rfl rfl (Nat.le_of_ble_eq_true rfl) dX2_stepBack_37 ⟨Nat.le_of_ble_eq_true rfl, Nat.le_of_ble_eq_true rfl⟩ (fun F H locs hT hz134328 => ?_)
    have yz134328 := hz134328
    have v134319 := (yz134328.1 _ 3 (Or.inr (by decide)) (Or.inr (by decide))).trans v134319
    have hv134320 := (yz134328.1 _ 0 (Or.inl (by rw [g0]; decide)) (Or.inr (by decide))).trans hv134320
    have hv134322 := (yz134328.1 _ 2 (Or.inr (by decide)) (Or.inr (by decide))).trans hv134322
    have hfr : (∀ b j : Nat, (tag b ≠ 19 ∨ j ≠ 0) → (tag b ≠ 19 ∨ j ≠ 1) → (tag b ≠ 23 ∨ j ≠ 3) → fld F b j = fld Fo b j) ∧ EF tag F Fo := ⟨fun b j n19_0 n19_1 n23_3 => (yz134328.1 b j n19_0 n19_1).trans (hfr.1 b j n19_0 n19_1 n23_3), fun b j hb => (yz134328.2 b j hb).trans (hfr.2 b j hb)⟩
    refine lv_iconst (v := 1) hx hb dX2_stepBack_40 (by decide) ?_
    exact t_zret hQ X hT (by decide) (⟨(by decide), hfr⟩) (Nat.le_of_ble_eq_true rfl) (Nat.le_of_ble_eq_true rfl) dX2_stepBack_41
  · have w134329 := cv_eq (rfl : z134314.toInt = z134314.toInt) (by decide : (0 : Int32).toInt = 0) c134315
    refine lv_iconst (v := 0) hx hb dX2_stepBack_7 (by decide) ?_
    exact t_zret hQ X hT (by decide) (⟨(by decide), hfr⟩) (Nat.le_of_ble_eq_true rfl) (Nat.le_of_ble_eq_true rfl) dX2_stepBack_8
set_option maxHeartbeats 4000000 in
set_option maxRecDepth 100000 in
theorem kt422_X11_undo (l : Launch) (G : KG) (tag : Nat → Nat) (L : List Nat) (Fo : Nat → va_E) (ho : okT G ttC tag L Fo) (p0 : Nat) (m0 : p0 ∈ L) (g0 : tag p0 = 26) : TMi l yX11_undo cX11_undo 1 (some .boolean) { frames := 3, cells := 0, slots := 0, locals := 66 } G ttC tag L Fo [.ref p0] (fun r F1 => (0 ≤ r.toInt ∧ r.toInt ≤ 1) ∧ ((∀ b j : Nat, (tag b ≠ 19 ∨ j ≠ 0) → (tag b ≠ 19 ∨ j ≠ 1) → (tag b ≠ 23 ∨ j ≠ 3) → (tag b ≠ 26 ∨ j ≠ 13) → fld F1 b j = fld Fo b j) ∧ EF tag F1 Fo)) := by
  refine t_bodyi (y := yX11_undo) (cd := cX11_undo) (mL := 1) (rt := (some .boolean)) (rm := { frames := 3, cells := 0, slots := 0, locals := 66 }) (av := [.ref p0]) (by decide) (Nat.le_of_ble_eq_true rfl) ho ?_
  intro p e s m args below meth c ls A Q hQ X hT hl
  have hx := X.1.1
  have hb := X.1.2.1
  have hl : lv_has ls 1 [(0, .ref p0)] := hl
  obtain ⟨F, hFo⟩ : ∃ F : Nat → va_E, F = Fo := ⟨_, rfl⟩
  rw [← hFo] at hT
  have hfr : (∀ b j : Nat, (tag b ≠ 19 ∨ j ≠ 0) → (tag b ≠ 19 ∨ j ≠ 1) → (tag b ≠ 23 ∨ j ≠ 3) → (tag b ≠ 26 ∨ j ≠ 13) → fld F b j = fld Fo b j) ∧ EF tag F Fo := by
    rw [hFo]
    exact ⟨by intros; rfl, fun _ _ _ => rfl⟩
  refine lv_aload_n hx hb dX11_undo_0 rfl (lv_at hl 0 rfl) ?_
  refine t_get (C := RX11) (T := TX11) (N := 16) X hT m0 g0 rfl rfl 12 (by decide) qw_45 inlX11 rfl dX11_undo_1 (fun v134436 hv134436 ov134436 => ?_)
  obtain ⟨b134437, rfl, mb134437, gb134437⟩ := okV_r ov134436
  have gb134437 : tag b134437 = 23 := tg_of gb134437
  refine lv_aload_n hx hb dX11_undo_4 rfl (lv_at hl 0 rfl) ?_
  refine t_get (C := RX11) (T := TX11) (N := 16) X hT m0 g0 rfl rfl 5 (by decide) qw_23 inlX11 rfl dX11_undo_5 (fun v134438 hv134438 ov134438 => ?_)
  obtain ⟨b134439, rfl, mb134439, gb134439⟩ := okV_r ov134438
  have gb134439 : tag b134439 = 19 := tg_of gb134439
  refine t_cVi (n := 1) (C := RX2) (T := TX2) (N := 5) (As := [.ref b134439]) (rest := []) X hT (kt421_X2_stepBack l G tag L F hT.2.2.2 b134437 b134439 mb134437 gb134437 mb134439 gb134439) mb134437 gb134437 rfl rfl qw_1521 qw_1522 qw_1523 qw_44 qw_1524 ⟨rfl, by decide +kernel, by decide +kernel, by decide +kernel⟩ ⟨Nat.le_of_ble_eq_true rfl, Nat.le_of_ble_eq_true rfl⟩ hl rfl rfl (Nat.le_of_ble_eq_true rfl) dX11_undo_8 ⟨Nat.le_of_ble_eq_true rfl, Nat.le_of_ble_eq_true rfl⟩ (fun z134440 F H locs hT hz134440 => ?_)
  obtain ⟨hz134440, yz134440⟩ := hz134440
  have hv134436 := (yz134440.1 _ 12 (Or.inr (by decide)) (Or.inr (by decide)) (Or.inr (by decide))).trans hv134436
  have hv134438 := (yz134440.1 _ 5 (Or.inr (by decide)) (Or.inr (by decide)) (Or.inr (by decide))).trans hv134438
  have hfr : (∀ b j : Nat, (tag b ≠ 19 ∨ j ≠ 0) → (tag b ≠ 19 ∨ j ≠ 1) → (tag b ≠ 23 ∨ j ≠ 3) → (tag b ≠ 26 ∨ j ≠ 13) → fld F b j = fld Fo b j) ∧ EF tag F Fo := ⟨fun b j n19_0 n19_1 n23_3 n26_13 => (yz134440.1 b j n19_0 n19_1 n23_3).trans (hfr.1 b j n19_0 n19_1 n23_3 n26_13), fun b j hb => (yz134440.2 b j hb).trans (hfr.2 b j hb)⟩
  refine lv_if_eq (tgt := 21) hx hb dX11_undo_11 (by decide) (fun c134441 => ?_) (fun c134441 => ?_)
  · have w134442 := cv_eq (rfl : z134440.toInt = z134440.toInt) (by decide : (0 : Int32).toInt = 0) c134441
    refine lv_aload_n hx hb dX11_undo_21 rfl (lv_at hl 0 rfl) ?_
    refine lv_bipush (v := 6) hx hb dX11_undo_22 (by decide) ?_
    refine t_cVi (n := 1) (C := RX11) (T := TX11) (N := 16) (As := [.int 6]) (rest := []) X hT (kt352_X11_no l G tag L F hT.2.2.2 p0 6 m0 g0) m0 g0 rfl rfl qw_1454 qw_1455 qw_1456 qw_2 qw_1457 ⟨rfl, by decide +kernel, by decide +kernel, by decide +kernel⟩ ⟨Nat.le_of_ble_eq_true rfl, Nat.le_of_ble_eq_true rfl⟩ hl rfl rfl (Nat.le_of_ble_eq_true rfl) dX11_undo_24 ⟨Nat.le_of_ble_eq_true rfl, Nat.le_of_ble_eq_true rfl⟩ (fun z134443 F H locs hT hz134443 => ?_)
    obtain ⟨hz134443, yz134443⟩ := hz134443
    have hv134436 := (yz134443.1 _ 12 (Or.inr (by decide))).trans hv134436
    have hv134438 := (yz134443.1 _ 5 (Or.inr (by decide))).trans hv134438
    have hfr : (∀ b j : Nat, (tag b ≠ 19 ∨ j ≠ 0) → (tag b ≠ 19 ∨ j ≠ 1) → (tag b ≠ 23 ∨ j ≠ 3) → (tag b ≠ 26 ∨ j ≠ 13) → fld F b j = fld Fo b j) ∧ EF tag F Fo := ⟨fun b j n19_0 n19_1 n23_3 n26_13 => (yz134443.1 b j n26_13).trans (hfr.1 b j n19_0 n19_1 n23_3 n26_13), fun b j hb => (yz134443.2 b j hb).trans (hfr.2 b j hb)⟩
    exact t_zret hQ X hT (nar_z (by omega)) (⟨(by omega), hfr⟩) (Nat.le_of_ble_eq_true rfl) (Nat.le_of_ble_eq_true rfl) dX11_undo_27
  · have w134444 := cv_ne (rfl : z134440.toInt = z134440.toInt) (by decide : (0 : Int32).toInt = 0) c134441
    refine lv_aload_n hx hb dX11_undo_14 rfl (lv_at hl 0 rfl) ?_
    refine t_cVi (n := 0) (C := RX11) (T := TX11) (N := 16) (As := []) (rest := []) X hT (kt353_X11_yes l G tag L F hT.2.2.2 p0 m0 g0) m0 g0 rfl rfl qw_1460 qw_1461 qw_1462 qw_2 qw_1463 ⟨rfl, by decide +kernel, by decide +kernel, by decide +kernel⟩ ⟨Nat.le_of_ble_eq_true rfl, Nat.le_of_ble_eq_true rfl⟩ hl rfl rfl (Nat.le_of_ble_eq_true rfl) dX11_undo_15 ⟨Nat.le_of_ble_eq_true rfl, Nat.le_of_ble_eq_true rfl⟩ (fun z134445 F H locs hT hz134445 => ?_)
    obtain ⟨hz134445, yz134445⟩ := hz134445
    have hv134436 := (yz134445.1 _ 12 (Or.inr (by decide))).trans hv134436
    have hv134438 := (yz134445.1 _ 5 (Or.inr (by decide))).trans hv134438
    have hfr : (∀ b j : Nat, (tag b ≠ 19 ∨ j ≠ 0) → (tag b ≠ 19 ∨ j ≠ 1) → (tag b ≠ 23 ∨ j ≠ 3) → (tag b ≠ 26 ∨ j ≠ 13) → fld F b j = fld Fo b j) ∧ EF tag F Fo := ⟨fun b j n19_0 n19_1 n23_3 n26_13 => (yz134445.1 b j n26_13).trans (hfr.1 b j n19_0 n19_1 n23_3 n26_13), fun b j hb => (yz134445.2 b j hb).trans (hfr.2 b j hb)⟩
    refine lv_goto (tgt := 27) hx hb dX11_undo_18 (by decide) ?_
    exact t_zret hQ X hT (nar_z (by omega)) (⟨(by omega), hfr⟩) (Nat.le_of_ble_eq_true rfl) (Nat.le_of_ble_eq_true rfl) dX11_undo_27
set_option maxHeartbeats 4000000 in
set_option maxRecDepth 100000 in
theorem kt423_X11_warm (l : Launch) (G : KG) (tag : Nat → Nat) (L : List Nat) (Fo : Nat → va_E) (ho : okT G ttC tag L Fo) (p0 : Nat) (p1 : Int32) (p2 : Int32) (m0 : p0 ∈ L) (g0 : tag p0 = 26) : TMi l yX11_warm cX11_warm 3 (some .int) { frames := 3, cells := 0, slots := 0, locals := 70 } G ttC tag L Fo [.ref p0, .int p1, .int p2] (fun r F1 => ((-2147483648) ≤ r.toInt ∧ r.toInt ≤ 2147483647) ∧ ((∀ b j : Nat, (tag b ≠ 26 ∨ j ≠ 13) → fld F1 b j = fld Fo b j) ∧ EF tag F1 Fo)) := by
  refine t_bodyi (y := yX11_warm) (cd := cX11_warm) (mL := 3) (rt := (some .int)) (rm := { frames := 3, cells := 0, slots := 0, locals := 70 }) (av := [.ref p0, .int p1, .int p2]) (by decide) (Nat.le_of_ble_eq_true rfl) ho ?_
  intro p e s m args below meth c ls A Q hQ X hT hl
  have hx := X.1.1
  have hb := X.1.2.1
  have hl : lv_has ls 3 [(0, .ref p0), (1, .int p1), (2, .int p2)] := hl
  have rp1 := rg_all p1
  have rp2 := rg_all p2
  obtain ⟨F, hFo⟩ : ∃ F : Nat → va_E, F = Fo := ⟨_, rfl⟩
  rw [← hFo] at hT
  have hfr : (∀ b j : Nat, (tag b ≠ 26 ∨ j ≠ 13) → fld F b j = fld Fo b j) ∧ EF tag F Fo := by
    rw [hFo]
    exact ⟨by intros; rfl, fun _ _ _ => rfl⟩
  refine lv_aload_n hx hb dX11_warm_0 rfl (lv_at hl 0 rfl) ?_
  refine lv_iload_n hx hb dX11_warm_1 rfl (lv_at hl 1 rfl) ?_
  refine lv_iload_n hx hb dX11_warm_2 rfl (lv_at hl 2 rfl) ?_
  refine t_cVi (n := 2) (C := RX11) (T := TX11) (N := 16) (As := [.int p1, .int p2]) (rest := []) X hT (kt356_X11_isRoom l G tag L F hT.2.2.2 p0 p1 p2 m0 g0) m0 g0 rfl rfl qw_827 qw_828 qw_829 qw_2 qw_830 ⟨rfl, by decide +kernel, by decide +kernel, by decide +kernel⟩ ⟨Nat.le_of_ble_eq_true rfl, Nat.le_of_ble_eq_true rfl⟩ hl rfl rfl (Nat.le_of_ble_eq_true rfl) dX11_warm_3 ⟨Nat.le_of_ble_eq_true rfl, Nat.le_of_ble_eq_true rfl⟩ (fun z134545 F9 H locs hT hz134545 => ?_)
  obtain ⟨fz134545, hz134545⟩ := hz134545
  rw [fz134545] at hT
  obtain ⟨hz134545, iz134545⟩ := hz134545
  refine lv_if_ne (tgt := 15) hx hb dX11_warm_6 (by decide) (fun c134546 => ?_) (fun c134546 => ?_)
  · have w134547 := cv_ne (rfl : z134545.toInt = z134545.toInt) (by decide : (0 : Int32).toInt = 0) c134546
    have w134548 := (fun h => (iz134545 h).1) (by omega)
    have w134549 := (fun h => (iz134545 h).2) (by omega)
    refine lv_aload_n hx hb dX11_warm_15 rfl (lv_at hl 0 rfl) ?_
    refine lv_aload_n hx hb dX11_warm_16 rfl (lv_at hl 0 rfl) ?_
    refine lv_iload_n hx hb dX11_warm_17 rfl (lv_at hl 1 rfl) ?_
    refine lv_iload_n hx hb dX11_warm_18 rfl (lv_at hl 2 rfl) ?_
    refine t_cVi (n := 2) (C := RX11) (T := TX11) (N := 16) (As := [.int p1, .int p2]) (rest := [.ref p0]) X hT (kt379_X11_warmth l G tag L F hT.2.2.2 p0 p1 p2 m0 g0 (by omega)) m0 g0 rfl rfl qw_844 qw_845 qw_846 qw_2 qw_847 ⟨rfl, by decide +kernel, by decide +kernel, by decide +kernel⟩ ⟨Nat.le_of_ble_eq_true rfl, Nat.le_of_ble_eq_true rfl⟩ hl rfl rfl (Nat.le_of_ble_eq_true rfl) dX11_warm_19 ⟨Nat.le_of_ble_eq_true rfl, Nat.le_of_ble_eq_true rfl⟩ (fun z134550 F9 H locs hT hz134550 => ?_)
    obtain ⟨fz134550, hz134550⟩ := hz134550
    rw [fz134550] at hT
    refine t_cVi (n := 1) (C := RX11) (T := TX11) (N := 16) (As := [.int z134550]) (rest := []) X hT (kt350_X11_answer l G tag L F hT.2.2.2 p0 z134550 m0 g0) m0 g0 rfl rfl qw_463 qw_464 qw_465 qw_2 qw_466 ⟨rfl, by decide +kernel, by decide +kernel, by decide +kernel⟩ ⟨Nat.le_of_ble_eq_true rfl, Nat.le_of_ble_eq_true rfl⟩ hl rfl rfl (Nat.le_of_ble_eq_true rfl) dX11_warm_22 ⟨Nat.le_of_ble_eq_true rfl, Nat.le_of_ble_eq_true rfl⟩ (fun z134551 F H locs hT hz134551 => ?_)
    obtain ⟨hz134551, yz134551⟩ := hz134551
    have hfr : (∀ b j : Nat, (tag b ≠ 26 ∨ j ≠ 13) → fld F b j = fld Fo b j) ∧ EF tag F Fo := ⟨fun b j n26_13 => (yz134551.1 b j n26_13).trans (hfr.1 b j n26_13), fun b j hb => (yz134551.2 b j hb).trans (hfr.2 b j hb)⟩
    exact t_iret hQ X hT (⟨rg_all _, hfr⟩) (Nat.le_of_ble_eq_true rfl) (Nat.le_of_ble_eq_true rfl) dX11_warm_25
  · have w134552 := cv_eq (rfl : z134545.toInt = z134545.toInt) (by decide : (0 : Int32).toInt = 0) c134546
    refine lv_aload_n hx hb dX11_warm_9 rfl (lv_at hl 0 rfl) ?_
    refine lv_iconst (v := 1) hx hb dX11_warm_10 (by decide) ?_
    refine t_cVi (n := 1) (C := RX11) (T := TX11) (N := 16) (As := [.int 1]) (rest := []) X hT (kt357_X11_refuse l G tag L F hT.2.2.2 p0 1 m0 g0) m0 g0 rfl rfl qw_152 qw_153 qw_154 qw_2 qw_155 ⟨rfl, by decide +kernel, by decide +kernel, by decide +kernel⟩ ⟨Nat.le_of_ble_eq_true rfl, Nat.le_of_ble_eq_true rfl⟩ hl rfl rfl (Nat.le_of_ble_eq_true rfl) dX11_warm_11 ⟨Nat.le_of_ble_eq_true rfl, Nat.le_of_ble_eq_true rfl⟩ (fun z134553 F H locs hT hz134553 => ?_)
    obtain ⟨hz134553, yz134553⟩ := hz134553
    have hfr : (∀ b j : Nat, (tag b ≠ 26 ∨ j ≠ 13) → fld F b j = fld Fo b j) ∧ EF tag F Fo := ⟨fun b j n26_13 => (yz134553.1 b j n26_13).trans (hfr.1 b j n26_13), fun b j hb => (yz134553.2 b j hb).trans (hfr.2 b j hb)⟩
    exact t_iret hQ X hT (⟨rg_all _, hfr⟩) (Nat.le_of_ble_eq_true rfl) (Nat.le_of_ble_eq_true rfl) dX11_warm_14
set_option maxHeartbeats 4000000 in
set_option maxRecDepth 100000 in
theorem kt424_X11_way (l : Launch) (G : KG) (tag : Nat → Nat) (L : List Nat) (Fo : Nat → va_E) (ho : okT G ttC tag L Fo) (p0 : Nat) (p1 : Int32) (p2 : Int32) (m0 : p0 ∈ L) (g0 : tag p0 = 26) : TMi l yX11_way cX11_way 3 (some .int) { frames := 4, cells := 0, slots := 0, locals := 93 } G ttC tag L Fo [.ref p0, .int p1, .int p2] (fun r F1 => ((-2147483648) ≤ r.toInt ∧ r.toInt ≤ 2147483647) ∧ ((∀ b j : Nat, (tag b ≠ 26 ∨ j ≠ 13) → fld F1 b j = fld Fo b j) ∧ EF tag F1 Fo)) := by
  refine t_bodyi (y := yX11_way) (cd := cX11_way) (mL := 3) (rt := (some .int)) (rm := { frames := 4, cells := 0, slots := 0, locals := 93 }) (av := [.ref p0, .int p1, .int p2]) (by decide) (Nat.le_of_ble_eq_true rfl) ho ?_
  intro p e s m args below meth c ls A Q hQ X hT hl
  have hx := X.1.1
  have hb := X.1.2.1
  have hl : lv_has ls 3 [(0, .ref p0), (1, .int p1), (2, .int p2)] := hl
  have rp1 := rg_all p1
  have rp2 := rg_all p2
  obtain ⟨F, hFo⟩ : ∃ F : Nat → va_E, F = Fo := ⟨_, rfl⟩
  rw [← hFo] at hT
  have hfr : (∀ b j : Nat, (tag b ≠ 26 ∨ j ≠ 13) → fld F b j = fld Fo b j) ∧ EF tag F Fo := by
    rw [hFo]
    exact ⟨by intros; rfl, fun _ _ _ => rfl⟩
  refine lv_aload_n hx hb dX11_way_0 rfl (lv_at hl 0 rfl) ?_
  refine lv_iload_n hx hb dX11_way_1 rfl (lv_at hl 1 rfl) ?_
  refine lv_iload_n hx hb dX11_way_2 rfl (lv_at hl 2 rfl) ?_
  refine t_cVi (n := 2) (C := RX11) (T := TX11) (N := 16) (As := [.int p1, .int p2]) (rest := []) X hT (kt356_X11_isRoom l G tag L F hT.2.2.2 p0 p1 p2 m0 g0) m0 g0 rfl rfl qw_827 qw_828 qw_829 qw_2 qw_830 ⟨rfl, by decide +kernel, by decide +kernel, by decide +kernel⟩ ⟨Nat.le_of_ble_eq_true rfl, Nat.le_of_ble_eq_true rfl⟩ hl rfl rfl (Nat.le_of_ble_eq_true rfl) dX11_way_3 ⟨Nat.le_of_ble_eq_true rfl, Nat.le_of_ble_eq_true rfl⟩ (fun z134675 F9 H locs hT hz134675 => ?_)
  obtain ⟨fz134675, hz134675⟩ := hz134675
  rw [fz134675] at hT
  obtain ⟨hz134675, iz134675⟩ := hz134675
  refine lv_if_ne (tgt := 15) hx hb dX11_way_6 (by decide) (fun c134676 => ?_) (fun c134676 => ?_)
  · have w134677 := cv_ne (rfl : z134675.toInt = z134675.toInt) (by decide : (0 : Int32).toInt = 0) c134676
    have w134678 := (fun h => (iz134675 h).1) (by omega)
    have w134679 := (fun h => (iz134675 h).2) (by omega)
    refine lv_aload_n hx hb dX11_way_15 rfl (lv_at hl 0 rfl) ?_
    refine lv_aload_n hx hb dX11_way_16 rfl (lv_at hl 0 rfl) ?_
    refine t_get (C := RX11) (T := TX11) (N := 16) X hT m0 g0 rfl rfl 5 (by decide) qw_23 inlX11 rfl dX11_way_17 (fun v134680 hv134680 ov134680 => ?_)
    obtain ⟨b134681, rfl, mb134681, gb134681⟩ := okV_r ov134680
    have gb134681 : tag b134681 = 19 := tg_of gb134681
    refine lv_iload_n hx hb dX11_way_20 rfl (lv_at hl 1 rfl) ?_
    refine lv_iload_n hx hb dX11_way_21 rfl (lv_at hl 2 rfl) ?_
    refine t_cVi (n := 2) (C := RX7) (T := TX7) (N := 7) (As := [.int p1, .int p2]) (rest := [.ref p0]) X hT (kt320_X7_wayTo l G tag L F hT.2.2.2 b134681 p1 p2 mb134681 gb134681 (by omega)) mb134681 gb134681 rfl rfl qw_979 qw_980 qw_981 qw_22 qw_982 ⟨rfl, by decide +kernel, by decide +kernel, by decide +kernel⟩ ⟨Nat.le_of_ble_eq_true rfl, Nat.le_of_ble_eq_true rfl⟩ hl rfl rfl (Nat.le_of_ble_eq_true rfl) dX11_way_22 ⟨Nat.le_of_ble_eq_true rfl, Nat.le_of_ble_eq_true rfl⟩ (fun z134682 F9 H locs hT hz134682 => ?_)
    obtain ⟨fz134682, hz134682⟩ := hz134682
    rw [fz134682] at hT
    refine t_cVi (n := 1) (C := RX11) (T := TX11) (N := 16) (As := [.int z134682]) (rest := []) X hT (kt350_X11_answer l G tag L F hT.2.2.2 p0 z134682 m0 g0) m0 g0 rfl rfl qw_463 qw_464 qw_465 qw_2 qw_466 ⟨rfl, by decide +kernel, by decide +kernel, by decide +kernel⟩ ⟨Nat.le_of_ble_eq_true rfl, Nat.le_of_ble_eq_true rfl⟩ hl rfl rfl (Nat.le_of_ble_eq_true rfl) dX11_way_25 ⟨Nat.le_of_ble_eq_true rfl, Nat.le_of_ble_eq_true rfl⟩ (fun z134683 F H locs hT hz134683 => ?_)
    obtain ⟨hz134683, yz134683⟩ := hz134683
    have hv134680 := (yz134683.1 _ 5 (Or.inr (by decide))).trans hv134680
    have hfr : (∀ b j : Nat, (tag b ≠ 26 ∨ j ≠ 13) → fld F b j = fld Fo b j) ∧ EF tag F Fo := ⟨fun b j n26_13 => (yz134683.1 b j n26_13).trans (hfr.1 b j n26_13), fun b j hb => (yz134683.2 b j hb).trans (hfr.2 b j hb)⟩
    exact t_iret hQ X hT (⟨rg_all _, hfr⟩) (Nat.le_of_ble_eq_true rfl) (Nat.le_of_ble_eq_true rfl) dX11_way_28
  · have w134684 := cv_eq (rfl : z134675.toInt = z134675.toInt) (by decide : (0 : Int32).toInt = 0) c134676
    refine lv_aload_n hx hb dX11_way_9 rfl (lv_at hl 0 rfl) ?_
    refine lv_iconst (v := 1) hx hb dX11_way_10 (by decide) ?_
    refine t_cVi (n := 1) (C := RX11) (T := TX11) (N := 16) (As := [.int 1]) (rest := []) X hT (kt357_X11_refuse l G tag L F hT.2.2.2 p0 1 m0 g0) m0 g0 rfl rfl qw_152 qw_153 qw_154 qw_2 qw_155 ⟨rfl, by decide +kernel, by decide +kernel, by decide +kernel⟩ ⟨Nat.le_of_ble_eq_true rfl, Nat.le_of_ble_eq_true rfl⟩ hl rfl rfl (Nat.le_of_ble_eq_true rfl) dX11_way_11 ⟨Nat.le_of_ble_eq_true rfl, Nat.le_of_ble_eq_true rfl⟩ (fun z134685 F H locs hT hz134685 => ?_)
    obtain ⟨hz134685, yz134685⟩ := hz134685
    have hfr : (∀ b j : Nat, (tag b ≠ 26 ∨ j ≠ 13) → fld F b j = fld Fo b j) ∧ EF tag F Fo := ⟨fun b j n26_13 => (yz134685.1 b j n26_13).trans (hfr.1 b j n26_13), fun b j hb => (yz134685.2 b j hb).trans (hfr.2 b j hb)⟩
    exact t_iret hQ X hT (⟨rg_all _, hfr⟩) (Nat.le_of_ble_eq_true rfl) (Nat.le_of_ble_eq_true rfl) dX11_way_14
set_option maxHeartbeats 4000000 in
set_option maxRecDepth 100000 in
theorem kt425_X11_where (l : Launch) (G : KG) (tag : Nat → Nat) (L : List Nat) (F : Nat → va_E) (ho : okT G ttC tag L F) (p0 : Nat) (m0 : p0 ∈ L) (g0 : tag p0 = 26) : TMi l yX11_where cX11_where 1 (some .int) { frames := 0, cells := 0, slots := 0, locals := 0 } G ttC tag L F [.ref p0] (fun r F1 => F1 = F ∧ ((-2147483648) ≤ r.toInt ∧ r.toInt ≤ 2147483647)) := by
  refine t_bodyi (y := yX11_where) (cd := cX11_where) (mL := 1) (rt := (some .int)) (rm := { frames := 0, cells := 0, slots := 0, locals := 0 }) (av := [.ref p0]) (by decide) (Nat.le_of_ble_eq_true rfl) ho ?_
  intro p e s m args below meth c ls A Q hQ X hT hl
  have hx := X.1.1
  have hb := X.1.2.1
  have hl : lv_has ls 1 [(0, .ref p0)] := hl
  refine lv_aload_n hx hb dX11_where_0 rfl (lv_at hl 0 rfl) ?_
  refine t_get (C := RX11) (T := TX11) (N := 16) X hT m0 g0 rfl rfl 13 (by decide) qw_156 inlX11 rfl dX11_where_1 (fun v134763 hv134763 ov134763 => ?_)
  obtain ⟨z134764, rfl, rz134764⟩ := okV_i ov134763
  refine lv_iconst (v := 4) hx hb dX11_where_4 (by decide) ?_
  refine lv_icmp_ne (tgt := 15) hx hb dX11_where_5 (by decide) (fun c134765 => ?_) (fun c134765 => ?_)
  · have w134766 := cv_ne (rfl : z134764.toInt = z134764.toInt) (by decide : (4 : Int32).toInt = 4) c134765
    refine lv_iconst (v := (-1)) hx hb dX11_where_15 (by decide) ?_
    exact t_iret hQ X hT (⟨rfl, rg_all _⟩) (Nat.le_of_ble_eq_true rfl) (Nat.le_of_ble_eq_true rfl) dX11_where_16
  · have w134767 := cv_eq (rfl : z134764.toInt = z134764.toInt) (by decide : (4 : Int32).toInt = 4) c134765
    refine lv_aload_n hx hb dX11_where_8 rfl (lv_at hl 0 rfl) ?_
    refine t_get (C := RX11) (T := TX11) (N := 16) X hT m0 g0 rfl rfl 15 (by decide) qw_149 inlX11 rfl dX11_where_9 (fun v134768 hv134768 ov134768 => ?_)
    obtain ⟨z134769, rfl, rz134769⟩ := okV_i ov134768
    refine lv_goto (tgt := 16) hx hb dX11_where_12 (by decide) ?_
    exact t_iret hQ X hT (⟨rfl, rg_all _⟩) (Nat.le_of_ble_eq_true rfl) (Nat.le_of_ble_eq_true rfl) dX11_where_16
set_option maxHeartbeats 4000000 in
set_option maxRecDepth 100000 in
theorem kt426_X11_whose (l : Launch) (G : KG) (tag : Nat → Nat) (L : List Nat) (Fo : Nat → va_E) (ho : okT G ttC tag L Fo) (p0 : Nat) (p1 : Int32) (p2 : Int32) (m0 : p0 ∈ L) (g0 : tag p0 = 26) : TMi l yX11_whose cX11_whose 3 (some .int) { frames := 2, cells := 0, slots := 0, locals := 50 } G ttC tag L Fo [.ref p0, .int p1, .int p2] (fun r F1 => ((-2147483648) ≤ r.toInt ∧ r.toInt ≤ 2147483647) ∧ ((∀ b j : Nat, (tag b ≠ 26 ∨ j ≠ 13) → fld F1 b j = fld Fo b j) ∧ EF tag F1 Fo)) := by
  refine t_bodyi (y := yX11_whose) (cd := cX11_whose) (mL := 3) (rt := (some .int)) (rm := { frames := 2, cells := 0, slots := 0, locals := 50 }) (av := [.ref p0, .int p1, .int p2]) (by decide) (Nat.le_of_ble_eq_true rfl) ho ?_
  intro p e s m args below meth c ls A Q hQ X hT hl
  have hx := X.1.1
  have hb := X.1.2.1
  have hl : lv_has ls 3 [(0, .ref p0), (1, .int p1), (2, .int p2)] := hl
  have rp1 := rg_all p1
  have rp2 := rg_all p2
  obtain ⟨F, hFo⟩ : ∃ F : Nat → va_E, F = Fo := ⟨_, rfl⟩
  rw [← hFo] at hT
  have hfr : (∀ b j : Nat, (tag b ≠ 26 ∨ j ≠ 13) → fld F b j = fld Fo b j) ∧ EF tag F Fo := by
    rw [hFo]
    exact ⟨by intros; rfl, fun _ _ _ => rfl⟩
  have K19 : ∀ (z134968 : Int32) (F : Nat → va_E) (H : Heap) (locs : List Loc) (ls : Array Slot), (0 ≤ z134968.toInt ∧ z134968.toInt ≤ 1) → TH G ttC A s tag L F H locs → ((∀ b j : Nat, (tag b ≠ 26 ∨ j ≠ 13) → fld F b j = fld Fo b j) ∧ EF tag F Fo) → fld F p0 2 = .int z134968 → lv_has ls 3 [(0, .ref p0), (1, .int p1), (2, .int p2)] → W p l e { frames := 2, cells := 0, slots := 0, locals := 50 } s m args below meth c H locs 0 0 Q (F0 m 19 ls []) := by
    intro z134968 F H locs ls rz134968 hT hfr qz134968 hl
    refine lv_aload_n hx hb dX11_whose_19 rfl (lv_at hl 0 rfl) ?_
    refine lv_iconst (v := 1) hx hb dX11_whose_20 (by decide) ?_
    refine t_cVi (n := 1) (C := RX11) (T := TX11) (N := 16) (As := [.int 1]) (rest := []) X hT (kt357_X11_refuse l G tag L F hT.2.2.2 p0 1 m0 g0) m0 g0 rfl rfl qw_152 qw_153 qw_154 qw_2 qw_155 ⟨rfl, by decide +kernel, by decide +kernel, by decide +kernel⟩ ⟨Nat.le_of_ble_eq_true rfl, Nat.le_of_ble_eq_true rfl⟩ hl rfl rfl (Nat.le_of_ble_eq_true rfl) dX11_whose_21 ⟨Nat.le_of_ble_eq_true rfl, Nat.le_of_ble_eq_true rfl⟩ (fun z134969 F H locs hT hz134969 => ?_)
    obtain ⟨hz134969, yz134969⟩ := hz134969
    have qz134968 := (yz134969.1 _ 2 (Or.inr (by decide))).trans qz134968
    have hfr : (∀ b j : Nat, (tag b ≠ 26 ∨ j ≠ 13) → fld F b j = fld Fo b j) ∧ EF tag F Fo := ⟨fun b j n26_13 => (yz134969.1 b j n26_13).trans (hfr.1 b j n26_13), fun b j hb => (yz134969.2 b j hb).trans (hfr.2 b j hb)⟩
    exact t_iret hQ X hT (⟨rg_all _, hfr⟩) (Nat.le_of_ble_eq_true rfl) (Nat.le_of_ble_eq_true rfl) dX11_whose_24
  refine lv_aload_n hx hb dX11_whose_0 rfl (lv_at hl 0 rfl) ?_
  refine t_get (C := RX11) (T := TX11) (N := 16) X hT m0 g0 rfl rfl 2 (by decide) qw_150 inlX11 rfl dX11_whose_1 (fun v134970 hv134970 ov134970 => ?_)
  obtain ⟨z134971, rfl, rz134971⟩ := okV_i ov134970
  refine lv_if_eq (tgt := 19) hx hb dX11_whose_4 (by decide) (fun c134972 => ?_) (fun c134972 => ?_)
  · have w134973 := cv_eq (rfl : z134971.toInt = z134971.toInt) (by decide : (0 : Int32).toInt = 0) c134972
    exact K19 z134971 _ _ _ _ (by omega) hT hfr hv134970 (lv_sub hl [0, 1, 2] rfl)
  · have w134974 := cv_ne (rfl : z134971.toInt = z134971.toInt) (by decide : (0 : Int32).toInt = 0) c134972
    refine lv_aload_n hx hb dX11_whose_7 rfl (lv_at hl 0 rfl) ?_
    refine t_get (C := RX11) (T := TX11) (N := 16) X hT m0 g0 rfl rfl 3 (by decide) qw_18 inlX11 rfl dX11_whose_8 (fun v134975 hv134975 ov134975 => ?_)
    obtain ⟨b134976, rfl, mb134976, gb134976⟩ := okV_r ov134975
    have gb134976 : tag b134976 = 18 := tg_of gb134976
    refine lv_iload_n hx hb dX11_whose_11 rfl (lv_at hl 1 rfl) ?_
    refine lv_iload_n hx hb dX11_whose_12 rfl (lv_at hl 2 rfl) ?_
    refine t_cVi (n := 2) (C := RX1) (T := TX1) (N := 20) (As := [.int p1, .int p2]) (rest := []) X hT (kt300_X1_isOn l G tag L F hT.2.2.2 b134976 p1 p2 mb134976 gb134976) mb134976 gb134976 rfl rfl qw_711 qw_385 qw_386 qw_17 qw_387 ⟨rfl, by decide +kernel, by decide +kernel, by decide +kernel⟩ ⟨Nat.le_of_ble_eq_true rfl, Nat.le_of_ble_eq_true rfl⟩ hl rfl rfl (Nat.le_of_ble_eq_true rfl) dX11_whose_13 ⟨Nat.le_of_ble_eq_true rfl, Nat.le_of_ble_eq_true rfl⟩ (fun z134977 F9 H locs hT hz134977 => ?_)
    obtain ⟨fz134977, hz134977⟩ := hz134977
    rw [fz134977] at hT
    refine lv_if_ne (tgt := 25) hx hb dX11_whose_16 (by decide) (fun c134978 => ?_) (fun c134978 => ?_)
    · have w134979 := cv_ne (rfl : z134977.toInt = z134977.toInt) (by decide : (0 : Int32).toInt = 0) c134978
      refine lv_aload_n hx hb dX11_whose_25 rfl (lv_at hl 0 rfl) ?_
      refine lv_aload_n hx hb dX11_whose_26 rfl (lv_at hl 0 rfl) ?_
      refine t_get (C := RX11) (T := TX11) (N := 16) X hT m0 g0 rfl rfl 3 (by decide) qw_18 inlX11 rfl dX11_whose_27 (fun v134980 hv134980 ov134980 => ?_)
      obtain rfl : v134980 = .ref b134976 := hv134980.symm.trans hv134975
      refine lv_aload_n hx hb dX11_whose_30 rfl (lv_at hl 0 rfl) ?_
      refine t_get (C := RX11) (T := TX11) (N := 16) X hT m0 g0 rfl rfl 5 (by decide) qw_23 inlX11 rfl dX11_whose_31 (fun v134981 hv134981 ov134981 => ?_)
      obtain ⟨b134982, rfl, mb134982, gb134982⟩ := okV_r ov134981
      have gb134982 : tag b134982 = 19 := tg_of gb134982
      refine lv_iload_n hx hb dX11_whose_34 rfl (lv_at hl 1 rfl) ?_
      refine lv_iload_n hx hb dX11_whose_35 rfl (lv_at hl 2 rfl) ?_
      refine t_cSi (n := 4) (As := [.ref b134976, .ref b134982, .int p1, .int p2]) (rest := [.ref p0]) X hT (kt322_X6_ownersOf l G tag L F hT.2.2.2 b134976 b134982 p1 p2 mb134976 gb134976 mb134982 gb134982) qw_712 qw_713 qw_380 qw_714 ⟨by decide +kernel, by decide +kernel, by decide +kernel⟩ ⟨Nat.le_of_ble_eq_true rfl, Nat.le_of_ble_eq_true rfl⟩ hl rfl rfl (Nat.le_of_ble_eq_true rfl) dX11_whose_36 ⟨Nat.le_of_ble_eq_true rfl, Nat.le_of_ble_eq_true rfl⟩ (fun z134983 F9 H locs hT hz134983 => ?_)
      obtain ⟨fz134983, hz134983⟩ := hz134983
      rw [fz134983] at hT
      refine t_cVi (n := 1) (C := RX11) (T := TX11) (N := 16) (As := [.int z134983]) (rest := []) X hT (kt350_X11_answer l G tag L F hT.2.2.2 p0 z134983 m0 g0) m0 g0 rfl rfl qw_463 qw_464 qw_465 qw_2 qw_466 ⟨rfl, by decide +kernel, by decide +kernel, by decide +kernel⟩ ⟨Nat.le_of_ble_eq_true rfl, Nat.le_of_ble_eq_true rfl⟩ hl rfl rfl (Nat.le_of_ble_eq_true rfl) dX11_whose_39 ⟨Nat.le_of_ble_eq_true rfl, Nat.le_of_ble_eq_true rfl⟩ (fun z134984 F H locs hT hz134984 => ?_)
      obtain ⟨hz134984, yz134984⟩ := hz134984
      have hv134970 := (yz134984.1 _ 2 (Or.inr (by decide))).trans hv134970
      have hv134975 := (yz134984.1 _ 3 (Or.inr (by decide))).trans hv134975
      have hv134981 := (yz134984.1 _ 5 (Or.inr (by decide))).trans hv134981
      have hfr : (∀ b j : Nat, (tag b ≠ 26 ∨ j ≠ 13) → fld F b j = fld Fo b j) ∧ EF tag F Fo := ⟨fun b j n26_13 => (yz134984.1 b j n26_13).trans (hfr.1 b j n26_13), fun b j hb => (yz134984.2 b j hb).trans (hfr.2 b j hb)⟩
      exact t_iret hQ X hT (⟨rg_all _, hfr⟩) (Nat.le_of_ble_eq_true rfl) (Nat.le_of_ble_eq_true rfl) dX11_whose_42
    · have w134985 := cv_eq (rfl : z134977.toInt = z134977.toInt) (by decide : (0 : Int32).toInt = 0) c134978
      exact K19 z134971 _ _ _ _ (by omega) hT hfr hv134970 (lv_sub hl [0, 1, 2] rfl)
