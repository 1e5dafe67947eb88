set_option maxHeartbeats 4000000 in
set_option maxRecDepth 100000 in
theorem km204_X13_findsFirst (l : Launch) (G : KG) (tag : Nat → Nat) (L : List Nat) (Fo : Nat → va_E) (ho : okT G ttC tag L Fo) (p0 : Nat) (p1 : Int32) (x0 : Nat) (x1 : Nat) (m0 : p0 ∈ L) (g0 : tag p0 = 46) (h1 : 0 ≤ p1.toInt ∧ p1.toInt ≤ 30) (mx0 : x0 ∈ L) (gx0 : tag x0 = 45) (pf0 : fld Fo p0 3 = .ref x0) (mx1 : x1 ∈ L) (gx1 : tag x1 = 40) (pf1 : fld Fo p0 24 = .ref x1) : TMv l yX13_findsFirst cX13_findsFirst 4 { frames := 7, cells := 0, slots := 0, locals := 170 } G ttC tag L Fo [.ref p0, .int p1] (fun F1 => ((∀ b j : Nat, (tag b ≠ 46 ∨ j ≠ 22) → (tag b ≠ 46 ∨ j ≠ 23) → (tag b ≠ 46 ∨ j ≠ 28) → fld F1 b j = fld Fo b j) ∧ (∀ b j : Nat, tag b ≠ 37 → tag b ≠ 40 → tag b ≠ 41 → elm F1 b j = elm Fo b j))) := by
  refine t_bodyv (y := yX13_findsFirst) (cd := cX13_findsFirst) (mL := 4) (rm := { frames := 7, cells := 0, slots := 0, locals := 170 }) (av := [.ref p0, .int p1]) (by decide) (Nat.le_of_ble_eq_true rfl) ho ?_
  intro p e s m args below meth c ls A Q hQ X hT hl
  have hx := X.1.1
  have hb := X.1.2.1
  have hl : lv_has ls 4 [(0, .ref p0), (1, .int p1)] := hl
  obtain ⟨F, hFo⟩ : ∃ F : Nat → va_E, F = Fo := ⟨_, rfl⟩
  rw [← hFo] at hT pf0 pf1
  have hfr : (∀ b j : Nat, (tag b ≠ 46 ∨ j ≠ 22) → (tag b ≠ 46 ∨ j ≠ 23) → (tag b ≠ 46 ∨ j ≠ 28) → fld F b j = fld Fo b j) ∧ (∀ b j : Nat, tag b ≠ 37 → tag b ≠ 40 → tag b ≠ 41 → elm F b j = elm Fo b j) := by
    rw [hFo]
    exact ⟨by intros; rfl, by intros; rfl⟩
  have K15 : ∀ (n : Nat) (lx : Int) (z60824 : Int32) (z60825 : Int32) (F : Nat → va_E) (H : Heap) (locs : List Loc) (ls : Array Slot), (1295 - lx < (n : Int)) → (1 ≤ z60824.toInt ∧ z60824.toInt ≤ 1) → TH G ttC A s tag L F H locs → ((∀ b j : Nat, (tag b ≠ 46 ∨ j ≠ 22) → (tag b ≠ 46 ∨ j ≠ 23) → (tag b ≠ 46 ∨ j ≠ 28) → fld F b j = fld Fo b j) ∧ (∀ b j : Nat, tag b ≠ 37 → tag b ≠ 40 → tag b ≠ 41 → elm F b j = elm Fo b j)) → (fld F p0 3 = .ref x0) → (fld F p0 24 = .ref x1) → (fld F p0 28 = .int z60825) → (CAR F x1 4 lx) → lv_has ls 4 [(0, .ref p0), (1, .int p1), (2, .int z60824)] → W p l e { frames := 7, cells := 0, slots := 0, locals := 170 } s m args below meth c H locs 0 0 Q (F0 m 15 ls []) := by
    intro n
    induction n with
    | zero =>
      intro lx z60824 z60825 F H locs ls hn rz60824 hT hfr pf0 pf1 qz60825 hcar hl
      have rz60825 := rg_all z60825
      have h9 := car_b4 hcar
      exfalso
      omega
    | succ n ih15 =>
      intro lx z60824 z60825 F H locs ls hn rz60824 hT hfr pf0 pf1 qz60825 hcar hl
      have rz60825 := rg_all z60825
      have K90 : ∀ (z60826 : Int32) (z60827 : Int32) (F : Nat → va_E) (H : Heap) (locs : List Loc) (ls : Array Slot), (0 ≤ z60826.toInt ∧ z60826.toInt ≤ 39) → TH G ttC A s tag L F H locs → ((∀ b j : Nat, (tag b ≠ 46 ∨ j ≠ 22) → (tag b ≠ 46 ∨ j ≠ 23) → (tag b ≠ 46 ∨ j ≠ 28) → fld F b j = fld Fo b j) ∧ (∀ b j : Nat, tag b ≠ 37 → tag b ≠ 40 → tag b ≠ 41 → elm F b j = elm Fo b j)) → (fld F p0 3 = .ref x0) → (fld F p0 24 = .ref x1) → (fld F p0 28 = .int z60827) → (CAR F x1 4 lx) → lv_has ls 4 [(0, .ref p0), (1, .int p1), (2, .int z60824), (3, .int z60826)] → W p l e { frames := 7, cells := 0, slots := 0, locals := 170 } s m args below meth c H locs 0 0 Q (F0 m 90 ls []) := by
        intro z60826 z60827 F H locs ls rz60826 hT hfr pf0 pf1 qz60827 hcar hl
        have rz60827 := rg_all z60827
        refine lv_aload_n hx hb dX13_findsFirst_90 rfl (lv_at hl 0 rfl) ?_
        refine t_get (C := RX13) (T := TX13) (N := 37) X hT m0 g0 rfl rfl 24 (by decide) qw_116 inlX13 rfl dX13_findsFirst_91 (fun v60828 hv60828 ov60828 => ?_)
        obtain rfl : v60828 = .ref x1 := hv60828.symm.trans pf1
        refine lv_aload_n hx hb dX13_findsFirst_94 rfl (lv_at hl 0 rfl) ?_
        refine t_get (C := RX13) (T := TX13) (N := 37) X hT m0 g0 rfl rfl 3 (by decide) qw_481 inlX13 rfl dX13_findsFirst_95 (fun v60829 hv60829 ov60829 => ?_)
        obtain rfl : v60829 = .ref x0 := hv60829.symm.trans pf0
        refine t_getN (C := RX12) (T := TX12) (N := 31) X hT mx0 gx0 rfl rfl 8 (by decide) (List.mem_of_getElem? (i := 12) rfl) inlX12 rfl dX13_findsFirst_98 (fun v60830 hv60830 ov60830 => ?_)
        obtain ⟨z60831, rfl, rz60831⟩ := okV_i ov60830
        refine t_cSi (n := 2) (As := [.ref x1, .int z60831]) (rest := []) X hT (km203_X13_turns l G tag L F hT.2.2.2 x1 z60831 lx mx1 gx1 (by omega) hcar) qw_1262 qw_1263 qw_5 qw_1264 ⟨by decide +kernel, by decide +kernel, by decide +kernel⟩ ⟨Nat.le_of_ble_eq_true rfl, Nat.le_of_ble_eq_true rfl⟩ hl rfl rfl (Nat.le_of_ble_eq_true rfl) dX13_findsFirst_101 ⟨Nat.le_of_ble_eq_true rfl, Nat.le_of_ble_eq_true rfl⟩ (fun z60832 F H locs hT hz60832 => ?_)
        obtain ⟨hz60832, yz60832, xz60832_0⟩ := hz60832
        have qz60827 := (yz60832.1 _ 28 ).trans qz60827
        have pf0 := (yz60832.1 _ 3 ).trans pf0
        have pf1 := (yz60832.1 _ 24 ).trans pf1
        have hv60830 := (yz60832.1 _ 8 ).trans hv60830
        have hfr : (∀ b j : Nat, (tag b ≠ 46 ∨ j ≠ 22) → (tag b ≠ 46 ∨ j ≠ 23) → (tag b ≠ 46 ∨ j ≠ 28) → fld F b j = fld Fo b j) ∧ (∀ b j : Nat, tag b ≠ 37 → tag b ≠ 40 → tag b ≠ 41 → elm F b j = elm Fo b j) := ⟨fun b j n46_22 n46_23 n46_28 => (yz60832.1 b j ).trans (hfr.1 b j n46_22 n46_23 n46_28), fun b j a37 a40 a41 => (yz60832.2 b j a40).trans (hfr.2 b j a37 a40 a41)⟩
        refine lv_istore_n (lv' := [(2, .int z60832), (0, .ref p0), (1, .int p1), (3, .int z60826)]) hx hb dX13_findsFirst_104 rfl hl (by decide) rfl (fun ls hl => ?_)
        refine lv_goto (tgt := 11) hx hb dX13_findsFirst_105 (by decide) ?_
        refine lv_iload_n hx hb dX13_findsFirst_11 rfl (lv_at hl 0 rfl) ?_
        refine lv_if_eq (tgt := 108) hx hb dX13_findsFirst_12 (by decide) (fun c60833 => ?_) (fun c60833 => ?_)
        · have w60834 := cv_eq (rfl : z60832.toInt = z60832.toInt) (by decide : (0 : Int32).toInt = 0) c60833
          exact t_vret hQ X hT hfr (Nat.le_of_ble_eq_true rfl) (Nat.le_of_ble_eq_true rfl) dX13_findsFirst_108
        · have w60835 := cv_ne (rfl : z60832.toInt = z60832.toInt) (by decide : (0 : Int32).toInt = 0) c60833
          obtain ⟨lx60836, hcar, hlx60836⟩ := xz60832_0 (by omega)
          have h9k60837 := car_b4 hcar
          exact ih15 lx60836 z60832 z60827 _ _ _ _ (by omega) (by omega) hT hfr pf0 pf1 qz60827 hcar (lv_sub hl [1, 2, 0] rfl)
      have K67 : ∀ (n : Nat) (z60838 : Int32) (z60839 : Int32) (F : Nat → va_E) (H : Heap) (locs : List Loc) (ls : Array Slot), (4 - z60838.toInt < (n : Int)) → (0 ≤ z60838.toInt ∧ z60838.toInt ≤ 4) → TH G ttC A s tag L F H locs → ((∀ b j : Nat, (tag b ≠ 46 ∨ j ≠ 22) → (tag b ≠ 46 ∨ j ≠ 23) → (tag b ≠ 46 ∨ j ≠ 28) → fld F b j = fld Fo b j) ∧ (∀ b j : Nat, tag b ≠ 37 → tag b ≠ 40 → tag b ≠ 41 → elm F b j = elm Fo b j)) → (fld F p0 3 = .ref x0) → (fld F p0 24 = .ref x1) → (fld F p0 28 = .int z60839) → (CAR F x1 4 lx) → lv_has ls 4 [(0, .ref p0), (1, .int p1), (2, .int z60824), (3, .int z60838)] → W p l e { frames := 7, cells := 0, slots := 0, locals := 170 } s m args below meth c H locs 0 0 Q (F0 m 67 ls []) := by
        intro n
        induction n with
        | zero =>
          intro z60838 z60839 F H locs ls hn rz60838 hT hfr pf0 pf1 qz60839 hcar hl
          have rz60839 := rg_all z60839
          exfalso
          omega
        | succ n ih67 =>
          intro z60838 z60839 F H locs ls hn rz60838 hT hfr pf0 pf1 qz60839 hcar hl
          have rz60839 := rg_all z60839
          refine lv_iload_n hx hb dX13_findsFirst_67 rfl (lv_at hl 3 rfl) ?_
          refine lv_iconst (v := 4) hx hb dX13_findsFirst_68 (by decide) ?_
          refine lv_icmp_ge (tgt := 90) hx hb dX13_findsFirst_69 (by decide) (fun c60840 => ?_) (fun c60840 => ?_)
          · have w60841 := cv_le (by decide : (4 : Int32).toInt = 4) (rfl : z60838.toInt = z60838.toInt) c60840
            exact K90 z60838 z60839 _ _ _ _ (by omega) hT hfr pf0 pf1 qz60839 hcar (lv_sub hl [0, 1, 2, 3] rfl)
          · have w60842 := cv_nle (by decide : (4 : Int32).toInt = 4) (rfl : z60838.toInt = z60838.toInt) c60840
            refine lv_aload_n hx hb dX13_findsFirst_72 rfl (lv_at hl 0 rfl) ?_
            refine t_get (C := RX13) (T := TX13) (N := 37) X hT m0 g0 rfl rfl 25 (by decide) qw_117 inlX13 rfl dX13_findsFirst_73 (fun v60843 hv60843 ov60843 => ?_)
            obtain ⟨b60844, rfl, mb60844, gb60844⟩ := okV_r ov60843
            have gb60844 : tag b60844 = 41 := tg_of gb60844
            refine lv_iload_n hx hb dX13_findsFirst_76 rfl (lv_at hl 3 rfl) ?_
            refine lv_aload_n hx hb dX13_findsFirst_77 rfl (lv_at hl 0 rfl) ?_
            refine t_get (C := RX13) (T := TX13) (N := 37) X hT m0 g0 rfl rfl 24 (by decide) qw_116 inlX13 rfl dX13_findsFirst_78 (fun v60845 hv60845 ov60845 => ?_)
            obtain rfl : v60845 = .ref x1 := hv60845.symm.trans pf1
            refine lv_iload_n hx hb dX13_findsFirst_81 rfl (lv_at hl 3 rfl) ?_
            refine t_ild X hT mx1 gx1 rfl (by omega) dX13_findsFirst_82 (fun z60846 vz60846 rz60846 => ?_)
            have rz60846 : 0 ≤ z60846.toInt ∧ z60846.toInt ≤ 3 := rz60846
            refine t_ist X hT mb60844 gb60844 rfl (by omega) (show (-2147483648) ≤ (z60846 : Int32).toInt ∧ (z60846 : Int32).toInt ≤ 2147483647 from (rg_all _)) dX13_findsFirst_83 (fun F H locs hT v60847 h1v60847 h2v60847 => ?_)
            have qz60839 := (h2v60847 _ _).trans qz60839
            have pf0 := (h2v60847 _ _).trans pf0
            have pf1 := (h2v60847 _ _).trans pf1
            have hv60843 := (h2v60847 _ _).trans hv60843
            have vz60846 := (h1v60847 _ _ (Or.inl (tne gx1 gb60844 (by decide)))).trans vz60846
            have hfr : (∀ b j : Nat, (tag b ≠ 46 ∨ j ≠ 22) → (tag b ≠ 46 ∨ j ≠ 23) → (tag b ≠ 46 ∨ j ≠ 28) → fld F b j = fld Fo b j) ∧ (∀ b j : Nat, tag b ≠ 37 → tag b ≠ 40 → tag b ≠ 41 → elm F b j = elm Fo b j) := ⟨fun b j n46_22 n46_23 n46_28 => (h2v60847 b j).trans (hfr.1 b j n46_22 n46_23 n46_28), fun b j a37 a40 a41 => (h1v60847 b j (Or.inl (at_ne gb60844 a41))).trans (hfr.2 b j a37 a40 a41)⟩
            have hcar := car_of (fun j => h1v60847 _ j (Or.inl (tne gx1 gb60844 (by decide)))) hcar
            obtain ⟨z60848, ez60848⟩ : ∃ y : Int32, y = z60838 + 1 := ⟨_, rfl⟩
            have hz60848 : z60848.toInt = z60838.toInt + 1 := ar_add ez60848 rfl (by decide : (1 : Int32).toInt = 1) (by omega) (by omega)
            refine lv_iinc (v := z60848) (lv' := [(3, .int z60848), (0, .ref p0), (1, .int p1), (2, .int z60824)]) hx hb dX13_findsFirst_84 hl (k := 3) rfl (by rw [ez60848]; rfl) (by decide) rfl (fun ls hl => ?_)
            refine lv_goto (tgt := 67) hx hb dX13_findsFirst_87 (by decide) ?_
            exact ih67 z60848 z60839 _ _ _ _ (by omega) (by omega) hT hfr pf0 pf1 qz60839 hcar (lv_sub hl [1, 2, 3, 0] rfl)
      have K21 : ∀ (n : Nat) (z60849 : Int32) (z60850 : Int32) (F : Nat → va_E) (H : Heap) (locs : List Loc) (ls : Array Slot), (39 - z60849.toInt < (n : Int)) → (0 ≤ z60849.toInt ∧ z60849.toInt ≤ 39) → TH G ttC A s tag L F H locs → ((∀ b j : Nat, (tag b ≠ 46 ∨ j ≠ 22) → (tag b ≠ 46 ∨ j ≠ 23) → (tag b ≠ 46 ∨ j ≠ 28) → fld F b j = fld Fo b j) ∧ (∀ b j : Nat, tag b ≠ 37 → tag b ≠ 40 → tag b ≠ 41 → elm F b j = elm Fo b j)) → (fld F p0 3 = .ref x0) → (fld F p0 24 = .ref x1) → (fld F p0 28 = .int z60850) → (CAR F x1 4 lx) → lv_has ls 4 [(0, .ref p0), (1, .int p1), (2, .int z60824), (3, .int z60849)] → W p l e { frames := 7, cells := 0, slots := 0, locals := 170 } s m args below meth c H locs 0 0 Q (F0 m 21 ls []) := by
        intro n
        induction n with
        | zero =>
          intro z60849 z60850 F H locs ls hn rz60849 hT hfr pf0 pf1 qz60850 hcar hl
          have rz60850 := rg_all z60850
          exfalso
          omega
        | succ n ih21 =>
          intro z60849 z60850 F H locs ls hn rz60849 hT hfr pf0 pf1 qz60850 hcar hl
          have rz60850 := rg_all z60850
          refine lv_iload_n hx hb dX13_findsFirst_21 rfl (lv_at hl 3 rfl) ?_
          refine lv_iload_n hx hb dX13_findsFirst_22 rfl (lv_at hl 1 rfl) ?_
          refine lv_icmp_ge (tgt := 40) hx hb dX13_findsFirst_23 (by decide) (fun c60851 => ?_) (fun c60851 => ?_)
          · have w60852 := cv_le (rfl : p1.toInt = p1.toInt) (rfl : z60849.toInt = z60849.toInt) c60851
            refine lv_aload_n hx hb dX13_findsFirst_40 rfl (lv_at hl 0 rfl) ?_
            refine t_get (C := RX13) (T := TX13) (N := 37) X hT m0 g0 rfl rfl 17 (by decide) qw_113 inlX13 rfl dX13_findsFirst_41 (fun v60853 hv60853 ov60853 => ?_)
            obtain ⟨b60854, rfl, mb60854, gb60854⟩ := okV_r ov60853
            have gb60854 : tag b60854 = 37 := tg_of gb60854
            refine t_cSi (n := 1) (As := [.ref b60854]) (rest := []) X hT (km187_X13_allSkins l G tag L F hT.2.2.2 b60854 mb60854 gb60854) qw_1190 qw_1191 qw_5 qw_1192 ⟨by decide +kernel, by decide +kernel, by decide +kernel⟩ ⟨Nat.le_of_ble_eq_true rfl, Nat.le_of_ble_eq_true rfl⟩ hl rfl rfl (Nat.le_of_ble_eq_true rfl) dX13_findsFirst_44 ⟨Nat.le_of_ble_eq_true rfl, Nat.le_of_ble_eq_true rfl⟩ (fun z60855 F9 H locs hT hz60855 => ?_)
            obtain ⟨fz60855, hz60855⟩ := hz60855
            rw [fz60855] at hT
            refine lv_aload_n hx hb dX13_findsFirst_47 rfl (lv_at hl 0 rfl) ?_
            refine t_get (C := RX13) (T := TX13) (N := 37) X hT m0 g0 rfl rfl 28 (by decide) qw_1257 inlX13 rfl dX13_findsFirst_48 (fun v60856 hv60856 ov60856 => ?_)
            obtain rfl : v60856 = .int z60850 := hv60856.symm.trans qz60850
            refine lv_icmp_le (tgt := 90) hx hb dX13_findsFirst_51 (by decide) (fun c60857 => ?_) (fun c60857 => ?_)
            · have w60858 := cv_le (rfl : z60855.toInt = z60855.toInt) (rfl : z60850.toInt = z60850.toInt) c60857
              exact K90 z60849 z60850 _ _ _ _ (by omega) hT hfr pf0 pf1 qz60850 hcar (lv_sub hl [0, 1, 2, 3] rfl)
            · have w60859 := cv_nle (rfl : z60855.toInt = z60855.toInt) (rfl : z60850.toInt = z60850.toInt) c60857
              refine lv_aload_n hx hb dX13_findsFirst_54 rfl (lv_at hl 0 rfl) ?_
              refine lv_aload_n hx hb dX13_findsFirst_55 rfl (lv_at hl 0 rfl) ?_
              refine t_get (C := RX13) (T := TX13) (N := 37) X hT m0 g0 rfl rfl 17 (by decide) qw_113 inlX13 rfl dX13_findsFirst_56 (fun v60860 hv60860 ov60860 => ?_)
              obtain rfl : v60860 = .ref b60854 := hv60860.symm.trans hv60853
              refine t_cSi (n := 1) (As := [.ref b60854]) (rest := [.ref p0]) X hT (km187_X13_allSkins l G tag L F hT.2.2.2 b60854 mb60854 gb60854) qw_1190 qw_1191 qw_5 qw_1192 ⟨by decide +kernel, by decide +kernel, by decide +kernel⟩ ⟨Nat.le_of_ble_eq_true rfl, Nat.le_of_ble_eq_true rfl⟩ hl rfl rfl (Nat.le_of_ble_eq_true rfl) dX13_findsFirst_59 ⟨Nat.le_of_ble_eq_true rfl, Nat.le_of_ble_eq_true rfl⟩ (fun z60861 F9 H locs hT hz60861 => ?_)
              obtain ⟨fz60861, hz60861⟩ := hz60861
              rw [fz60861] at hT
              refine t_put (C := RX13) (T := TX13) (N := 37) (v := .int z60861) X hT m0 g0 rfl tyX13 tyX13_ok nmX13 rfl 28 (by decide) qw_1257 inlX13 rfl (by first | rfl | decide) (by first | rfl | decide) rfl (⟨_, rfl, (show (-2147483648) ≤ (z60861 : Int32).toInt from (by omega)), (show (z60861 : Int32).toInt ≤ 2147483647 from (by omega))⟩) dX13_findsFirst_62 (fun F H locs hT v60862 h1v60862 h2v60862 => ?_)
              have pf0 := (h1v60862 _ _ (Or.inr (by decide))).trans pf0
              have pf1 := (h1v60862 _ _ (Or.inr (by decide))).trans pf1
              have hv60853 := (h1v60862 _ _ (Or.inr (by decide))).trans hv60853
              have hfr : (∀ b j : Nat, (tag b ≠ 46 ∨ j ≠ 22) → (tag b ≠ 46 ∨ j ≠ 23) → (tag b ≠ 46 ∨ j ≠ 28) → fld F b j = fld Fo b j) ∧ (∀ b j : Nat, tag b ≠ 37 → tag b ≠ 40 → tag b ≠ 41 → elm F b j = elm Fo b j) := ⟨fun b j n46_22 n46_23 n46_28 => (h1v60862 b j (fr_ne g0 n46_28)).trans (hfr.1 b j n46_22 n46_23 n46_28), fun b j a37 a40 a41 => (h2v60862 b j).trans (hfr.2 b j a37 a40 a41)⟩
              have hcar := car_of (fun j => h2v60862 _ j) hcar
              refine lv_iconst (v := 0) hx hb dX13_findsFirst_65 (by decide) ?_
              refine lv_istore_n (lv' := [(3, .int 0), (0, .ref p0), (1, .int p1), (2, .int z60824)]) hx hb dX13_findsFirst_66 rfl hl (by decide) rfl (fun ls hl => ?_)
              have k60863 : (0 : Int32).toInt = 0 := by decide
              exact K67 5 0 z60861 _ _ _ _ (by omega) (by decide) hT hfr pf0 pf1 v60862 hcar (lv_sub hl [1, 2, 3, 0] rfl)
          · have w60864 := cv_nle (rfl : p1.toInt = p1.toInt) (rfl : z60849.toInt = z60849.toInt) c60851
            refine lv_aload_n hx hb dX13_findsFirst_26 rfl (lv_at hl 0 rfl) ?_
            refine lv_aload_n hx hb dX13_findsFirst_27 rfl (lv_at hl 0 rfl) ?_
            refine t_get (C := RX13) (T := TX13) (N := 37) X hT m0 g0 rfl rfl 17 (by decide) qw_113 inlX13 rfl dX13_findsFirst_28 (fun v60865 hv60865 ov60865 => ?_)
            obtain ⟨b60866, rfl, mb60866, gb60866⟩ := okV_r ov60865
            have gb60866 : tag b60866 = 37 := tg_of gb60866
            refine t_cVv (n := 1) (C := RX13) (T := TX13) (N := 37) (As := [.ref b60866]) (rest := []) X hT (km181_X13_goesBy l G tag L F hT.2.2.2 p0 b60866 x0 m0 g0 mb60866 gb60866 mx0 gx0 pf0) m0 g0 rfl rfl qw_1160 qw_1161 qw_1162 qw_5 qw_1163 ⟨rfl, by decide +kernel, by decide +kernel, by decide +kernel⟩ ⟨Nat.le_of_ble_eq_true rfl, Nat.le_of_ble_eq_true rfl⟩ hl rfl rfl (Nat.le_of_ble_eq_true rfl) dX13_findsFirst_31 ⟨Nat.le_of_ble_eq_true rfl, Nat.le_of_ble_eq_true rfl⟩ (fun F H locs hT hz60867 => ?_)
            have yz60867 := hz60867
            have qz60850 := (yz60867.1 _ 28 (Or.inr (by decide)) (Or.inr (by decide))).trans qz60850
            have pf0 := (yz60867.1 _ 3 (Or.inr (by decide)) (Or.inr (by decide))).trans pf0
            have pf1 := (yz60867.1 _ 24 (Or.inr (by decide)) (Or.inr (by decide))).trans pf1
            have hv60865 := (yz60867.1 _ 17 (Or.inr (by decide)) (Or.inr (by decide))).trans hv60865
            have hfr : (∀ b j : Nat, (tag b ≠ 46 ∨ j ≠ 22) → (tag b ≠ 46 ∨ j ≠ 23) → (tag b ≠ 46 ∨ j ≠ 28) → fld F b j = fld Fo b j) ∧ (∀ b j : Nat, tag b ≠ 37 → tag b ≠ 40 → tag b ≠ 41 → elm F b j = elm Fo b j) := ⟨fun b j n46_22 n46_23 n46_28 => (yz60867.1 b j n46_22 n46_23).trans (hfr.1 b j n46_22 n46_23 n46_28), fun b j a37 a40 a41 => (yz60867.2 b j a37).trans (hfr.2 b j a37 a40 a41)⟩
            have hcar := car_of (fun j => yz60867.2 _ j (by rw [gx1]; decide)) hcar
            obtain ⟨z60868, ez60868⟩ : ∃ y : Int32, y = z60849 + 1 := ⟨_, rfl⟩
            have hz60868 : z60868.toInt = z60849.toInt + 1 := ar_add ez60868 rfl (by decide : (1 : Int32).toInt = 1) (by omega) (by omega)
            refine lv_iinc (v := z60868) (lv' := [(3, .int z60868), (0, .ref p0), (1, .int p1), (2, .int z60824)]) hx hb dX13_findsFirst_34 hl (k := 3) rfl (by rw [ez60868]; rfl) (by decide) rfl (fun ls hl => ?_)
            refine lv_goto (tgt := 21) hx hb dX13_findsFirst_37 (by decide) ?_
            exact ih21 z60868 z60850 _ _ _ _ (by omega) (by omega) hT hfr pf0 pf1 qz60850 hcar (lv_sub hl [1, 2, 3, 0] rfl)
      refine lv_aload_n hx hb dX13_findsFirst_15 rfl (lv_at hl 0 rfl) ?_
      refine t_cVv (n := 0) (C := RX13) (T := TX13) (N := 37) (As := []) (rest := []) X hT (km176_X13_copies l G tag L F hT.2.2.2 p0 m0 g0) m0 g0 rfl rfl qw_1152 qw_1153 qw_1154 qw_5 qw_1155 ⟨rfl, by decide +kernel, by decide +kernel, by decide +kernel⟩ ⟨Nat.le_of_ble_eq_true rfl, Nat.le_of_ble_eq_true rfl⟩ hl rfl rfl (Nat.le_of_ble_eq_true rfl) dX13_findsFirst_16 ⟨Nat.le_of_ble_eq_true rfl, Nat.le_of_ble_eq_true rfl⟩ (fun F H locs hT hz60869 => ?_)
      have yz60869 := hz60869
      have qz60825 := (yz60869.1 _ 28 ).trans qz60825
      have pf0 := (yz60869.1 _ 3 ).trans pf0
      have pf1 := (yz60869.1 _ 24 ).trans pf1
      have hfr : (∀ b j : Nat, (tag b ≠ 46 ∨ j ≠ 22) → (tag b ≠ 46 ∨ j ≠ 23) → (tag b ≠ 46 ∨ j ≠ 28) → fld F b j = fld Fo b j) ∧ (∀ b j : Nat, tag b ≠ 37 → tag b ≠ 40 → tag b ≠ 41 → elm F b j = elm Fo b j) := ⟨fun b j n46_22 n46_23 n46_28 => (yz60869.1 b j ).trans (hfr.1 b j n46_22 n46_23 n46_28), fun b j a37 a40 a41 => (yz60869.2 b j a37).trans (hfr.2 b j a37 a40 a41)⟩
      have hcar := car_of (fun j => yz60869.2 _ j (by rw [gx1]; decide)) hcar
      refine lv_iconst (v := 0) hx hb dX13_findsFirst_19 (by decide) ?_
      refine lv_istore_n (lv' := [(3, .int 0), (0, .ref p0), (1, .int p1), (2, .int z60824)]) hx hb dX13_findsFirst_20 rfl hl (by decide) rfl (fun ls hl => ?_)
      have k60870 : (0 : Int32).toInt = 0 := by decide
      exact K21 40 0 z60825 _ _ _ _ (by omega) (by decide) hT hfr pf0 pf1 qz60825 hcar (lv_sub hl [1, 2, 3, 0] rfl)
  refine lv_aload_n hx hb dX13_findsFirst_0 rfl (lv_at hl 0 rfl) ?_
  refine lv_iconst (v := (-1)) hx hb dX13_findsFirst_1 (by decide) ?_
  refine t_put (C := RX13) (T := TX13) (N := 37) (v := .int (-1)) X hT m0 g0 rfl tyX13 tyX13_ok nmX13 rfl 28 (by decide) qw_1257 inlX13 rfl (by first | rfl | decide) (by first | rfl | decide) rfl (⟨_, rfl, (show (-2147483648) ≤ ((-1) : Int32).toInt from (by decide)), (show ((-1) : Int32).toInt ≤ 2147483647 from (by decide))⟩) dX13_findsFirst_2 (fun F H locs hT v60871 h1v60871 h2v60871 => ?_)
  have pf0 := (h1v60871 _ _ (Or.inr (by decide))).trans pf0
  have pf1 := (h1v60871 _ _ (Or.inr (by decide))).trans pf1
  have hfr : (∀ b j : Nat, (tag b ≠ 46 ∨ j ≠ 22) → (tag b ≠ 46 ∨ j ≠ 23) → (tag b ≠ 46 ∨ j ≠ 28) → fld F b j = fld Fo b j) ∧ (∀ b j : Nat, tag b ≠ 37 → tag b ≠ 40 → tag b ≠ 41 → elm F b j = elm Fo b j) := ⟨fun b j n46_22 n46_23 n46_28 => (h1v60871 b j (fr_ne g0 n46_28)).trans (hfr.1 b j n46_22 n46_23 n46_28), fun b j a37 a40 a41 => (h2v60871 b j).trans (hfr.2 b j a37 a40 a41)⟩
  refine lv_aload_n hx hb dX13_findsFirst_5 rfl (lv_at hl 0 rfl) ?_
  refine t_cVv (n := 0) (C := RX13) (T := TX13) (N := 37) (As := []) (rest := []) X hT (km177_X13_byNumbers l G tag L F hT.2.2.2 p0 x1 m0 g0 mx1 gx1 pf1) m0 g0 rfl rfl qw_1156 qw_1157 qw_1158 qw_5 qw_1159 ⟨rfl, by decide +kernel, by decide +kernel, by decide +kernel⟩ ⟨Nat.le_of_ble_eq_true rfl, Nat.le_of_ble_eq_true rfl⟩ hl rfl rfl (Nat.le_of_ble_eq_true rfl) dX13_findsFirst_6 ⟨Nat.le_of_ble_eq_true rfl, Nat.le_of_ble_eq_true rfl⟩ (fun F H locs hT hz60872 => ?_)
  obtain ⟨yz60872, xz60872_0⟩ := hz60872
  have pf0 := (yz60872.1 _ 3 ).trans pf0
  have pf1 := (yz60872.1 _ 24 ).trans pf1
  have v60871 := (yz60872.1 _ 28 ).trans v60871
  have hfr : (∀ b j : Nat, (tag b ≠ 46 ∨ j ≠ 22) → (tag b ≠ 46 ∨ j ≠ 23) → (tag b ≠ 46 ∨ j ≠ 28) → fld F b j = fld Fo b j) ∧ (∀ b j : Nat, tag b ≠ 37 → tag b ≠ 40 → tag b ≠ 41 → elm F b j = elm Fo b j) := ⟨fun b j n46_22 n46_23 n46_28 => (yz60872.1 b j ).trans (hfr.1 b j n46_22 n46_23 n46_28), fun b j a37 a40 a41 => (yz60872.2 b j a40).trans (hfr.2 b j a37 a40 a41)⟩
  obtain ⟨lx, hcar⟩ := xz60872_0
  refine lv_iconst (v := 1) hx hb dX13_findsFirst_9 (by decide) ?_
  refine lv_istore_n (lv' := [(2, .int 1), (0, .ref p0), (1, .int p1)]) hx hb dX13_findsFirst_10 rfl hl (by decide) rfl (fun ls hl => ?_)
  refine lv_iload_n hx hb dX13_findsFirst_11 rfl (lv_at hl 0 rfl) ?_
  refine lv_if_eq (tgt := 108) hx hb dX13_findsFirst_12 (by decide) (fun c9 => absurd c9 (by decide)) (fun _ => ?_)
  have k60873 : (1 : Int32).toInt = 1 := by decide
  have k60874 : ((-1) : Int32).toInt = (-1) := by decide
  have h9k60875 := car_b4 hcar
  exact K15 1296 lx 1 (-1) _ _ _ _ (by omega) (by decide) hT hfr pf0 pf1 v60871 hcar (lv_sub hl [1, 2, 0] rfl)
set_option maxHeartbeats 4000000 in
set_option maxRecDepth 100000 in
theorem km205_X13_first (l : Launch) (G : KG) (tag : Nat → Nat) (L : List Nat) (Fo : Nat → va_E) (ho : okT G ttC tag L Fo) (p0 : Nat) (p1 : Int32) (x0 : Nat) (m0 : p0 ∈ L) (g0 : tag p0 = 46) (mx0 : x0 ∈ L) (gx0 : tag x0 = 45) (pf0 : fld Fo p0 3 = .ref x0) : TMi l yX13_first cX13_first 3 (some .int) { frames := 8, cells := 0, slots := 0, locals := 193 } G ttC tag L Fo [.ref p0, .int p1] (fun r F1 => ((-2147483648) ≤ r.toInt ∧ r.toInt ≤ 2147483647) ∧ ((∀ b j : Nat, (tag b ≠ 46 ∨ j ≠ 0) → (tag b ≠ 46 ∨ j ≠ 1) → (tag b ≠ 46 ∨ j ≠ 2) → (tag b ≠ 46 ∨ j ≠ 22) → (tag b ≠ 46 ∨ j ≠ 23) → (tag b ≠ 46 ∨ j ≠ 28) → fld F1 b j = fld Fo b j) ∧ (∀ b j : Nat, tag b ≠ 37 → tag b ≠ 40 → tag b ≠ 41 → elm F1 b j = elm Fo b j))) := by
  refine t_bodyi (y := yX13_first) (cd := cX13_first) (mL := 3) (rt := (some .int)) (rm := { frames := 8, cells := 0, slots := 0, locals := 193 }) (av := [.ref p0, .int p1]) (by decide) (Nat.le_of_ble_eq_true rfl) ho ?_
  intro p e s m args below meth c ls A Q hQ X hT hl
  have hx := X.1.1
  have hb := X.1.2.1
  have hl : lv_has ls 3 [(0, .ref p0), (1, .int p1)] := hl
  have rp1 := rg_all p1
  obtain ⟨F, hFo⟩ : ∃ F : Nat → va_E, F = Fo := ⟨_, rfl⟩
  rw [← hFo] at hT pf0
  have hfr : (∀ b j : Nat, (tag b ≠ 46 ∨ j ≠ 0) → (tag b ≠ 46 ∨ j ≠ 1) → (tag b ≠ 46 ∨ j ≠ 2) → (tag b ≠ 46 ∨ j ≠ 22) → (tag b ≠ 46 ∨ j ≠ 23) → (tag b ≠ 46 ∨ j ≠ 28) → fld F b j = fld Fo b j) ∧ (∀ b j : Nat, tag b ≠ 37 → tag b ≠ 40 → tag b ≠ 41 → elm F b j = elm Fo b j) := by
    rw [hFo]
    exact ⟨by intros; rfl, by intros; rfl⟩
  refine lv_aload_n hx hb dX13_first_0 rfl (lv_at hl 0 rfl) ?_
  refine lv_iconst (v := 0) hx hb dX13_first_1 (by decide) ?_
  refine t_put (C := RX13) (T := TX13) (N := 37) (v := .int 0) X hT m0 g0 rfl tyX13 tyX13_ok nmX13 rfl 0 (by decide) qw_140 inlX13 rfl (by first | rfl | decide) (by first | rfl | decide) rfl (⟨_, rfl, (show (-2147483648) ≤ (0 : Int32).toInt from (by decide)), (show (0 : Int32).toInt ≤ 2147483647 from (by decide))⟩) dX13_first_2 (fun F H locs hT v61023 h1v61023 h2v61023 => ?_)
  have pf0 := (h1v61023 _ _ (Or.inr (by decide))).trans pf0
  have hfr : (∀ b j : Nat, (tag b ≠ 46 ∨ j ≠ 0) → (tag b ≠ 46 ∨ j ≠ 1) → (tag b ≠ 46 ∨ j ≠ 2) → (tag b ≠ 46 ∨ j ≠ 22) → (tag b ≠ 46 ∨ j ≠ 23) → (tag b ≠ 46 ∨ j ≠ 28) → fld F b j = fld Fo b j) ∧ (∀ b j : Nat, tag b ≠ 37 → tag b ≠ 40 → tag b ≠ 41 → elm F b j = elm Fo b j) := ⟨fun b j n46_0 n46_1 n46_2 n46_22 n46_23 n46_28 => (h1v61023 b j (fr_ne g0 n46_0)).trans (hfr.1 b j n46_0 n46_1 n46_2 n46_22 n46_23 n46_28), fun b j a37 a40 a41 => (h2v61023 b j).trans (hfr.2 b j a37 a40 a41)⟩
  refine lv_aload_n hx hb dX13_first_5 rfl (lv_at hl 0 rfl) ?_
  refine lv_iconst (v := 1) hx hb dX13_first_6 (by decide) ?_
  refine lv_iload_n hx hb dX13_first_7 rfl (lv_at hl 1 rfl) ?_
  refine lv_bipush (v := 30) hx hb dX13_first_8 (by decide) ?_
  refine t_cVi (n := 3) (C := RX13) (T := TX13) (N := 37) (As := [.int 1, .int p1, .int 30]) (rest := []) X hT (km175_X13_refusesIn l G tag L F hT.2.2.2 p0 1 p1 30 x0 m0 g0 (by decide) mx0 gx0 pf0) m0 g0 rfl rfl qw_1144 qw_1145 qw_1146 qw_5 qw_1147 ⟨rfl, by decide +kernel, by decide +kernel, by decide +kernel⟩ ⟨Nat.le_of_ble_eq_true rfl, Nat.le_of_ble_eq_true rfl⟩ hl rfl rfl (Nat.le_of_ble_eq_true rfl) dX13_first_10 ⟨Nat.le_of_ble_eq_true rfl, Nat.le_of_ble_eq_true rfl⟩ (fun z61024 F9 H locs hT hz61024 => ?_)
  obtain ⟨fz61024, hz61024, xz61024_0⟩ := hz61024
  rw [fz61024] at hT
  have k61025 : (1 : Int32).toInt = 1 := by decide
  have k61026 : (30 : Int32).toInt = 30 := by decide
  refine lv_istore_n (lv' := [(2, .int z61024), (0, .ref p0), (1, .int p1)]) hx hb dX13_first_13 rfl hl (by decide) rfl (fun ls hl => ?_)
  refine lv_iload_n hx hb dX13_first_14 rfl (lv_at hl 0 rfl) ?_
  refine lv_if_le (tgt := 24) hx hb dX13_first_15 (by decide) (fun c61027 => ?_) (fun c61027 => ?_)
  · have w61028 := cv_le (rfl : z61024.toInt = z61024.toInt) (by decide : (0 : Int32).toInt = 0) c61027
    have w61029 := xz61024_0 (by omega)
    refine lv_aload_n hx hb dX13_first_24 rfl (lv_at hl 1 rfl) ?_
    refine lv_iload_n hx hb dX13_first_25 rfl (lv_at hl 2 rfl) ?_
    obtain ⟨z61030, qz61030, mz61030, gz61030⟩ := t_fldr hT m0 g0 rfl 24 rfl
    have gz61030 : tag z61030 = 40 := tg_of gz61030
    refine t_cVv (n := 1) (C := RX13) (T := TX13) (N := 37) (As := [.int p1]) (rest := []) X hT (km204_X13_findsFirst l G tag L F hT.2.2.2 p0 p1 x0 z61030 m0 g0 (by omega) mx0 gx0 pf0 mz61030 gz61030 qz61030) m0 g0 rfl rfl qw_1258 qw_1259 qw_1260 qw_5 qw_1261 ⟨rfl, by decide +kernel, by decide +kernel, by decide +kernel⟩ ⟨Nat.le_of_ble_eq_true rfl, Nat.le_of_ble_eq_true rfl⟩ hl rfl rfl (Nat.le_of_ble_eq_true rfl) dX13_first_26 ⟨Nat.le_of_ble_eq_true rfl, Nat.le_of_ble_eq_true rfl⟩ (fun F H locs hT hz61031 => ?_)
    have yz61031 := hz61031
    have pf0 := (yz61031.1 _ 3 (Or.inr (by decide)) (Or.inr (by decide)) (Or.inr (by decide))).trans pf0
    have v61023 := (yz61031.1 _ 0 (Or.inr (by decide)) (Or.inr (by decide)) (Or.inr (by decide))).trans v61023
    have qz61030 := (yz61031.1 _ 24 (Or.inr (by decide)) (Or.inr (by decide)) (Or.inr (by decide))).trans qz61030
    have hfr : (∀ b j : Nat, (tag b ≠ 46 ∨ j ≠ 0) → (tag b ≠ 46 ∨ j ≠ 1) → (tag b ≠ 46 ∨ j ≠ 2) → (tag b ≠ 46 ∨ j ≠ 22) → (tag b ≠ 46 ∨ j ≠ 23) → (tag b ≠ 46 ∨ j ≠ 28) → fld F b j = fld Fo b j) ∧ (∀ b j : Nat, tag b ≠ 37 → tag b ≠ 40 → tag b ≠ 41 → elm F b j = elm Fo b j) := ⟨fun b j n46_0 n46_1 n46_2 n46_22 n46_23 n46_28 => (yz61031.1 b j n46_22 n46_23 n46_28).trans (hfr.1 b j n46_0 n46_1 n46_2 n46_22 n46_23 n46_28), fun b j a37 a40 a41 => (yz61031.2 b j a37 a40 a41).trans (hfr.2 b j a37 a40 a41)⟩
    refine lv_aload_n hx hb dX13_first_29 rfl (lv_at hl 1 rfl) ?_
    refine lv_aload_n hx hb dX13_first_30 rfl (lv_at hl 1 rfl) ?_
    refine t_get (C := RX13) (T := TX13) (N := 37) X hT m0 g0 rfl rfl 28 (by decide) qw_1257 inlX13 rfl dX13_first_31 (fun v61032 hv61032 ov61032 => ?_)
    obtain ⟨z61033, rfl, rz61033⟩ := okV_i ov61032
    refine t_cVi (n := 1) (C := RX13) (T := TX13) (N := 37) (As := [.int z61033]) (rest := []) X hT (km93_X13_good l G tag L F hT.2.2.2 p0 z61033 m0 g0) m0 g0 rfl rfl qw_687 qw_688 qw_689 qw_5 qw_690 ⟨rfl, by decide +kernel, by decide +kernel, by decide +kernel⟩ ⟨Nat.le_of_ble_eq_true rfl, Nat.le_of_ble_eq_true rfl⟩ hl rfl rfl (Nat.le_of_ble_eq_true rfl) dX13_first_34 ⟨Nat.le_of_ble_eq_true rfl, Nat.le_of_ble_eq_true rfl⟩ (fun z61034 F H locs hT hz61034 => ?_)
    obtain ⟨hz61034, yz61034⟩ := hz61034
    have pf0 := (yz61034.1 _ 3 (Or.inr (by decide)) (Or.inr (by decide))).trans pf0
    have v61023 := (yz61034.1 _ 0 (Or.inr (by decide)) (Or.inr (by decide))).trans v61023
    have qz61030 := (yz61034.1 _ 24 (Or.inr (by decide)) (Or.inr (by decide))).trans qz61030
    have hv61032 := (yz61034.1 _ 28 (Or.inr (by decide)) (Or.inr (by decide))).trans hv61032
    have hfr : (∀ b j : Nat, (tag b ≠ 46 ∨ j ≠ 0) → (tag b ≠ 46 ∨ j ≠ 1) → (tag b ≠ 46 ∨ j ≠ 2) → (tag b ≠ 46 ∨ j ≠ 22) → (tag b ≠ 46 ∨ j ≠ 23) → (tag b ≠ 46 ∨ j ≠ 28) → fld F b j = fld Fo b j) ∧ (∀ b j : Nat, tag b ≠ 37 → tag b ≠ 40 → tag b ≠ 41 → elm F b j = elm Fo b j) := ⟨fun b j n46_0 n46_1 n46_2 n46_22 n46_23 n46_28 => (yz61034.1 b j n46_1 n46_2).trans (hfr.1 b j n46_0 n46_1 n46_2 n46_22 n46_23 n46_28), fun b j a37 a40 a41 => (yz61034.2 b j ).trans (hfr.2 b j a37 a40 a41)⟩
    exact t_iret hQ X hT (⟨rg_all _, hfr⟩) (Nat.le_of_ble_eq_true rfl) (Nat.le_of_ble_eq_true rfl) dX13_first_37
  · have w61035 := cv_nle (rfl : z61024.toInt = z61024.toInt) (by decide : (0 : Int32).toInt = 0) c61027
    refine lv_aload_n hx hb dX13_first_18 rfl (lv_at hl 1 rfl) ?_
    refine lv_iload_n hx hb dX13_first_19 rfl (lv_at hl 0 rfl) ?_
    refine t_cVi (n := 1) (C := RX13) (T := TX13) (N := 37) (As := [.int z61024]) (rest := []) X hT (km88_X13_refused l G tag L F hT.2.2.2 p0 z61024 m0 g0) m0 g0 rfl rfl qw_484 qw_485 qw_486 qw_5 qw_487 ⟨rfl, by decide +kernel, by decide +kernel, by decide +kernel⟩ ⟨Nat.le_of_ble_eq_true rfl, Nat.le_of_ble_eq_true rfl⟩ hl rfl rfl (Nat.le_of_ble_eq_true rfl) dX13_first_20 ⟨Nat.le_of_ble_eq_true rfl, Nat.le_of_ble_eq_true rfl⟩ (fun z61036 F H locs hT hz61036 => ?_)
    obtain ⟨hz61036, yz61036⟩ := hz61036
    have pf0 := (yz61036.1 _ 3 (Or.inr (by decide)) (Or.inr (by decide))).trans pf0
    have v61023 := (yz61036.1 _ 0 (Or.inr (by decide)) (Or.inr (by decide))).trans v61023
    have hfr : (∀ b j : Nat, (tag b ≠ 46 ∨ j ≠ 0) → (tag b ≠ 46 ∨ j ≠ 1) → (tag b ≠ 46 ∨ j ≠ 2) → (tag b ≠ 46 ∨ j ≠ 22) → (tag b ≠ 46 ∨ j ≠ 23) → (tag b ≠ 46 ∨ j ≠ 28) → fld F b j = fld Fo b j) ∧ (∀ b j : Nat, tag b ≠ 37 → tag b ≠ 40 → tag b ≠ 41 → elm F b j = elm Fo b j) := ⟨fun b j n46_0 n46_1 n46_2 n46_22 n46_23 n46_28 => (yz61036.1 b j n46_1 n46_2).trans (hfr.1 b j n46_0 n46_1 n46_2 n46_22 n46_23 n46_28), fun b j a37 a40 a41 => (yz61036.2 b j ).trans (hfr.2 b j a37 a40 a41)⟩
    exact t_iret hQ X hT (⟨rg_all _, hfr⟩) (Nat.le_of_ble_eq_true rfl) (Nat.le_of_ble_eq_true rfl) dX13_first_23
set_option maxHeartbeats 4000000 in
set_option maxRecDepth 100000 in
theorem km206_X13_first (l : Launch) (G : KG) (tag : Nat → Nat) (L : List Nat) (Fo : Nat → va_E) (ho : okT G ttC tag L Fo) (p0 : Nat) (p1 : Int32) (m0 : p0 ∈ L) (g0 : tag p0 = 46) (pf0 : fld Fo p0 3 = .null) : TMi l yX13_first cX13_first 3 (some .int) { frames := 8, cells := 0, slots := 0, locals := 193 } G ttC tag L Fo [.ref p0, .int p1] (fun r F1 => ((-2147483648) ≤ r.toInt ∧ r.toInt ≤ 2147483647) ∧ ((∀ b j : Nat, (tag b ≠ 46 ∨ j ≠ 0) → (tag b ≠ 46 ∨ j ≠ 1) → (tag b ≠ 46 ∨ j ≠ 2) → (tag b ≠ 46 ∨ j ≠ 22) → (tag b ≠ 46 ∨ j ≠ 23) → (tag b ≠ 46 ∨ j ≠ 28) → fld F1 b j = fld Fo b j) ∧ (∀ b j : Nat, tag b ≠ 37 → tag b ≠ 40 → tag b ≠ 41 → elm F1 b j = elm Fo b j))) := by
  refine t_bodyi (y := yX13_first) (cd := cX13_first) (mL := 3) (rt := (some .int)) (rm := { frames := 8, cells := 0, slots := 0, locals := 193 }) (av := [.ref p0, .int p1]) (by decide) (Nat.le_of_ble_eq_true rfl) ho ?_
  intro p e s m args below meth c ls A Q hQ X hT hl
  have hx := X.1.1
  have hb := X.1.2.1
  have hl : lv_has ls 3 [(0, .ref p0), (1, .int p1)] := hl
  have rp1 := rg_all p1
  obtain ⟨F, hFo⟩ : ∃ F : Nat → va_E, F = Fo := ⟨_, rfl⟩
  rw [← hFo] at hT pf0
  have hfr : (∀ b j : Nat, (tag b ≠ 46 ∨ j ≠ 0) → (tag b ≠ 46 ∨ j ≠ 1) → (tag b ≠ 46 ∨ j ≠ 2) → (tag b ≠ 46 ∨ j ≠ 22) → (tag b ≠ 46 ∨ j ≠ 23) → (tag b ≠ 46 ∨ j ≠ 28) → fld F b j = fld Fo b j) ∧ (∀ b j : Nat, tag b ≠ 37 → tag b ≠ 40 → tag b ≠ 41 → elm F b j = elm Fo b j) := by
    rw [hFo]
    exact ⟨by intros; rfl, by intros; rfl⟩
  refine lv_aload_n hx hb dX13_first_0 rfl (lv_at hl 0 rfl) ?_
  refine lv_iconst (v := 0) hx hb dX13_first_1 (by decide) ?_
  refine t_put (C := RX13) (T := TX13) (N := 37) (v := .int 0) X hT m0 g0 rfl tyX13 tyX13_ok nmX13 rfl 0 (by decide) qw_140 inlX13 rfl (by first | rfl | decide) (by first | rfl | decide) rfl (⟨_, rfl, (show (-2147483648) ≤ (0 : Int32).toInt from (by decide)), (show (0 : Int32).toInt ≤ 2147483647 from (by decide))⟩) dX13_first_2 (fun F H locs hT v61103 h1v61103 h2v61103 => ?_)
  have pf0 := (h1v61103 _ _ (Or.inr (by decide))).trans pf0
  have hfr : (∀ b j : Nat, (tag b ≠ 46 ∨ j ≠ 0) → (tag b ≠ 46 ∨ j ≠ 1) → (tag b ≠ 46 ∨ j ≠ 2) → (tag b ≠ 46 ∨ j ≠ 22) → (tag b ≠ 46 ∨ j ≠ 23) → (tag b ≠ 46 ∨ j ≠ 28) → fld F b j = fld Fo b j) ∧ (∀ b j : Nat, tag b ≠ 37 → tag b ≠ 40 → tag b ≠ 41 → elm F b j = elm Fo b j) := ⟨fun b j n46_0 n46_1 n46_2 n46_22 n46_23 n46_28 => (h1v61103 b j (fr_ne g0 n46_0)).trans (hfr.1 b j n46_0 n46_1 n46_2 n46_22 n46_23 n46_28), fun b j a37 a40 a41 => (h2v61103 b j).trans (hfr.2 b j a37 a40 a41)⟩
  refine lv_aload_n hx hb dX13_first_5 rfl (lv_at hl 0 rfl) ?_
  refine lv_iconst (v := 1) hx hb dX13_first_6 (by decide) ?_
  refine lv_iload_n hx hb dX13_first_7 rfl (lv_at hl 1 rfl) ?_
  refine lv_bipush (v := 30) hx hb dX13_first_8 (by decide) ?_
  refine t_cVi (n := 3) (C := RX13) (T := TX13) (N := 37) (As := [.int 1, .int p1, .int 30]) (rest := []) X hT (km189_X13_refusesIn l G tag L F hT.2.2.2 p0 1 p1 30 m0 g0 (by decide) pf0) m0 g0 rfl rfl qw_1144 qw_1145 qw_1146 qw_5 qw_1147 ⟨rfl, by decide +kernel, by decide +kernel, by decide +kernel⟩ ⟨Nat.le_of_ble_eq_true rfl, Nat.le_of_ble_eq_true rfl⟩ hl rfl rfl (Nat.le_of_ble_eq_true rfl) dX13_first_10 ⟨Nat.le_of_ble_eq_true rfl, Nat.le_of_ble_eq_true rfl⟩ (fun z61104 F9 H locs hT hz61104 => ?_)
  obtain ⟨fz61104, hz61104⟩ := hz61104
  rw [fz61104] at hT
  refine lv_istore_n (lv' := [(2, .int z61104), (0, .ref p0), (1, .int p1)]) hx hb dX13_first_13 rfl hl (by decide) rfl (fun ls hl => ?_)
  refine lv_iload_n hx hb dX13_first_14 rfl (lv_at hl 0 rfl) ?_
  refine lv_if_le (tgt := 24) hx hb dX13_first_15 (by decide) (fun c61105 => ?_) (fun c61105 => ?_)
  · have w61106 := cv_le (rfl : z61104.toInt = z61104.toInt) (by decide : (0 : Int32).toInt = 0) c61105
    exfalso
    omega
  · have w61107 := cv_nle (rfl : z61104.toInt = z61104.toInt) (by decide : (0 : Int32).toInt = 0) c61105
    refine lv_aload_n hx hb dX13_first_18 rfl (lv_at hl 1 rfl) ?_
    refine lv_iload_n hx hb dX13_first_19 rfl (lv_at hl 0 rfl) ?_
    refine t_cVi (n := 1) (C := RX13) (T := TX13) (N := 37) (As := [.int z61104]) (rest := []) X hT (km88_X13_refused l G tag L F hT.2.2.2 p0 z61104 m0 g0) m0 g0 rfl rfl qw_484 qw_485 qw_486 qw_5 qw_487 ⟨rfl, by decide +kernel, by decide +kernel, by decide +kernel⟩ ⟨Nat.le_of_ble_eq_true rfl, Nat.le_of_ble_eq_true rfl⟩ hl rfl rfl (Nat.le_of_ble_eq_true rfl) dX13_first_20 ⟨Nat.le_of_ble_eq_true rfl, Nat.le_of_ble_eq_true rfl⟩ (fun z61108 F H locs hT hz61108 => ?_)
    obtain ⟨hz61108, yz61108⟩ := hz61108
    have pf0 := (yz61108.1 _ 3 (Or.inr (by decide)) (Or.inr (by decide))).trans pf0
    have v61103 := (yz61108.1 _ 0 (Or.inr (by decide)) (Or.inr (by decide))).trans v61103
    have hfr : (∀ b j : Nat, (tag b ≠ 46 ∨ j ≠ 0) → (tag b ≠ 46 ∨ j ≠ 1) → (tag b ≠ 46 ∨ j ≠ 2) → (tag b ≠ 46 ∨ j ≠ 22) → (tag b ≠ 46 ∨ j ≠ 23) → (tag b ≠ 46 ∨ j ≠ 28) → fld F b j = fld Fo b j) ∧ (∀ b j : Nat, tag b ≠ 37 → tag b ≠ 40 → tag b ≠ 41 → elm F b j = elm Fo b j) := ⟨fun b j n46_0 n46_1 n46_2 n46_22 n46_23 n46_28 => (yz61108.1 b j n46_1 n46_2).trans (hfr.1 b j n46_0 n46_1 n46_2 n46_22 n46_23 n46_28), fun b j a37 a40 a41 => (yz61108.2 b j ).trans (hfr.2 b j a37 a40 a41)⟩
    exact t_iret hQ X hT (⟨rg_all _, hfr⟩) (Nat.le_of_ble_eq_true rfl) (Nat.le_of_ble_eq_true rfl) dX13_first_23
theorem kp_X13_first (l : Launch) (G : KG) (tag : Nat → Nat) (L : List Nat) (Fo : Nat → va_E) (ho : okT G ttC tag L Fo) (p0 : Nat) (p1 : Int32) (m0 : p0 ∈ L) (g0 : tag p0 = 46) : TMi l yX13_first cX13_first 3 (some .int) { frames := 8, cells := 0, slots := 0, locals := 193 } G ttC tag L Fo [.ref p0, .int p1] (fun r F1 => ((-2147483648) ≤ r.toInt ∧ r.toInt ≤ 2147483647) ∧ ((∀ b j : Nat, (tag b ≠ 46 ∨ j ≠ 0) → (tag b ≠ 46 ∨ j ≠ 1) → (tag b ≠ 46 ∨ j ≠ 2) → (tag b ≠ 46 ∨ j ≠ 22) → (tag b ≠ 46 ∨ j ≠ 23) → (tag b ≠ 46 ∨ j ≠ 28) → fld F1 b j = fld Fo b j) ∧ (∀ b j : Nat, tag b ≠ 37 → tag b ≠ 40 → tag b ≠ 41 → elm F1 b j = elm Fo b j))) := by
  rcases t_fldn ho m0 g0 rfl 3 rfl with h9 | ⟨b9, h9, m9, t9⟩
  · exact km206_X13_first l G tag L Fo ho p0 p1  m0 g0 h9 
  · exact km205_X13_first l G tag L Fo ho p0 p1 b9  m0 g0 m9 (tg_of t9) h9 
set_option maxHeartbeats 4000000 in
set_option maxRecDepth 100000 in
theorem km208_X13_firstAt (l : Launch) (G : KG) (tag : Nat → Nat) (L : List Nat) (Fo : Nat → va_E) (ho : okT G ttC tag L Fo) (p0 : Nat) (p1 : Int32) (p2 : Int32) (x0 : Nat) (m0 : p0 ∈ L) (g0 : tag p0 = 46) (mx0 : x0 ∈ L) (gx0 : tag x0 = 45) (pf0 : fld Fo p0 3 = .ref x0) : TMi l yX13_firstAt cX13_firstAt 4 (some .int) { frames := 8, cells := 0, slots := 0, locals := 193 } G ttC tag L Fo [.ref p0, .int p1, .int p2] (fun r F1 => ((-2147483648) ≤ r.toInt ∧ r.toInt ≤ 2147483647) ∧ ((∀ b j : Nat, (tag b ≠ 46 ∨ j ≠ 0) → (tag b ≠ 46 ∨ j ≠ 1) → (tag b ≠ 46 ∨ j ≠ 2) → (tag b ≠ 46 ∨ j ≠ 22) → (tag b ≠ 46 ∨ j ≠ 23) → (tag b ≠ 46 ∨ j ≠ 28) → fld F1 b j = fld Fo b j) ∧ (∀ b j : Nat, tag b ≠ 37 → tag b ≠ 40 → tag b ≠ 41 → elm F1 b j = elm Fo b j))) := by
  refine t_bodyi (y := yX13_firstAt) (cd := cX13_firstAt) (mL := 4) (rt := (some .int)) (rm := { frames := 8, cells := 0, slots := 0, locals := 193 }) (av := [.ref p0, .int p1, .int p2]) (by decide) (Nat.le_of_ble_eq_true rfl) ho ?_
  intro p e s m args below meth c ls A Q hQ X hT hl
  have hx := X.1.1
  have hb := X.1.2.1
  have hl : lv_has ls 4 [(0, .ref p0), (1, .int p1), (2, .int p2)] := hl
  have rp1 := rg_all p1
  have rp2 := rg_all p2
  obtain ⟨F, hFo⟩ : ∃ F : Nat → va_E, F = Fo := ⟨_, rfl⟩
  rw [← hFo] at hT pf0
  have hfr : (∀ b j : Nat, (tag b ≠ 46 ∨ j ≠ 0) → (tag b ≠ 46 ∨ j ≠ 1) → (tag b ≠ 46 ∨ j ≠ 2) → (tag b ≠ 46 ∨ j ≠ 22) → (tag b ≠ 46 ∨ j ≠ 23) → (tag b ≠ 46 ∨ j ≠ 28) → fld F b j = fld Fo b j) ∧ (∀ b j : Nat, tag b ≠ 37 → tag b ≠ 40 → tag b ≠ 41 → elm F b j = elm Fo b j) := by
    rw [hFo]
    exact ⟨by intros; rfl, by intros; rfl⟩
  refine lv_aload_n hx hb dX13_firstAt_0 rfl (lv_at hl 0 rfl) ?_
  refine lv_iconst (v := 0) hx hb dX13_firstAt_1 (by decide) ?_
  refine t_put (C := RX13) (T := TX13) (N := 37) (v := .int 0) X hT m0 g0 rfl tyX13 tyX13_ok nmX13 rfl 0 (by decide) qw_140 inlX13 rfl (by first | rfl | decide) (by first | rfl | decide) rfl (⟨_, rfl, (show (-2147483648) ≤ (0 : Int32).toInt from (by decide)), (show (0 : Int32).toInt ≤ 2147483647 from (by decide))⟩) dX13_firstAt_2 (fun F H locs hT v61406 h1v61406 h2v61406 => ?_)
  have pf0 := (h1v61406 _ _ (Or.inr (by decide))).trans pf0
  have hfr : (∀ b j : Nat, (tag b ≠ 46 ∨ j ≠ 0) → (tag b ≠ 46 ∨ j ≠ 1) → (tag b ≠ 46 ∨ j ≠ 2) → (tag b ≠ 46 ∨ j ≠ 22) → (tag b ≠ 46 ∨ j ≠ 23) → (tag b ≠ 46 ∨ j ≠ 28) → fld F b j = fld Fo b j) ∧ (∀ b j : Nat, tag b ≠ 37 → tag b ≠ 40 → tag b ≠ 41 → elm F b j = elm Fo b j) := ⟨fun b j n46_0 n46_1 n46_2 n46_22 n46_23 n46_28 => (h1v61406 b j (fr_ne g0 n46_0)).trans (hfr.1 b j n46_0 n46_1 n46_2 n46_22 n46_23 n46_28), fun b j a37 a40 a41 => (h2v61406 b j).trans (hfr.2 b j a37 a40 a41)⟩
  refine lv_aload_n hx hb dX13_firstAt_5 rfl (lv_at hl 0 rfl) ?_
  refine lv_aload_n hx hb dX13_firstAt_6 rfl (lv_at hl 0 rfl) ?_
  refine lv_iload_n hx hb dX13_firstAt_7 rfl (lv_at hl 2 rfl) ?_
  refine t_cVi (n := 1) (C := RX13) (T := TX13) (N := 37) (As := [.int p2]) (rest := [.ref p0]) X hT (km107_X13_isHouse l G tag L F hT.2.2.2 p0 p2 x0 m0 g0 mx0 gx0 pf0) m0 g0 rfl rfl qw_796 qw_797 qw_798 qw_5 qw_799 ⟨rfl, by decide +kernel, by decide +kernel, by decide +kernel⟩ ⟨Nat.le_of_ble_eq_true rfl, Nat.le_of_ble_eq_true rfl⟩ hl rfl rfl (Nat.le_of_ble_eq_true rfl) dX13_firstAt_8 ⟨Nat.le_of_ble_eq_true rfl, Nat.le_of_ble_eq_true rfl⟩ (fun z61407 F9 H locs hT hz61407 => ?_)
  obtain ⟨fz61407, hz61407⟩ := hz61407
  rw [fz61407] at hT
  obtain ⟨hz61407, iz61407⟩ := hz61407
  refine lv_iload_n hx hb dX13_firstAt_11 rfl (lv_at hl 1 rfl) ?_
  refine lv_bipush (v := 30) hx hb dX13_firstAt_12 (by decide) ?_
  rcases z01 (z := z61407) (by omega) with c61408 | c61408
  · have w61409 := cv_eq (rfl : z61407.toInt = z61407.toInt) (by decide : (0 : Int32).toInt = 0) c61408
    subst c61408
    refine t_cVi (n := 3) (C := RX13) (T := TX13) (N := 37) (As := [.int 0, .int p1, .int 30]) (rest := []) X hT (km174_X13_refusesIn l G tag L F hT.2.2.2 p0 0 p1 30 x0 m0 g0 (by decide) mx0 gx0 pf0) m0 g0 rfl rfl qw_1144 qw_1145 qw_1146 qw_5 qw_1147 ⟨rfl, by decide +kernel, by decide +kernel, by decide +kernel⟩ ⟨Nat.le_of_ble_eq_true rfl, Nat.le_of_ble_eq_true rfl⟩ hl rfl rfl (Nat.le_of_ble_eq_true rfl) dX13_firstAt_14 ⟨Nat.le_of_ble_eq_true rfl, Nat.le_of_ble_eq_true rfl⟩ (fun z61410 F9 H locs hT hz61410 => ?_)
    obtain ⟨fz61410, hz61410, xz61410_0⟩ := hz61410
    rw [fz61410] at hT
    have k61411 : (0 : Int32).toInt = 0 := by decide
    have k61412 : (30 : Int32).toInt = 30 := by decide
    refine lv_istore_n (lv' := [(3, .int z61410), (0, .ref p0), (1, .int p1), (2, .int p2)]) hx hb dX13_firstAt_17 rfl hl (by decide) rfl (fun ls hl => ?_)
    refine lv_iload_n hx hb dX13_firstAt_18 rfl (lv_at hl 0 rfl) ?_
    refine lv_if_le (tgt := 28) hx hb dX13_firstAt_19 (by decide) (fun c61413 => ?_) (fun c61413 => ?_)
    · have w61414 := cv_le (rfl : z61410.toInt = z61410.toInt) (by decide : (0 : Int32).toInt = 0) c61413
      exfalso
      omega
    · have w61415 := cv_nle (rfl : z61410.toInt = z61410.toInt) (by decide : (0 : Int32).toInt = 0) c61413
      refine lv_aload_n hx hb dX13_firstAt_22 rfl (lv_at hl 1 rfl) ?_
      refine lv_iload_n hx hb dX13_firstAt_23 rfl (lv_at hl 0 rfl) ?_
      refine t_cVi (n := 1) (C := RX13) (T := TX13) (N := 37) (As := [.int z61410]) (rest := []) X hT (km88_X13_refused l G tag L F hT.2.2.2 p0 z61410 m0 g0) m0 g0 rfl rfl qw_484 qw_485 qw_486 qw_5 qw_487 ⟨rfl, by decide +kernel, by decide +kernel, by decide +kernel⟩ ⟨Nat.le_of_ble_eq_true rfl, Nat.le_of_ble_eq_true rfl⟩ hl rfl rfl (Nat.le_of_ble_eq_true rfl) dX13_firstAt_24 ⟨Nat.le_of_ble_eq_true rfl, Nat.le_of_ble_eq_true rfl⟩ (fun z61416 F H locs hT hz61416 => ?_)
      obtain ⟨hz61416, yz61416⟩ := hz61416
      have pf0 := (yz61416.1 _ 3 (Or.inr (by decide)) (Or.inr (by decide))).trans pf0
      have v61406 := (yz61416.1 _ 0 (Or.inr (by decide)) (Or.inr (by decide))).trans v61406
      have hfr : (∀ b j : Nat, (tag b ≠ 46 ∨ j ≠ 0) → (tag b ≠ 46 ∨ j ≠ 1) → (tag b ≠ 46 ∨ j ≠ 2) → (tag b ≠ 46 ∨ j ≠ 22) → (tag b ≠ 46 ∨ j ≠ 23) → (tag b ≠ 46 ∨ j ≠ 28) → fld F b j = fld Fo b j) ∧ (∀ b j : Nat, tag b ≠ 37 → tag b ≠ 40 → tag b ≠ 41 → elm F b j = elm Fo b j) := ⟨fun b j n46_0 n46_1 n46_2 n46_22 n46_23 n46_28 => (yz61416.1 b j n46_1 n46_2).trans (hfr.1 b j n46_0 n46_1 n46_2 n46_22 n46_23 n46_28), fun b j a37 a40 a41 => (yz61416.2 b j ).trans (hfr.2 b j a37 a40 a41)⟩
      exact t_iret hQ X hT (⟨rg_all _, hfr⟩) (Nat.le_of_ble_eq_true rfl) (Nat.le_of_ble_eq_true rfl) dX13_firstAt_27
  · have w61417 := cv_eq (rfl : z61407.toInt = z61407.toInt) (by decide : (1 : Int32).toInt = 1) c61408
    have w61418 := (fun h => (iz61407 h)) (by omega)
    subst c61408
    refine t_cVi (n := 3) (C := RX13) (T := TX13) (N := 37) (As := [.int 1, .int p1, .int 30]) (rest := []) X hT (km175_X13_refusesIn l G tag L F hT.2.2.2 p0 1 p1 30 x0 m0 g0 (by decide) mx0 gx0 pf0) m0 g0 rfl rfl qw_1144 qw_1145 qw_1146 qw_5 qw_1147 ⟨rfl, by decide +kernel, by decide +kernel, by decide +kernel⟩ ⟨Nat.le_of_ble_eq_true rfl, Nat.le_of_ble_eq_true rfl⟩ hl rfl rfl (Nat.le_of_ble_eq_true rfl) dX13_firstAt_14 ⟨Nat.le_of_ble_eq_true rfl, Nat.le_of_ble_eq_true rfl⟩ (fun z61419 F9 H locs hT hz61419 => ?_)
    obtain ⟨fz61419, hz61419, xz61419_0⟩ := hz61419
    rw [fz61419] at hT
    have k61420 : (1 : Int32).toInt = 1 := by decide
    have k61421 : (30 : Int32).toInt = 30 := by decide
    refine lv_istore_n (lv' := [(3, .int z61419), (0, .ref p0), (1, .int p1), (2, .int p2)]) hx hb dX13_firstAt_17 rfl hl (by decide) rfl (fun ls hl => ?_)
    refine lv_iload_n hx hb dX13_firstAt_18 rfl (lv_at hl 0 rfl) ?_
    refine lv_if_le (tgt := 28) hx hb dX13_firstAt_19 (by decide) (fun c61422 => ?_) (fun c61422 => ?_)
    · have w61423 := cv_le (rfl : z61419.toInt = z61419.toInt) (by decide : (0 : Int32).toInt = 0) c61422
      have w61424 := xz61419_0 (by omega)
      refine lv_aload_n hx hb dX13_firstAt_28 rfl (lv_at hl 1 rfl) ?_
      refine lv_iload_n hx hb dX13_firstAt_29 rfl (lv_at hl 2 rfl) ?_
      obtain ⟨z61425, qz61425, mz61425, gz61425⟩ := t_fldr hT m0 g0 rfl 24 rfl
      have gz61425 : tag z61425 = 40 := tg_of gz61425
      refine t_cVv (n := 1) (C := RX13) (T := TX13) (N := 37) (As := [.int p1]) (rest := []) X hT (km204_X13_findsFirst l G tag L F hT.2.2.2 p0 p1 x0 z61425 m0 g0 (by omega) mx0 gx0 pf0 mz61425 gz61425 qz61425) m0 g0 rfl rfl qw_1258 qw_1259 qw_1260 qw_5 qw_1261 ⟨rfl, by decide +kernel, by decide +kernel, by decide +kernel⟩ ⟨Nat.le_of_ble_eq_true rfl, Nat.le_of_ble_eq_true rfl⟩ hl rfl rfl (Nat.le_of_ble_eq_true rfl) dX13_firstAt_30 ⟨Nat.le_of_ble_eq_true rfl, Nat.le_of_ble_eq_true rfl⟩ (fun F H locs hT hz61426 => ?_)
      have yz61426 := hz61426
      have pf0 := (yz61426.1 _ 3 (Or.inr (by decide)) (Or.inr (by decide)) (Or.inr (by decide))).trans pf0
      have v61406 := (yz61426.1 _ 0 (Or.inr (by decide)) (Or.inr (by decide)) (Or.inr (by decide))).trans v61406
      have qz61425 := (yz61426.1 _ 24 (Or.inr (by decide)) (Or.inr (by decide)) (Or.inr (by decide))).trans qz61425
      have hfr : (∀ b j : Nat, (tag b ≠ 46 ∨ j ≠ 0) → (tag b ≠ 46 ∨ j ≠ 1) → (tag b ≠ 46 ∨ j ≠ 2) → (tag b ≠ 46 ∨ j ≠ 22) → (tag b ≠ 46 ∨ j ≠ 23) → (tag b ≠ 46 ∨ j ≠ 28) → fld F b j = fld Fo b j) ∧ (∀ b j : Nat, tag b ≠ 37 → tag b ≠ 40 → tag b ≠ 41 → elm F b j = elm Fo b j) := ⟨fun b j n46_0 n46_1 n46_2 n46_22 n46_23 n46_28 => (yz61426.1 b j n46_22 n46_23 n46_28).trans (hfr.1 b j n46_0 n46_1 n46_2 n46_22 n46_23 n46_28), fun b j a37 a40 a41 => (yz61426.2 b j a37 a40 a41).trans (hfr.2 b j a37 a40 a41)⟩
      refine lv_aload_n hx hb dX13_firstAt_33 rfl (lv_at hl 1 rfl) ?_
      refine lv_aload_n hx hb dX13_firstAt_34 rfl (lv_at hl 1 rfl) ?_
      refine t_get (C := RX13) (T := TX13) (N := 37) X hT m0 g0 rfl rfl 25 (by decide) qw_117 inlX13 rfl dX13_firstAt_35 (fun v61427 hv61427 ov61427 => ?_)
      obtain ⟨b61428, rfl, mb61428, gb61428⟩ := okV_r ov61427
      have gb61428 : tag b61428 = 41 := tg_of gb61428
      refine lv_iload_n hx hb dX13_firstAt_38 rfl (lv_at hl 3 rfl) ?_
      refine t_ild X hT mb61428 gb61428 rfl (by omega) dX13_firstAt_39 (fun z61429 vz61429 rz61429 => ?_)
      have rz61429 : (-2147483648) ≤ z61429.toInt ∧ z61429.toInt ≤ 2147483647 := rz61429
      refine t_cVi (n := 1) (C := RX13) (T := TX13) (N := 37) (As := [.int z61429]) (rest := []) X hT (km93_X13_good l G tag L F hT.2.2.2 p0 z61429 m0 g0) m0 g0 rfl rfl qw_687 qw_688 qw_689 qw_5 qw_690 ⟨rfl, by decide +kernel, by decide +kernel, by decide +kernel⟩ ⟨Nat.le_of_ble_eq_true rfl, Nat.le_of_ble_eq_true rfl⟩ hl rfl rfl (Nat.le_of_ble_eq_true rfl) dX13_firstAt_40 ⟨Nat.le_of_ble_eq_true rfl, Nat.le_of_ble_eq_true rfl⟩ (fun z61430 F H locs hT hz61430 => ?_)
      obtain ⟨hz61430, yz61430⟩ := hz61430
      have pf0 := (yz61430.1 _ 3 (Or.inr (by decide)) (Or.inr (by decide))).trans pf0
      have v61406 := (yz61430.1 _ 0 (Or.inr (by decide)) (Or.inr (by decide))).trans v61406
      have qz61425 := (yz61430.1 _ 24 (Or.inr (by decide)) (Or.inr (by decide))).trans qz61425
      have hv61427 := (yz61430.1 _ 25 (Or.inr (by decide)) (Or.inr (by decide))).trans hv61427
      have vz61429 := (yz61430.2 _ _ ).trans vz61429
      have hfr : (∀ b j : Nat, (tag b ≠ 46 ∨ j ≠ 0) → (tag b ≠ 46 ∨ j ≠ 1) → (tag b ≠ 46 ∨ j ≠ 2) → (tag b ≠ 46 ∨ j ≠ 22) → (tag b ≠ 46 ∨ j ≠ 23) → (tag b ≠ 46 ∨ j ≠ 28) → fld F b j = fld Fo b j) ∧ (∀ b j : Nat, tag b ≠ 37 → tag b ≠ 40 → tag b ≠ 41 → elm F b j = elm Fo b j) := ⟨fun b j n46_0 n46_1 n46_2 n46_22 n46_23 n46_28 => (yz61430.1 b j n46_1 n46_2).trans (hfr.1 b j n46_0 n46_1 n46_2 n46_22 n46_23 n46_28), fun b j a37 a40 a41 => (yz61430.2 b j ).trans (hfr.2 b j a37 a40 a41)⟩
      exact t_iret hQ X hT (⟨rg_all _, hfr⟩) (Nat.le_of_ble_eq_true rfl) (Nat.le_of_ble_eq_true rfl) dX13_firstAt_43
    · have w61431 := cv_nle (rfl : z61419.toInt = z61419.toInt) (by decide : (0 : Int32).toInt = 0) c61422
      refine lv_aload_n hx hb dX13_firstAt_22 rfl (lv_at hl 1 rfl) ?_
      refine lv_iload_n hx hb dX13_firstAt_23 rfl (lv_at hl 0 rfl) ?_
      refine t_cVi (n := 1) (C := RX13) (T := TX13) (N := 37) (As := [.int z61419]) (rest := []) X hT (km88_X13_refused l G tag L F hT.2.2.2 p0 z61419 m0 g0) m0 g0 rfl rfl qw_484 qw_485 qw_486 qw_5 qw_487 ⟨rfl, by decide +kernel, by decide +kernel, by decide +kernel⟩ ⟨Nat.le_of_ble_eq_true rfl, Nat.le_of_ble_eq_true rfl⟩ hl rfl rfl (Nat.le_of_ble_eq_true rfl) dX13_firstAt_24 ⟨Nat.le_of_ble_eq_true rfl, Nat.le_of_ble_eq_true rfl⟩ (fun z61432 F H locs hT hz61432 => ?_)
      obtain ⟨hz61432, yz61432⟩ := hz61432
      have pf0 := (yz61432.1 _ 3 (Or.inr (by decide)) (Or.inr (by decide))).trans pf0
      have v61406 := (yz61432.1 _ 0 (Or.inr (by decide)) (Or.inr (by decide))).trans v61406
      have hfr : (∀ b j : Nat, (tag b ≠ 46 ∨ j ≠ 0) → (tag b ≠ 46 ∨ j ≠ 1) → (tag b ≠ 46 ∨ j ≠ 2) → (tag b ≠ 46 ∨ j ≠ 22) → (tag b ≠ 46 ∨ j ≠ 23) → (tag b ≠ 46 ∨ j ≠ 28) → fld F b j = fld Fo b j) ∧ (∀ b j : Nat, tag b ≠ 37 → tag b ≠ 40 → tag b ≠ 41 → elm F b j = elm Fo b j) := ⟨fun b j n46_0 n46_1 n46_2 n46_22 n46_23 n46_28 => (yz61432.1 b j n46_1 n46_2).trans (hfr.1 b j n46_0 n46_1 n46_2 n46_22 n46_23 n46_28), fun b j a37 a40 a41 => (yz61432.2 b j ).trans (hfr.2 b j a37 a40 a41)⟩
      exact t_iret hQ X hT (⟨rg_all _, hfr⟩) (Nat.le_of_ble_eq_true rfl) (Nat.le_of_ble_eq_true rfl) dX13_firstAt_27
set_option maxHeartbeats 4000000 in
set_option maxRecDepth 100000 in
theorem km209_X13_firstAt (l : Launch) (G : KG) (tag : Nat → Nat) (L : List Nat) (Fo : Nat → va_E) (ho : okT G ttC tag L Fo) (p0 : Nat) (p1 : Int32) (p2 : Int32) (m0 : p0 ∈ L) (g0 : tag p0 = 46) (pf0 : fld Fo p0 3 = .null) : TMi l yX13_firstAt cX13_firstAt 4 (some .int) { frames := 8, cells := 0, slots := 0, locals := 193 } G ttC tag L Fo [.ref p0, .int p1, .int p2] (fun r F1 => ((-2147483648) ≤ r.toInt ∧ r.toInt ≤ 2147483647) ∧ ((∀ b j : Nat, (tag b ≠ 46 ∨ j ≠ 0) → (tag b ≠ 46 ∨ j ≠ 1) → (tag b ≠ 46 ∨ j ≠ 2) → (tag b ≠ 46 ∨ j ≠ 22) → (tag b ≠ 46 ∨ j ≠ 23) → (tag b ≠ 46 ∨ j ≠ 28) → fld F1 b j = fld Fo b j) ∧ (∀ b j : Nat, tag b ≠ 37 → tag b ≠ 40 → tag b ≠ 41 → elm F1 b j = elm Fo b j))) := by
  refine t_bodyi (y := yX13_firstAt) (cd := cX13_firstAt) (mL := 4) (rt := (some .int)) (rm := { frames := 8, cells := 0, slots := 0, locals := 193 }) (av := [.ref p0, .int p1, .int p2]) (by decide) (Nat.le_of_ble_eq_true rfl) ho ?_
  intro p e s m args below meth c ls A Q hQ X hT hl
  have hx := X.1.1
  have hb := X.1.2.1
  have hl : lv_has ls 4 [(0, .ref p0), (1, .int p1), (2, .int p2)] := hl
  have rp1 := rg_all p1
  have rp2 := rg_all p2
  obtain ⟨F, hFo⟩ : ∃ F : Nat → va_E, F = Fo := ⟨_, rfl⟩
  rw [← hFo] at hT pf0
  have hfr : (∀ b j : Nat, (tag b ≠ 46 ∨ j ≠ 0) → (tag b ≠ 46 ∨ j ≠ 1) → (tag b ≠ 46 ∨ j ≠ 2) → (tag b ≠ 46 ∨ j ≠ 22) → (tag b ≠ 46 ∨ j ≠ 23) → (tag b ≠ 46 ∨ j ≠ 28) → fld F b j = fld Fo b j) ∧ (∀ b j : Nat, tag b ≠ 37 → tag b ≠ 40 → tag b ≠ 41 → elm F b j = elm Fo b j) := by
    rw [hFo]
    exact ⟨by intros; rfl, by intros; rfl⟩
  refine lv_aload_n hx hb dX13_firstAt_0 rfl (lv_at hl 0 rfl) ?_
  refine lv_iconst (v := 0) hx hb dX13_firstAt_1 (by decide) ?_
  refine t_put (C := RX13) (T := TX13) (N := 37) (v := .int 0) X hT m0 g0 rfl tyX13 tyX13_ok nmX13 rfl 0 (by decide) qw_140 inlX13 rfl (by first | rfl | decide) (by first | rfl | decide) rfl (⟨_, rfl, (show (-2147483648) ≤ (0 : Int32).toInt from (by decide)), (show (0 : Int32).toInt ≤ 2147483647 from (by decide))⟩) dX13_firstAt_2 (fun F H locs hT v61554 h1v61554 h2v61554 => ?_)
  have pf0 := (h1v61554 _ _ (Or.inr (by decide))).trans pf0
  have hfr : (∀ b j : Nat, (tag b ≠ 46 ∨ j ≠ 0) → (tag b ≠ 46 ∨ j ≠ 1) → (tag b ≠ 46 ∨ j ≠ 2) → (tag b ≠ 46 ∨ j ≠ 22) → (tag b ≠ 46 ∨ j ≠ 23) → (tag b ≠ 46 ∨ j ≠ 28) → fld F b j = fld Fo b j) ∧ (∀ b j : Nat, tag b ≠ 37 → tag b ≠ 40 → tag b ≠ 41 → elm F b j = elm Fo b j) := ⟨fun b j n46_0 n46_1 n46_2 n46_22 n46_23 n46_28 => (h1v61554 b j (fr_ne g0 n46_0)).trans (hfr.1 b j n46_0 n46_1 n46_2 n46_22 n46_23 n46_28), fun b j a37 a40 a41 => (h2v61554 b j).trans (hfr.2 b j a37 a40 a41)⟩
  refine lv_aload_n hx hb dX13_firstAt_5 rfl (lv_at hl 0 rfl) ?_
  refine lv_aload_n hx hb dX13_firstAt_6 rfl (lv_at hl 0 rfl) ?_
  refine lv_iload_n hx hb dX13_firstAt_7 rfl (lv_at hl 2 rfl) ?_
  refine t_cVi (n := 1) (C := RX13) (T := TX13) (N := 37) (As := [.int p2]) (rest := [.ref p0]) X hT (km116_X13_isHouse l G tag L F hT.2.2.2 p0 p2 m0 g0 pf0) m0 g0 rfl rfl qw_796 qw_797 qw_798 qw_5 qw_799 ⟨rfl, by decide +kernel, by decide +kernel, by decide +kernel⟩ ⟨Nat.le_of_ble_eq_true rfl, Nat.le_of_ble_eq_true rfl⟩ hl rfl rfl (Nat.le_of_ble_eq_true rfl) dX13_firstAt_8 ⟨Nat.le_of_ble_eq_true rfl, Nat.le_of_ble_eq_true rfl⟩ (fun z61555 F9 H locs hT hz61555 => ?_)
  obtain ⟨fz61555, hz61555⟩ := hz61555
  rw [fz61555] at hT
  refine lv_iload_n hx hb dX13_firstAt_11 rfl (lv_at hl 1 rfl) ?_
  refine lv_bipush (v := 30) hx hb dX13_firstAt_12 (by decide) ?_
  rcases z01 (z := z61555) (by omega) with c61556 | c61556
  · have w61557 := cv_eq (rfl : z61555.toInt = z61555.toInt) (by decide : (0 : Int32).toInt = 0) c61556
    subst c61556
    refine t_cVi (n := 3) (C := RX13) (T := TX13) (N := 37) (As := [.int 0, .int p1, .int 30]) (rest := []) X hT (km184_X13_refusesIn l G tag L F hT.2.2.2 p0 0 p1 30 m0 g0 (by decide) pf0) m0 g0 rfl rfl qw_1144 qw_1145 qw_1146 qw_5 qw_1147 ⟨rfl, by decide +kernel, by decide +kernel, by decide +kernel⟩ ⟨Nat.le_of_ble_eq_true rfl, Nat.le_of_ble_eq_true rfl⟩ hl rfl rfl (Nat.le_of_ble_eq_true rfl) dX13_firstAt_14 ⟨Nat.le_of_ble_eq_true rfl, Nat.le_of_ble_eq_true rfl⟩ (fun z61558 F9 H locs hT hz61558 => ?_)
    obtain ⟨fz61558, hz61558⟩ := hz61558
    rw [fz61558] at hT
    refine lv_istore_n (lv' := [(3, .int z61558), (0, .ref p0), (1, .int p1), (2, .int p2)]) hx hb dX13_firstAt_17 rfl hl (by decide) rfl (fun ls hl => ?_)
    refine lv_iload_n hx hb dX13_firstAt_18 rfl (lv_at hl 0 rfl) ?_
    refine lv_if_le (tgt := 28) hx hb dX13_firstAt_19 (by decide) (fun c61559 => ?_) (fun c61559 => ?_)
    · have w61560 := cv_le (rfl : z61558.toInt = z61558.toInt) (by decide : (0 : Int32).toInt = 0) c61559
      exfalso
      omega
    · have w61561 := cv_nle (rfl : z61558.toInt = z61558.toInt) (by decide : (0 : Int32).toInt = 0) c61559
      refine lv_aload_n hx hb dX13_firstAt_22 rfl (lv_at hl 1 rfl) ?_
      refine lv_iload_n hx hb dX13_firstAt_23 rfl (lv_at hl 0 rfl) ?_
      refine t_cVi (n := 1) (C := RX13) (T := TX13) (N := 37) (As := [.int z61558]) (rest := []) X hT (km88_X13_refused l G tag L F hT.2.2.2 p0 z61558 m0 g0) m0 g0 rfl rfl qw_484 qw_485 qw_486 qw_5 qw_487 ⟨rfl, by decide +kernel, by decide +kernel, by decide +kernel⟩ ⟨Nat.le_of_ble_eq_true rfl, Nat.le_of_ble_eq_true rfl⟩ hl rfl rfl (Nat.le_of_ble_eq_true rfl) dX13_firstAt_24 ⟨Nat.le_of_ble_eq_true rfl, Nat.le_of_ble_eq_true rfl⟩ (fun z61562 F H locs hT hz61562 => ?_)
      obtain ⟨hz61562, yz61562⟩ := hz61562
      have pf0 := (yz61562.1 _ 3 (Or.inr (by decide)) (Or.inr (by decide))).trans pf0
      have v61554 := (yz61562.1 _ 0 (Or.inr (by decide)) (Or.inr (by decide))).trans v61554
      have hfr : (∀ b j : Nat, (tag b ≠ 46 ∨ j ≠ 0) → (tag b ≠ 46 ∨ j ≠ 1) → (tag b ≠ 46 ∨ j ≠ 2) → (tag b ≠ 46 ∨ j ≠ 22) → (tag b ≠ 46 ∨ j ≠ 23) → (tag b ≠ 46 ∨ j ≠ 28) → fld F b j = fld Fo b j) ∧ (∀ b j : Nat, tag b ≠ 37 → tag b ≠ 40 → tag b ≠ 41 → elm F b j = elm Fo b j) := ⟨fun b j n46_0 n46_1 n46_2 n46_22 n46_23 n46_28 => (yz61562.1 b j n46_1 n46_2).trans (hfr.1 b j n46_0 n46_1 n46_2 n46_22 n46_23 n46_28), fun b j a37 a40 a41 => (yz61562.2 b j ).trans (hfr.2 b j a37 a40 a41)⟩
      exact t_iret hQ X hT (⟨rg_all _, hfr⟩) (Nat.le_of_ble_eq_true rfl) (Nat.le_of_ble_eq_true rfl) dX13_firstAt_27
  · have w61563 := cv_eq (rfl : z61555.toInt = z61555.toInt) (by decide : (1 : Int32).toInt = 1) c61556
    have k61564 : (1 : Int32).toInt = 1 := by decide
    exfalso
    omega
theorem kp_X13_firstAt (l : Launch) (G : KG) (tag : Nat → Nat) (L : List Nat) (Fo : Nat → va_E) (ho : okT G ttC tag L Fo) (p0 : Nat) (p1 : Int32) (p2 : Int32) (m0 : p0 ∈ L) (g0 : tag p0 = 46) : TMi l yX13_firstAt cX13_firstAt 4 (some .int) { frames := 8, cells := 0, slots := 0, locals := 193 } G ttC tag L Fo [.ref p0, .int p1, .int p2] (fun r F1 => ((-2147483648) ≤ r.toInt ∧ r.toInt ≤ 2147483647) ∧ ((∀ b j : Nat, (tag b ≠ 46 ∨ j ≠ 0) → (tag b ≠ 46 ∨ j ≠ 1) → (tag b ≠ 46 ∨ j ≠ 2) → (tag b ≠ 46 ∨ j ≠ 22) → (tag b ≠ 46 ∨ j ≠ 23) → (tag b ≠ 46 ∨ j ≠ 28) → fld F1 b j = fld Fo b j) ∧ (∀ b j : Nat, tag b ≠ 37 → tag b ≠ 40 → tag b ≠ 41 → elm F1 b j = elm Fo b j))) := by
  rcases t_fldn ho m0 g0 rfl 3 rfl with h9 | ⟨b9, h9, m9, t9⟩
  · exact km209_X13_firstAt l G tag L Fo ho p0 p1 p2  m0 g0 h9 
  · exact km208_X13_firstAt l G tag L Fo ho p0 p1 p2 b9  m0 g0 m9 (tg_of t9) h9 
set_option maxHeartbeats 4000000 in
set_option maxRecDepth 100000 in
theorem km211_X13_heads (l : Launch) (G : KG) (tag : Nat → Nat) (L : List Nat) (Fo : Nat → va_E) (ho : okT G ttC tag L Fo) (p0 : Nat) (p1 : Int32) (p2 : Int32) (x0 : Nat) (m0 : p0 ∈ L) (g0 : tag p0 = 46) (mx0 : x0 ∈ L) (gx0 : tag x0 = 45) (pf0 : fld Fo p0 3 = .ref x0) : TMi l yX13_heads cX13_heads 6 (some .int) { frames := 7, cells := 0, slots := 0, locals := 170 } G ttC tag L Fo [.ref p0, .int p1, .int p2] (fun r F1 => ((-2147483648) ≤ r.toInt ∧ r.toInt ≤ 2147483647) ∧ ((∀ b j : Nat, (tag b ≠ 46 ∨ j ≠ 0) → (tag b ≠ 46 ∨ j ≠ 1) → (tag b ≠ 46 ∨ j ≠ 2) → (tag b ≠ 46 ∨ j ≠ 22) → (tag b ≠ 46 ∨ j ≠ 23) → fld F1 b j = fld Fo b j) ∧ (∀ b j : Nat, tag b ≠ 37 → tag b ≠ 40 → elm F1 b j = elm Fo b j))) := by
  refine t_bodyi (y := yX13_heads) (cd := cX13_heads) (mL := 6) (rt := (some .int)) (rm := { frames := 7, cells := 0, slots := 0, locals := 170 }) (av := [.ref p0, .int p1, .int p2]) (by decide) (Nat.le_of_ble_eq_true rfl) ho ?_
  intro p e s m args below meth c ls A Q hQ X hT hl
  have hx := X.1.1
  have hb := X.1.2.1
  have hl : lv_has ls 6 [(0, .ref p0), (1, .int p1), (2, .int p2)] := hl
  have rp1 := rg_all p1
  have rp2 := rg_all p2
  obtain ⟨F, hFo⟩ : ∃ F : Nat → va_E, F = Fo := ⟨_, rfl⟩
  rw [← hFo] at hT pf0
  have hfr : (∀ b j : Nat, (tag b ≠ 46 ∨ j ≠ 0) → (tag b ≠ 46 ∨ j ≠ 1) → (tag b ≠ 46 ∨ j ≠ 2) → (tag b ≠ 46 ∨ j ≠ 22) → (tag b ≠ 46 ∨ j ≠ 23) → fld F b j = fld Fo b j) ∧ (∀ b j : Nat, tag b ≠ 37 → tag b ≠ 40 → elm F b j = elm Fo b j) := by
    rw [hFo]
    exact ⟨by intros; rfl, by intros; rfl⟩
  have K87 : ∀ (n : Nat) (z62467 : Int32) (z62468 : Int32) (z62469 : Int32) (z62470 : Int32) (F : Nat → va_E) (H : Heap) (locs : List Loc) (ls : Array Slot), (4 - z62469.toInt < (n : Int)) → (0 ≤ z62467.toInt ∧ z62467.toInt ≤ 0) → (0 ≤ z62469.toInt ∧ z62469.toInt ≤ 4) → (0 ≤ z62470.toInt ∧ z62470.toInt ≤ 0) → (0 ≤ p1.toInt ∧ p1.toInt ≤ 65536) → (0 ≤ p2.toInt ∧ p2.toInt ≤ 60) → TH G ttC A s tag L F H locs → ((∀ b j : Nat, (tag b ≠ 46 ∨ j ≠ 0) → (tag b ≠ 46 ∨ j ≠ 1) → (tag b ≠ 46 ∨ j ≠ 2) → (tag b ≠ 46 ∨ j ≠ 22) → (tag b ≠ 46 ∨ j ≠ 23) → fld F b j = fld Fo b j) ∧ (∀ b j : Nat, tag b ≠ 37 → tag b ≠ 40 → elm F b j = elm Fo b j)) → (fld F p0 3 = .ref x0) → (fld F p0 0 = .int z62470) → lv_has ls 6 [(0, .ref p0), (1, .int p1), (2, .int p2), (3, .int z62467), (4, .int z62468), (5, .int z62469)] → W p l e { frames := 7, cells := 0, slots := 0, locals := 170 } s m args below meth c H locs 0 0 Q (F0 m 87 ls []) := by
    intro n
    induction n with
    | zero =>
      intro z62467 z62468 z62469 z62470 F H locs ls hn rz62467 rz62469 rz62470 r9s62465 r9s62466 hT hfr pf0 qz62470 hl
      have rz62468 := rg_all z62468
      exfalso
      omega
    | succ n ih87 =>
      intro z62467 z62468 z62469 z62470 F H locs ls hn rz62467 rz62469 rz62470 r9s62465 r9s62466 hT hfr pf0 qz62470 hl
      have rz62468 := rg_all z62468
      refine lv_iload hx hb dX13_heads_87 (lv_at hl 5 rfl) ?_
      refine lv_aload_n hx hb dX13_heads_89 rfl (lv_at hl 0 rfl) ?_
      refine t_get (C := RX13) (T := TX13) (N := 37) X hT m0 g0 rfl rfl 3 (by decide) qw_481 inlX13 rfl dX13_heads_90 (fun v62471 hv62471 ov62471 => ?_)
      obtain rfl : v62471 = .ref x0 := hv62471.symm.trans pf0
      refine t_getN (C := RX12) (T := TX12) (N := 31) X hT mx0 gx0 rfl rfl 8 (by decide) (List.mem_of_getElem? (i := 12) rfl) inlX12 rfl dX13_heads_93 (fun v62472 hv62472 ov62472 => ?_)
      obtain ⟨z62473, rfl, rz62473⟩ := okV_i ov62472
      refine lv_icmp_ge (tgt := 119) hx hb dX13_heads_96 (by decide) (fun c62474 => ?_) (fun c62474 => ?_)
      · have w62475 := cv_le (rfl : z62473.toInt = z62473.toInt) (rfl : z62469.toInt = z62469.toInt) c62474
        refine lv_aload_n hx hb dX13_heads_119 rfl (lv_at hl 0 rfl) ?_
        refine lv_iload hx hb dX13_heads_120 (lv_at hl 4 rfl) ?_
        refine t_cVi (n := 1) (C := RX13) (T := TX13) (N := 37) (As := [.int z62468]) (rest := []) X hT (km93_X13_good l G tag L F hT.2.2.2 p0 z62468 m0 g0) m0 g0 rfl rfl qw_687 qw_688 qw_689 qw_5 qw_690 ⟨rfl, by decide +kernel, by decide +kernel, by decide +kernel⟩ ⟨Nat.le_of_ble_eq_true rfl, Nat.le_of_ble_eq_true rfl⟩ hl rfl rfl (Nat.le_of_ble_eq_true rfl) dX13_heads_122 ⟨Nat.le_of_ble_eq_true rfl, Nat.le_of_ble_eq_true rfl⟩ (fun z62476 F H locs hT hz62476 => ?_)
        obtain ⟨hz62476, yz62476⟩ := hz62476
        have qz62470 := (yz62476.1 _ 0 (Or.inr (by decide)) (Or.inr (by decide))).trans qz62470
        have pf0 := (yz62476.1 _ 3 (Or.inr (by decide)) (Or.inr (by decide))).trans pf0
        have hv62472 := (yz62476.1 _ 8 (Or.inr (by decide)) (Or.inr (by decide))).trans hv62472
        have hfr : (∀ b j : Nat, (tag b ≠ 46 ∨ j ≠ 0) → (tag b ≠ 46 ∨ j ≠ 1) → (tag b ≠ 46 ∨ j ≠ 2) → (tag b ≠ 46 ∨ j ≠ 22) → (tag b ≠ 46 ∨ j ≠ 23) → fld F b j = fld Fo b j) ∧ (∀ b j : Nat, tag b ≠ 37 → tag b ≠ 40 → elm F b j = elm Fo b j) := ⟨fun b j n46_0 n46_1 n46_2 n46_22 n46_23 => (yz62476.1 b j n46_1 n46_2).trans (hfr.1 b j n46_0 n46_1 n46_2 n46_22 n46_23), fun b j a37 a40 => (yz62476.2 b j ).trans (hfr.2 b j a37 a40)⟩
        exact t_iret hQ X hT (⟨rg_all _, hfr⟩) (Nat.le_of_ble_eq_true rfl) (Nat.le_of_ble_eq_true rfl) dX13_heads_125
      · have w62477 := cv_nle (rfl : z62473.toInt = z62473.toInt) (rfl : z62469.toInt = z62469.toInt) c62474
        refine lv_iload hx hb dX13_heads_99 (lv_at hl 4 rfl) ?_
        refine lv_aload_n hx hb dX13_heads_101 rfl (lv_at hl 0 rfl) ?_
        refine t_get (C := RX13) (T := TX13) (N := 37) X hT m0 g0 rfl rfl 17 (by decide) qw_113 inlX13 rfl dX13_heads_102 (fun v62478 hv62478 ov62478 => ?_)
        obtain ⟨b62479, rfl, mb62479, gb62479⟩ := okV_r ov62478
        have gb62479 : tag b62479 = 37 := tg_of gb62479
        refine lv_iconst (v := 4) hx hb dX13_heads_105 (by decide) ?_
        refine lv_iload hx hb dX13_heads_106 (lv_at hl 5 rfl) ?_
        refine lv_iadd hx hb dX13_heads_108 ?_
        refine lv_topi (fun z62480 ez62480 => ?_)
        have hz62480 : z62480.toInt = 4 + z62469.toInt := ar_add ez62480 (by decide : (4 : Int32).toInt = 4) (rfl : z62469.toInt = z62469.toInt) (by omega) (by omega)
        have rz62480 : 4 ≤ z62480.toInt ∧ z62480.toInt ≤ 7 := by omega
        refine t_ild X hT mb62479 gb62479 rfl (by omega) dX13_heads_109 (fun z62481 vz62481 rz62481 => ?_)
        have oz62481 := rz62481
        have rz62481 := rg_all z62481
        refine lv_iadd hx hb dX13_heads_110 ?_
        refine lv_topi (fun z62482 ez62482 => ?_)
        have rz62482 := rg_all z62482
        refine lv_istore (lv' := [(4, .int z62482), (0, .ref p0), (1, .int p1), (2, .int p2), (3, .int z62467), (5, .int z62469)]) hx hb dX13_heads_111 hl (by decide) rfl (fun ls hl => ?_)
        obtain ⟨z62483, ez62483⟩ : ∃ y : Int32, y = z62469 + 1 := ⟨_, rfl⟩
        have hz62483 : z62483.toInt = z62469.toInt + 1 := ar_add ez62483 rfl (by decide : (1 : Int32).toInt = 1) (by omega) (by omega)
        refine lv_iinc (v := z62483) (lv' := [(5, .int z62483), (4, .int z62482), (0, .ref p0), (1, .int p1), (2, .int p2), (3, .int z62467)]) hx hb dX13_heads_113 hl (k := 5) rfl (by rw [ez62483]; rfl) (by decide) rfl (fun ls hl => ?_)
        refine lv_goto (tgt := 87) hx hb dX13_heads_116 (by decide) ?_
        exact ih87 z62467 z62482 z62483 z62470 _ _ _ _ (by omega) (by omega) (by omega) (by omega) (by omega) (by omega) hT hfr pf0 qz62470 (lv_sub hl [2, 3, 4, 5, 1, 0] rfl)
  have K61 : ∀ (n : Nat) (z62486 : Int32) (z62487 : Int32) (z62488 : Int32) (F : Nat → va_E) (H : Heap) (locs : List Loc) (ls : Array Slot), (60 - z62487.toInt < (n : Int)) → (0 ≤ z62486.toInt ∧ z62486.toInt ≤ 0) → (0 ≤ z62487.toInt ∧ z62487.toInt ≤ 60) → (0 ≤ z62488.toInt ∧ z62488.toInt ≤ 0) → (0 ≤ p1.toInt ∧ p1.toInt ≤ 65536) → (0 ≤ p2.toInt ∧ p2.toInt ≤ 60) → TH G ttC A s tag L F H locs → ((∀ b j : Nat, (tag b ≠ 46 ∨ j ≠ 0) → (tag b ≠ 46 ∨ j ≠ 1) → (tag b ≠ 46 ∨ j ≠ 2) → (tag b ≠ 46 ∨ j ≠ 22) → (tag b ≠ 46 ∨ j ≠ 23) → fld F b j = fld Fo b j) ∧ (∀ b j : Nat, tag b ≠ 37 → tag b ≠ 40 → elm F b j = elm Fo b j)) → (fld F p0 3 = .ref x0) → (fld F p0 0 = .int z62488) → lv_has ls 6 [(0, .ref p0), (1, .int p1), (2, .int p2), (3, .int z62486), (4, .int z62487)] → W p l e { frames := 7, cells := 0, slots := 0, locals := 170 } s m args below meth c H locs 0 0 Q (F0 m 61 ls []) := by
    intro n
    induction n with
    | zero =>
      intro z62486 z62487 z62488 F H locs ls hn rz62486 rz62487 rz62488 r9s62484 r9s62485 hT hfr pf0 qz62488 hl
      exfalso
      omega
    | succ n ih61 =>
      intro z62486 z62487 z62488 F H locs ls hn rz62486 rz62487 rz62488 r9s62484 r9s62485 hT hfr pf0 qz62488 hl
      refine lv_iload hx hb dX13_heads_61 (lv_at hl 4 rfl) ?_
      refine lv_iload_n hx hb dX13_heads_63 rfl (lv_at hl 2 rfl) ?_
      refine lv_icmp_ge (tgt := 81) hx hb dX13_heads_64 (by decide) (fun c62489 => ?_) (fun c62489 => ?_)
      · have w62490 := cv_le (rfl : p2.toInt = p2.toInt) (rfl : z62487.toInt = z62487.toInt) c62489
        refine lv_iconst (v := 0) hx hb dX13_heads_81 (by decide) ?_
        refine lv_istore (lv' := [(4, .int 0), (0, .ref p0), (1, .int p1), (2, .int p2), (3, .int z62486)]) hx hb dX13_heads_82 hl (by decide) rfl (fun ls hl => ?_)
        refine lv_iconst (v := 0) hx hb dX13_heads_84 (by decide) ?_
        refine lv_istore (lv' := [(5, .int 0), (4, .int 0), (0, .ref p0), (1, .int p1), (2, .int p2), (3, .int z62486)]) hx hb dX13_heads_85 hl (by decide) rfl (fun ls hl => ?_)
        have k62491 : (0 : Int32).toInt = 0 := by decide
        have k62492 : (0 : Int32).toInt = 0 := by decide
        exact K87 5 z62486 0 0 z62488 _ _ _ _ (by omega) (by omega) (by decide) (by omega) (by omega) (by omega) hT hfr pf0 qz62488 (lv_sub hl [2, 3, 4, 5, 1, 0] rfl)
      · have w62493 := cv_nle (rfl : p2.toInt = p2.toInt) (rfl : z62487.toInt = z62487.toInt) c62489
        refine lv_aload_n hx hb dX13_heads_67 rfl (lv_at hl 0 rfl) ?_
        refine lv_aload_n hx hb dX13_heads_68 rfl (lv_at hl 0 rfl) ?_
        refine t_get (C := RX13) (T := TX13) (N := 37) X hT m0 g0 rfl rfl 17 (by decide) qw_113 inlX13 rfl dX13_heads_69 (fun v62494 hv62494 ov62494 => ?_)
        obtain ⟨b62495, rfl, mb62495, gb62495⟩ := okV_r ov62494
        have gb62495 : tag b62495 = 37 := tg_of gb62495
        refine t_cVv (n := 1) (C := RX13) (T := TX13) (N := 37) (As := [.ref b62495]) (rest := []) X hT (km181_X13_goesBy l G tag L F hT.2.2.2 p0 b62495 x0 m0 g0 mb62495 gb62495 mx0 gx0 pf0) m0 g0 rfl rfl qw_1160 qw_1161 qw_1162 qw_5 qw_1163 ⟨rfl, by decide +kernel, by decide +kernel, by decide +kernel⟩ ⟨Nat.le_of_ble_eq_true rfl, Nat.le_of_ble_eq_true rfl⟩ hl rfl rfl (Nat.le_of_ble_eq_true rfl) dX13_heads_72 ⟨Nat.le_of_ble_eq_true rfl, Nat.le_of_ble_eq_true rfl⟩ (fun F H locs hT hz62496 => ?_)
        have yz62496 := hz62496
        have qz62488 := (yz62496.1 _ 0 (Or.inr (by decide)) (Or.inr (by decide))).trans qz62488
        have pf0 := (yz62496.1 _ 3 (Or.inr (by decide)) (Or.inr (by decide))).trans pf0
        have hv62494 := (yz62496.1 _ 17 (Or.inr (by decide)) (Or.inr (by decide))).trans hv62494
        have hfr : (∀ b j : Nat, (tag b ≠ 46 ∨ j ≠ 0) → (tag b ≠ 46 ∨ j ≠ 1) → (tag b ≠ 46 ∨ j ≠ 2) → (tag b ≠ 46 ∨ j ≠ 22) → (tag b ≠ 46 ∨ j ≠ 23) → fld F b j = fld Fo b j) ∧ (∀ b j : Nat, tag b ≠ 37 → tag b ≠ 40 → elm F b j = elm Fo b j) := ⟨fun b j n46_0 n46_1 n46_2 n46_22 n46_23 => (yz62496.1 b j n46_22 n46_23).trans (hfr.1 b j n46_0 n46_1 n46_2 n46_22 n46_23), fun b j a37 a40 => (yz62496.2 b j a37).trans (hfr.2 b j a37 a40)⟩
        obtain ⟨z62497, ez62497⟩ : ∃ y : Int32, y = z62487 + 1 := ⟨_, rfl⟩
        have hz62497 : z62497.toInt = z62487.toInt + 1 := ar_add ez62497 rfl (by decide : (1 : Int32).toInt = 1) (by omega) (by omega)
        refine lv_iinc (v := z62497) (lv' := [(4, .int z62497), (0, .ref p0), (1, .int p1), (2, .int p2), (3, .int z62486)]) hx hb dX13_heads_75 hl (k := 4) rfl (by rw [ez62497]; rfl) (by decide) rfl (fun ls hl => ?_)
        refine lv_goto (tgt := 61) hx hb dX13_heads_78 (by decide) ?_
        exact ih61 z62486 z62497 z62488 _ _ _ _ (by omega) (by omega) (by omega) (by omega) (by omega) (by omega) hT hfr pf0 qz62488 (lv_sub hl [1, 2, 3, 4, 0] rfl)
  refine lv_aload_n hx hb dX13_heads_0 rfl (lv_at hl 0 rfl) ?_
  refine lv_iconst (v := 0) hx hb dX13_heads_1 (by decide) ?_
  refine t_put (C := RX13) (T := TX13) (N := 37) (v := .int 0) X hT m0 g0 rfl tyX13 tyX13_ok nmX13 rfl 0 (by decide) qw_140 inlX13 rfl (by first | rfl | decide) (by first | rfl | decide) rfl (⟨_, rfl, (show (-2147483648) ≤ (0 : Int32).toInt from (by decide)), (show (0 : Int32).toInt ≤ 2147483647 from (by decide))⟩) dX13_heads_2 (fun F H locs hT v62498 h1v62498 h2v62498 => ?_)
  have pf0 := (h1v62498 _ _ (Or.inr (by decide))).trans pf0
  have hfr : (∀ b j : Nat, (tag b ≠ 46 ∨ j ≠ 0) → (tag b ≠ 46 ∨ j ≠ 1) → (tag b ≠ 46 ∨ j ≠ 2) → (tag b ≠ 46 ∨ j ≠ 22) → (tag b ≠ 46 ∨ j ≠ 23) → fld F b j = fld Fo b j) ∧ (∀ b j : Nat, tag b ≠ 37 → tag b ≠ 40 → elm F b j = elm Fo b j) := ⟨fun b j n46_0 n46_1 n46_2 n46_22 n46_23 => (h1v62498 b j (fr_ne g0 n46_0)).trans (hfr.1 b j n46_0 n46_1 n46_2 n46_22 n46_23), fun b j a37 a40 => (h2v62498 b j).trans (hfr.2 b j a37 a40)⟩
  refine lv_aload_n hx hb dX13_heads_5 rfl (lv_at hl 0 rfl) ?_
  refine lv_iconst (v := 1) hx hb dX13_heads_6 (by decide) ?_
  refine lv_iload_n hx hb dX13_heads_7 rfl (lv_at hl 2 rfl) ?_
  refine lv_bipush (v := 60) hx hb dX13_heads_8 (by decide) ?_
  refine t_cVi (n := 3) (C := RX13) (T := TX13) (N := 37) (As := [.int 1, .int p2, .int 60]) (rest := []) X hT (km175_X13_refusesIn l G tag L F hT.2.2.2 p0 1 p2 60 x0 m0 g0 (by decide) mx0 gx0 pf0) m0 g0 rfl rfl qw_1144 qw_1145 qw_1146 qw_5 qw_1147 ⟨rfl, by decide +kernel, by decide +kernel, by decide +kernel⟩ ⟨Nat.le_of_ble_eq_true rfl, Nat.le_of_ble_eq_true rfl⟩ hl rfl rfl (Nat.le_of_ble_eq_true rfl) dX13_heads_10 ⟨Nat.le_of_ble_eq_true rfl, Nat.le_of_ble_eq_true rfl⟩ (fun z62499 F9 H locs hT hz62499 => ?_)
  obtain ⟨fz62499, hz62499, xz62499_0⟩ := hz62499
  rw [fz62499] at hT
  have k62500 : (1 : Int32).toInt = 1 := by decide
  have k62501 : (60 : Int32).toInt = 60 := by decide
  refine lv_istore_n (lv' := [(3, .int z62499), (0, .ref p0), (1, .int p1), (2, .int p2)]) hx hb dX13_heads_13 rfl hl (by decide) rfl (fun ls hl => ?_)
  refine lv_iload_n hx hb dX13_heads_14 rfl (lv_at hl 0 rfl) ?_
  refine lv_if_le (tgt := 24) hx hb dX13_heads_15 (by decide) (fun c62502 => ?_) (fun c62502 => ?_)
  · have w62503 := cv_le (rfl : z62499.toInt = z62499.toInt) (by decide : (0 : Int32).toInt = 0) c62502
    have w62504 := xz62499_0 (by omega)
    refine lv_iload_n hx hb dX13_heads_24 rfl (lv_at hl 2 rfl) ?_
    refine lv_iconst (v := 0) hx hb dX13_heads_25 (by decide) ?_
    refine m_ldcw X qw_1287 dX13_heads_26 ?_
    refine t_cSi (n := 3) (As := [.int p1, .int 0, .int 65536]) (rest := []) X hT (km19_X13_within l G tag L F hT.2.2.2 p1 0 65536 ) qw_568 qw_569 qw_5 qw_570 ⟨by decide +kernel, by decide +kernel, by decide +kernel⟩ ⟨Nat.le_of_ble_eq_true rfl, Nat.le_of_ble_eq_true rfl⟩ hl rfl rfl (Nat.le_of_ble_eq_true rfl) dX13_heads_29 ⟨Nat.le_of_ble_eq_true rfl, Nat.le_of_ble_eq_true rfl⟩ (fun z62505 F9 H locs hT hz62505 => ?_)
    obtain ⟨fz62505, hz62505, xz62505_0⟩ := hz62505
    rw [fz62505] at hT
    have k62506 : (0 : Int32).toInt = 0 := by decide
    have k62507 : (65536 : Int32).toInt = 65536 := by decide
    refine lv_if_ne (tgt := 41) hx hb dX13_heads_32 (by decide) (fun c62508 => ?_) (fun c62508 => ?_)
    · have w62509 := cv_ne (rfl : z62505.toInt = z62505.toInt) (by decide : (0 : Int32).toInt = 0) c62508
      have w62510 := xz62505_0 (by omega)
      refine lv_aload_n hx hb dX13_heads_41 rfl (lv_at hl 1 rfl) ?_
      refine t_cVv (n := 0) (C := RX13) (T := TX13) (N := 37) (As := []) (rest := []) X hT (km176_X13_copies l G tag L F hT.2.2.2 p0 m0 g0) m0 g0 rfl rfl qw_1152 qw_1153 qw_1154 qw_5 qw_1155 ⟨rfl, by decide +kernel, by decide +kernel, by decide +kernel⟩ ⟨Nat.le_of_ble_eq_true rfl, Nat.le_of_ble_eq_true rfl⟩ hl rfl rfl (Nat.le_of_ble_eq_true rfl) dX13_heads_42 ⟨Nat.le_of_ble_eq_true rfl, Nat.le_of_ble_eq_true rfl⟩ (fun F H locs hT hz62511 => ?_)
      have yz62511 := hz62511
      have pf0 := (yz62511.1 _ 3 ).trans pf0
      have v62498 := (yz62511.1 _ 0 ).trans v62498
      have hfr : (∀ b j : Nat, (tag b ≠ 46 ∨ j ≠ 0) → (tag b ≠ 46 ∨ j ≠ 1) → (tag b ≠ 46 ∨ j ≠ 2) → (tag b ≠ 46 ∨ j ≠ 22) → (tag b ≠ 46 ∨ j ≠ 23) → fld F b j = fld Fo b j) ∧ (∀ b j : Nat, tag b ≠ 37 → tag b ≠ 40 → elm F b j = elm Fo b j) := ⟨fun b j n46_0 n46_1 n46_2 n46_22 n46_23 => (yz62511.1 b j ).trans (hfr.1 b j n46_0 n46_1 n46_2 n46_22 n46_23), fun b j a37 a40 => (yz62511.2 b j a37).trans (hfr.2 b j a37 a40)⟩
      refine lv_aload_n hx hb dX13_heads_45 rfl (lv_at hl 1 rfl) ?_
      obtain ⟨z62512, qz62512, mz62512, gz62512⟩ := t_fldr hT m0 g0 rfl 24 rfl
      have gz62512 : tag z62512 = 40 := tg_of gz62512
      refine t_cVv (n := 0) (C := RX13) (T := TX13) (N := 37) (As := []) (rest := []) X hT (km177_X13_byNumbers l G tag L F hT.2.2.2 p0 z62512 m0 g0 mz62512 gz62512 qz62512) m0 g0 rfl rfl qw_1156 qw_1157 qw_1158 qw_5 qw_1159 ⟨rfl, by decide +kernel, by decide +kernel, by decide +kernel⟩ ⟨Nat.le_of_ble_eq_true rfl, Nat.le_of_ble_eq_true rfl⟩ hl rfl rfl (Nat.le_of_ble_eq_true rfl) dX13_heads_46 ⟨Nat.le_of_ble_eq_true rfl, Nat.le_of_ble_eq_true rfl⟩ (fun F H locs hT hz62513 => ?_)
      obtain ⟨yz62513, xz62513_0⟩ := hz62513
      have pf0 := (yz62513.1 _ 3 ).trans pf0
      have v62498 := (yz62513.1 _ 0 ).trans v62498
      have qz62512 := (yz62513.1 _ 24 ).trans qz62512
      have hfr : (∀ b j : Nat, (tag b ≠ 46 ∨ j ≠ 0) → (tag b ≠ 46 ∨ j ≠ 1) → (tag b ≠ 46 ∨ j ≠ 2) → (tag b ≠ 46 ∨ j ≠ 22) → (tag b ≠ 46 ∨ j ≠ 23) → fld F b j = fld Fo b j) ∧ (∀ b j : Nat, tag b ≠ 37 → tag b ≠ 40 → elm F b j = elm Fo b j) := ⟨fun b j n46_0 n46_1 n46_2 n46_22 n46_23 => (yz62513.1 b j ).trans (hfr.1 b j n46_0 n46_1 n46_2 n46_22 n46_23), fun b j a37 a40 => (yz62513.2 b j a40).trans (hfr.2 b j a37 a40)⟩
      refine lv_aload_n hx hb dX13_heads_49 rfl (lv_at hl 1 rfl) ?_
      refine t_get (C := RX13) (T := TX13) (N := 37) X hT m0 g0 rfl rfl 17 (by decide) qw_113 inlX13 rfl dX13_heads_50 (fun v62514 hv62514 ov62514 => ?_)
      obtain ⟨b62515, rfl, mb62515, gb62515⟩ := okV_r ov62514
      have gb62515 : tag b62515 = 37 := tg_of gb62515
      refine lv_sipush (v := 211) hx hb dX13_heads_53 (by decide) ?_
      refine lv_iload_n hx hb dX13_heads_56 rfl (lv_at hl 2 rfl) ?_
      refine t_ist X hT mb62515 gb62515 rfl (by decide) (row_fv (by decide) (Or.inr (Or.inl (by decide)))) dX13_heads_57 (fun F H locs hT v62516 h1v62516 h2v62516 => ?_)
      have pf0 := (h2v62516 _ _).trans pf0
      have v62498 := (h2v62516 _ _).trans v62498
      have qz62512 := (h2v62516 _ _).trans qz62512
      have hv62514 := (h2v62516 _ _).trans hv62514
      have hfr : (∀ b j : Nat, (tag b ≠ 46 ∨ j ≠ 0) → (tag b ≠ 46 ∨ j ≠ 1) → (tag b ≠ 46 ∨ j ≠ 2) → (tag b ≠ 46 ∨ j ≠ 22) → (tag b ≠ 46 ∨ j ≠ 23) → fld F b j = fld Fo b j) ∧ (∀ b j : Nat, tag b ≠ 37 → tag b ≠ 40 → elm F b j = elm Fo b j) := ⟨fun b j n46_0 n46_1 n46_2 n46_22 n46_23 => (h2v62516 b j).trans (hfr.1 b j n46_0 n46_1 n46_2 n46_22 n46_23), fun b j a37 a40 => (h1v62516 b j (Or.inl (at_ne gb62515 a37))).trans (hfr.2 b j a37 a40)⟩
      refine lv_iconst (v := 0) hx hb dX13_heads_58 (by decide) ?_
      refine lv_istore (lv' := [(4, .int 0), (3, .int z62499), (0, .ref p0), (1, .int p1), (2, .int p2)]) hx hb dX13_heads_59 hl (by decide) rfl (fun ls hl => ?_)
      have k62517 : (0 : Int32).toInt = 0 := by decide
      have k62518 : (0 : Int32).toInt = 0 := by decide
      exact K61 61 z62499 0 0 _ _ _ _ (by omega) (by omega) (by decide) (by decide) (by omega) (by omega) hT hfr pf0 v62498 (lv_sub hl [2, 3, 4, 1, 0] rfl)
    · have w62519 := cv_eq (rfl : z62505.toInt = z62505.toInt) (by decide : (0 : Int32).toInt = 0) c62508
      refine lv_aload_n hx hb dX13_heads_35 rfl (lv_at hl 1 rfl) ?_
      refine lv_iconst (v := 2) hx hb dX13_heads_36 (by decide) ?_
      refine t_cVi (n := 1) (C := RX13) (T := TX13) (N := 37) (As := [.int 2]) (rest := []) X hT (km88_X13_refused l G tag L F hT.2.2.2 p0 2 m0 g0) m0 g0 rfl rfl qw_484 qw_485 qw_486 qw_5 qw_487 ⟨rfl, by decide +kernel, by decide +kernel, by decide +kernel⟩ ⟨Nat.le_of_ble_eq_true rfl, Nat.le_of_ble_eq_true rfl⟩ hl rfl rfl (Nat.le_of_ble_eq_true rfl) dX13_heads_37 ⟨Nat.le_of_ble_eq_true rfl, Nat.le_of_ble_eq_true rfl⟩ (fun z62520 F H locs hT hz62520 => ?_)
      obtain ⟨hz62520, yz62520⟩ := hz62520
      have pf0 := (yz62520.1 _ 3 (Or.inr (by decide)) (Or.inr (by decide))).trans pf0
      have v62498 := (yz62520.1 _ 0 (Or.inr (by decide)) (Or.inr (by decide))).trans v62498
      have hfr : (∀ b j : Nat, (tag b ≠ 46 ∨ j ≠ 0) → (tag b ≠ 46 ∨ j ≠ 1) → (tag b ≠ 46 ∨ j ≠ 2) → (tag b ≠ 46 ∨ j ≠ 22) → (tag b ≠ 46 ∨ j ≠ 23) → fld F b j = fld Fo b j) ∧ (∀ b j : Nat, tag b ≠ 37 → tag b ≠ 40 → elm F b j = elm Fo b j) := ⟨fun b j n46_0 n46_1 n46_2 n46_22 n46_23 => (yz62520.1 b j n46_1 n46_2).trans (hfr.1 b j n46_0 n46_1 n46_2 n46_22 n46_23), fun b j a37 a40 => (yz62520.2 b j ).trans (hfr.2 b j a37 a40)⟩
      exact t_iret hQ X hT (⟨rg_all _, hfr⟩) (Nat.le_of_ble_eq_true rfl) (Nat.le_of_ble_eq_true rfl) dX13_heads_40
  · have w62521 := cv_nle (rfl : z62499.toInt = z62499.toInt) (by decide : (0 : Int32).toInt = 0) c62502
    refine lv_aload_n hx hb dX13_heads_18 rfl (lv_at hl 1 rfl) ?_
    refine lv_iload_n hx hb dX13_heads_19 rfl (lv_at hl 0 rfl) ?_
    refine t_cVi (n := 1) (C := RX13) (T := TX13) (N := 37) (As := [.int z62499]) (rest := []) X hT (km88_X13_refused l G tag L F hT.2.2.2 p0 z62499 m0 g0) m0 g0 rfl rfl qw_484 qw_485 qw_486 qw_5 qw_487 ⟨rfl, by decide +kernel, by decide +kernel, by decide +kernel⟩ ⟨Nat.le_of_ble_eq_true rfl, Nat.le_of_ble_eq_true rfl⟩ hl rfl rfl (Nat.le_of_ble_eq_true rfl) dX13_heads_20 ⟨Nat.le_of_ble_eq_true rfl, Nat.le_of_ble_eq_true rfl⟩ (fun z62522 F H locs hT hz62522 => ?_)
    obtain ⟨hz62522, yz62522⟩ := hz62522
    have pf0 := (yz62522.1 _ 3 (Or.inr (by decide)) (Or.inr (by decide))).trans pf0
    have v62498 := (yz62522.1 _ 0 (Or.inr (by decide)) (Or.inr (by decide))).trans v62498
    have hfr : (∀ b j : Nat, (tag b ≠ 46 ∨ j ≠ 0) → (tag b ≠ 46 ∨ j ≠ 1) → (tag b ≠ 46 ∨ j ≠ 2) → (tag b ≠ 46 ∨ j ≠ 22) → (tag b ≠ 46 ∨ j ≠ 23) → fld F b j = fld Fo b j) ∧ (∀ b j : Nat, tag b ≠ 37 → tag b ≠ 40 → elm F b j = elm Fo b j) := ⟨fun b j n46_0 n46_1 n46_2 n46_22 n46_23 => (yz62522.1 b j n46_1 n46_2).trans (hfr.1 b j n46_0 n46_1 n46_2 n46_22 n46_23), fun b j a37 a40 => (yz62522.2 b j ).trans (hfr.2 b j a37 a40)⟩
    exact t_iret hQ X hT (⟨rg_all _, hfr⟩) (Nat.le_of_ble_eq_true rfl) (Nat.le_of_ble_eq_true rfl) dX13_heads_23
