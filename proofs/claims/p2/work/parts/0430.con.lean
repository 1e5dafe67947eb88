set_option maxHeartbeats 4000000 in
set_option maxRecDepth 100000 in
theorem km204_X13_findsFirst (l : Launch) (G : KG) (tag : Nat → Nat) (L : List Nat) (Fo : Nat → va_E) (ho : okT G ttC tag L Fo) (p0 : Nat) (p1 : Int32) (x0 : Nat) (x1 : Nat) (m0 : p0 ∈ L) (g0 : tag p0 = 46) (h1 : 0 ≤ p1.toInt ∧ p1.toInt ≤ 30) (mx0 : x0 ∈ L) (gx0 : tag x0 = 45) (pf0 : fld Fo p0 3 = .ref x0) (mx1 : x1 ∈ L) (gx1 : tag x1 = 40) (pf1 : fld Fo p0 24 = .ref x1) : TMv l yX13_findsFirst cX13_findsFirst 4 { frames := 7, cells := 0, slots := 0, locals := 170 } G ttC tag L Fo [.ref p0, .int p1] (fun F1 => ((∀ b j : Nat, (tag b ≠ 46 ∨ j ≠ 22) → (tag b ≠ 46 ∨ j ≠ 23) → (tag b ≠ 46 ∨ j ≠ 28) → fld F1 b j = fld Fo b j) ∧ (∀ b j : Nat, tag b ≠ 37 → tag b ≠ 40 → tag b ≠ 41 → elm F1 b j = elm Fo b j))) := by
  refine t_bodyv (y := yX13_findsFirst) (cd := cX13_findsFirst) (mL := 4) (rm := { frames := 7, cells := 0, slots := 0, locals := 170 }) (av := [.ref p0, .int p1]) (by decide) (Nat.le_of_ble_eq_true rfl) ho ?_
  intro p e s m args below meth c ls A Q hQ X hT hl
  have hx := X.1.1
  have hb := X.1.2.1
  have hl : lv_has ls 4 [(0, .ref p0), (1, .int p1)] := hl
  obtain ⟨F, hFo⟩ : ∃ F : Nat → va_E, F = Fo := ⟨_, rfl⟩
  rw [← hFo] at hT pf0 pf1
  have hfr : (∀ b j : Nat, (tag b ≠ 46 ∨ j ≠ 22) → (tag b ≠ 46 ∨ j ≠ 23) → (tag b ≠ 46 ∨ j ≠ 28) → fld F b j = fld Fo b j) ∧ (∀ b j : Nat, tag b ≠ 37 → tag b ≠ 40 → tag b ≠ 41 → elm F b j = elm Fo b j) := by
    rw [hFo]
    exact ⟨by intros; rfl, by intros; rfl⟩
  have K15 : ∀ (n : Nat) (lx : Int) (z61001 : Int32) (z61002 : Int32) (F : Nat → va_E) (H : Heap) (locs : List Loc) (ls : Array Slot), (1295 - lx < (n : Int)) → (1 ≤ z61001.toInt ∧ z61001.toInt ≤ 1) → TH G ttC A s tag L F H locs → ((∀ b j : Nat, (tag b ≠ 46 ∨ j ≠ 22) → (tag b ≠ 46 ∨ j ≠ 23) → (tag b ≠ 46 ∨ j ≠ 28) → fld F b j = fld Fo b j) ∧ (∀ b j : Nat, tag b ≠ 37 → tag b ≠ 40 → tag b ≠ 41 → elm F b j = elm Fo b j)) → (fld F p0 3 = .ref x0) → (fld F p0 24 = .ref x1) → (fld F p0 28 = .int z61002) → (CAR F x1 4 lx) → lv_has ls 4 [(0, .ref p0), (1, .int p1), (2, .int z61001)] → W p l e { frames := 7, cells := 0, slots := 0, locals := 170 } s m args below meth c H locs 0 0 Q (F0 m 15 ls []) := by
    intro n
    induction n with
    | zero =>
      intro lx z61001 z61002 F H locs ls hn rz61001 hT hfr pf0 pf1 qz61002 hcar hl
      have rz61002 := rg_all z61002
      have h9 := car_b4 hcar
      exfalso
      omega
    | succ n ih15 =>
      intro lx z61001 z61002 F H locs ls hn rz61001 hT hfr pf0 pf1 qz61002 hcar hl
      have rz61002 := rg_all z61002
      have K90 : ∀ (z61003 : Int32) (z61004 : Int32) (F : Nat → va_E) (H : Heap) (locs : List Loc) (ls : Array Slot), (0 ≤ z61003.toInt ∧ z61003.toInt ≤ 39) → TH G ttC A s tag L F H locs → ((∀ b j : Nat, (tag b ≠ 46 ∨ j ≠ 22) → (tag b ≠ 46 ∨ j ≠ 23) → (tag b ≠ 46 ∨ j ≠ 28) → fld F b j = fld Fo b j) ∧ (∀ b j : Nat, tag b ≠ 37 → tag b ≠ 40 → tag b ≠ 41 → elm F b j = elm Fo b j)) → (fld F p0 3 = .ref x0) → (fld F p0 24 = .ref x1) → (fld F p0 28 = .int z61004) → (CAR F x1 4 lx) → lv_has ls 4 [(0, .ref p0), (1, .int p1), (2, .int z61001), (3, .int z61003)] → W p l e { frames := 7, cells := 0, slots := 0, locals := 170 } s m args below meth c H locs 0 0 Q (F0 m 90 ls []) := by
        intro z61003 z61004 F H locs ls rz61003 hT hfr pf0 pf1 qz61004 hcar hl
        have rz61004 := rg_all z61004
        refine lv_aload_n hx hb dX13_findsFirst_90 rfl (lv_at hl 0 rfl) ?_
        refine t_get (C := RX13) (T := TX13) (N := 37) X hT m0 g0 rfl rfl 24 (by decide) qw_116 inlX13 rfl dX13_findsFirst_91 (fun v61005 hv61005 ov61005 => ?_)
        obtain rfl : v61005 = .ref x1 := hv61005.symm.trans pf1
        refine lv_aload_n hx hb dX13_findsFirst_94 rfl (lv_at hl 0 rfl) ?_
        refine t_get (C := RX13) (T := TX13) (N := 37) X hT m0 g0 rfl rfl 3 (by decide) qw_481 inlX13 rfl dX13_findsFirst_95 (fun v61006 hv61006 ov61006 => ?_)
        obtain rfl : v61006 = .ref x0 := hv61006.symm.trans pf0
        refine t_getN (C := RX12) (T := TX12) (N := 31) X hT mx0 gx0 rfl rfl 8 (by decide) (List.mem_of_getElem? (i := 12) rfl) inlX12 rfl dX13_findsFirst_98 (fun v61007 hv61007 ov61007 => ?_)
        obtain ⟨z61008, rfl, rz61008⟩ := okV_i ov61007
        refine t_cSi (n := 2) (As := [.ref x1, .int z61008]) (rest := []) X hT (km203_X13_turns l G tag L F hT.2.2.2 x1 z61008 lx mx1 gx1 (by omega) hcar) qw_1262 qw_1263 qw_5 qw_1264 ⟨by decide +kernel, by decide +kernel, by decide +kernel⟩ ⟨Nat.le_of_ble_eq_true rfl, Nat.le_of_ble_eq_true rfl⟩ hl rfl rfl (Nat.le_of_ble_eq_true rfl) dX13_findsFirst_101 ⟨Nat.le_of_ble_eq_true rfl, Nat.le_of_ble_eq_true rfl⟩ (fun z61009 F H locs hT hz61009 => ?_)
        obtain ⟨hz61009, yz61009, xz61009_0⟩ := hz61009
        have qz61004 := (yz61009.1 _ 28 ).trans qz61004
        have pf0 := (yz61009.1 _ 3 ).trans pf0
        have pf1 := (yz61009.1 _ 24 ).trans pf1
        have hv61007 := (yz61009.1 _ 8 ).trans hv61007
        have hfr : (∀ b j : Nat, (tag b ≠ 46 ∨ j ≠ 22) → (tag b ≠ 46 ∨ j ≠ 23) → (tag b ≠ 46 ∨ j ≠ 28) → fld F b j = fld Fo b j) ∧ (∀ b j : Nat, tag b ≠ 37 → tag b ≠ 40 → tag b ≠ 41 → elm F b j = elm Fo b j) := ⟨fun b j n46_22 n46_23 n46_28 => (yz61009.1 b j ).trans (hfr.1 b j n46_22 n46_23 n46_28), fun b j a37 a40 a41 => (yz61009.2 b j a40).trans (hfr.2 b j a37 a40 a41)⟩
        refine lv_istore_n (lv' := [(2, .int z61009), (0, .ref p0), (1, .int p1), (3, .int z61003)]) hx hb dX13_findsFirst_104 rfl hl (by decide) rfl (fun ls hl => ?_)
        refine lv_goto (tgt := 11) hx hb dX13_findsFirst_105 (by decide) ?_
        refine lv_iload_n hx hb dX13_findsFirst_11 rfl (lv_at hl 0 rfl) ?_
        refine lv_if_eq (tgt := 108) hx hb dX13_findsFirst_12 (by decide) (fun c61010 => ?_) (fun c61010 => ?_)
        · have w61011 := cv_eq (rfl : z61009.toInt = z61009.toInt) (by decide : (0 : Int32).toInt = 0) c61010
          exact t_vret hQ X hT hfr (Nat.le_of_ble_eq_true rfl) (Nat.le_of_ble_eq_true rfl) dX13_findsFirst_108
        · have w61012 := cv_ne (rfl : z61009.toInt = z61009.toInt) (by decide : (0 : Int32).toInt = 0) c61010
          obtain ⟨lx61013, hcar, hlx61013⟩ := xz61009_0 (by omega)
          have h9k61014 := car_b4 hcar
          exact ih15 lx61013 z61009 z61004 _ _ _ _ (by omega) (by omega) hT hfr pf0 pf1 qz61004 hcar (lv_sub hl [1, 2, 0] rfl)
      have K67 : ∀ (n : Nat) (z61015 : Int32) (z61016 : Int32) (F : Nat → va_E) (H : Heap) (locs : List Loc) (ls : Array Slot), (4 - z61015.toInt < (n : Int)) → (0 ≤ z61015.toInt ∧ z61015.toInt ≤ 4) → TH G ttC A s tag L F H locs → ((∀ b j : Nat, (tag b ≠ 46 ∨ j ≠ 22) → (tag b ≠ 46 ∨ j ≠ 23) → (tag b ≠ 46 ∨ j ≠ 28) → fld F b j = fld Fo b j) ∧ (∀ b j : Nat, tag b ≠ 37 → tag b ≠ 40 → tag b ≠ 41 → elm F b j = elm Fo b j)) → (fld F p0 3 = .ref x0) → (fld F p0 24 = .ref x1) → (fld F p0 28 = .int z61016) → (CAR F x1 4 lx) → lv_has ls 4 [(0, .ref p0), (1, .int p1), (2, .int z61001), (3, .int z61015)] → W p l e { frames := 7, cells := 0, slots := 0, locals := 170 } s m args below meth c H locs 0 0 Q (F0 m 67 ls []) := by
        intro n
        induction n with
        | zero =>
          intro z61015 z61016 F H locs ls hn rz61015 hT hfr pf0 pf1 qz61016 hcar hl
          have rz61016 := rg_all z61016
          exfalso
          omega
        | succ n ih67 =>
          intro z61015 z61016 F H locs ls hn rz61015 hT hfr pf0 pf1 qz61016 hcar hl
          have rz61016 := rg_all z61016
          refine lv_iload_n hx hb dX13_findsFirst_67 rfl (lv_at hl 3 rfl) ?_
          refine lv_iconst (v := 4) hx hb dX13_findsFirst_68 (by decide) ?_
          refine lv_icmp_ge (tgt := 90) hx hb dX13_findsFirst_69 (by decide) (fun c61017 => ?_) (fun c61017 => ?_)
          · have w61018 := cv_le (by decide : (4 : Int32).toInt = 4) (rfl : z61015.toInt = z61015.toInt) c61017
            exact K90 z61015 z61016 _ _ _ _ (by omega) hT hfr pf0 pf1 qz61016 hcar (lv_sub hl [0, 1, 2, 3] rfl)
          · have w61019 := cv_nle (by decide : (4 : Int32).toInt = 4) (rfl : z61015.toInt = z61015.toInt) c61017
            refine lv_aload_n hx hb dX13_findsFirst_72 rfl (lv_at hl 0 rfl) ?_
            refine t_get (C := RX13) (T := TX13) (N := 37) X hT m0 g0 rfl rfl 25 (by decide) qw_117 inlX13 rfl dX13_findsFirst_73 (fun v61020 hv61020 ov61020 => ?_)
            obtain ⟨b61021, rfl, mb61021, gb61021⟩ := okV_r ov61020
            have gb61021 : tag b61021 = 41 := tg_of gb61021
            refine lv_iload_n hx hb dX13_findsFirst_76 rfl (lv_at hl 3 rfl) ?_
            refine lv_aload_n hx hb dX13_findsFirst_77 rfl (lv_at hl 0 rfl) ?_
            refine t_get (C := RX13) (T := TX13) (N := 37) X hT m0 g0 rfl rfl 24 (by decide) qw_116 inlX13 rfl dX13_findsFirst_78 (fun v61022 hv61022 ov61022 => ?_)
            obtain rfl : v61022 = .ref x1 := hv61022.symm.trans pf1
            refine lv_iload_n hx hb dX13_findsFirst_81 rfl (lv_at hl 3 rfl) ?_
            refine t_ild X hT mx1 gx1 rfl (by omega) dX13_findsFirst_82 (fun z61023 vz61023 rz61023 => ?_)
            have rz61023 : 0 ≤ z61023.toInt ∧ z61023.toInt ≤ 3 := rz61023
            refine t_ist X hT mb61021 gb61021 rfl (by omega) (show (-2147483648) ≤ (z61023 : Int32).toInt ∧ (z61023 : Int32).toInt ≤ 2147483647 from (rg_all _)) dX13_findsFirst_83 (fun F H locs hT v61024 h1v61024 h2v61024 => ?_)
            have qz61016 := (h2v61024 _ _).trans qz61016
            have pf0 := (h2v61024 _ _).trans pf0
            have pf1 := (h2v61024 _ _).trans pf1
            have hv61020 := (h2v61024 _ _).trans hv61020
            have vz61023 := (h1v61024 _ _ (Or.inl (tne gx1 gb61021 (by decide)))).trans vz61023
            have hfr : (∀ b j : Nat, (tag b ≠ 46 ∨ j ≠ 22) → (tag b ≠ 46 ∨ j ≠ 23) → (tag b ≠ 46 ∨ j ≠ 28) → fld F b j = fld Fo b j) ∧ (∀ b j : Nat, tag b ≠ 37 → tag b ≠ 40 → tag b ≠ 41 → elm F b j = elm Fo b j) := ⟨fun b j n46_22 n46_23 n46_28 => (h2v61024 b j).trans (hfr.1 b j n46_22 n46_23 n46_28), fun b j a37 a40 a41 => (h1v61024 b j (Or.inl (at_ne gb61021 a41))).trans (hfr.2 b j a37 a40 a41)⟩
            have hcar := car_of (fun j => h1v61024 _ j (Or.inl (tne gx1 gb61021 (by decide)))) hcar
            obtain ⟨z61025, ez61025⟩ : ∃ y : Int32, y = z61015 + 1 := ⟨_, rfl⟩
            have hz61025 : z61025.toInt = z61015.toInt + 1 := ar_add ez61025 rfl (by decide : (1 : Int32).toInt = 1) (by omega) (by omega)
            refine lv_iinc (v := z61025) (lv' := [(3, .int z61025), (0, .ref p0), (1, .int p1), (2, .int z61001)]) hx hb dX13_findsFirst_84 hl (k := 3) rfl (by rw [ez61025]; rfl) (by decide) rfl (fun ls hl => ?_)
            refine lv_goto (tgt := 67) hx hb dX13_findsFirst_87 (by decide) ?_
            exact ih67 z61025 z61016 _ _ _ _ (by omega) (by omega) hT hfr pf0 pf1 qz61016 hcar (lv_sub hl [1, 2, 3, 0] rfl)
      have K21 : ∀ (n : Nat) (z61026 : Int32) (z61027 : Int32) (F : Nat → va_E) (H : Heap) (locs : List Loc) (ls : Array Slot), (39 - z61026.toInt < (n : Int)) → (0 ≤ z61026.toInt ∧ z61026.toInt ≤ 39) → TH G ttC A s tag L F H locs → ((∀ b j : Nat, (tag b ≠ 46 ∨ j ≠ 22) → (tag b ≠ 46 ∨ j ≠ 23) → (tag b ≠ 46 ∨ j ≠ 28) → fld F b j = fld Fo b j) ∧ (∀ b j : Nat, tag b ≠ 37 → tag b ≠ 40 → tag b ≠ 41 → elm F b j = elm Fo b j)) → (fld F p0 3 = .ref x0) → (fld F p0 24 = .ref x1) → (fld F p0 28 = .int z61027) → (CAR F x1 4 lx) → lv_has ls 4 [(0, .ref p0), (1, .int p1), (2, .int z61001), (3, .int z61026)] → W p l e { frames := 7, cells := 0, slots := 0, locals := 170 } s m args below meth c H locs 0 0 Q (F0 m 21 ls []) := by
        intro n
        induction n with
        | zero =>
          intro z61026 z61027 F H locs ls hn rz61026 hT hfr pf0 pf1 qz61027 hcar hl
          have rz61027 := rg_all z61027
          exfalso
          omega
        | succ n ih21 =>
          intro z61026 z61027 F H locs ls hn rz61026 hT hfr pf0 pf1 qz61027 hcar hl
          have rz61027 := rg_all z61027
          refine lv_iload_n hx hb dX13_findsFirst_21 rfl (lv_at hl 3 rfl) ?_
          refine lv_iload_n hx hb dX13_findsFirst_22 rfl (lv_at hl 1 rfl) ?_
          refine lv_icmp_ge (tgt := 40) hx hb dX13_findsFirst_23 (by decide) (fun c61028 => ?_) (fun c61028 => ?_)
          · have w61029 := cv_le (rfl : p1.toInt = p1.toInt) (rfl : z61026.toInt = z61026.toInt) c61028
            refine lv_aload_n hx hb dX13_findsFirst_40 rfl (lv_at hl 0 rfl) ?_
            refine t_get (C := RX13) (T := TX13) (N := 37) X hT m0 g0 rfl rfl 17 (by decide) qw_113 inlX13 rfl dX13_findsFirst_41 (fun v61030 hv61030 ov61030 => ?_)
            obtain ⟨b61031, rfl, mb61031, gb61031⟩ := okV_r ov61030
            have gb61031 : tag b61031 = 37 := tg_of gb61031
            refine t_cSi (n := 1) (As := [.ref b61031]) (rest := []) X hT (km187_X13_allSkins l G tag L F hT.2.2.2 b61031 mb61031 gb61031) qw_1190 qw_1191 qw_5 qw_1192 ⟨by decide +kernel, by decide +kernel, by decide +kernel⟩ ⟨Nat.le_of_ble_eq_true rfl, Nat.le_of_ble_eq_true rfl⟩ hl rfl rfl (Nat.le_of_ble_eq_true rfl) dX13_findsFirst_44 ⟨Nat.le_of_ble_eq_true rfl, Nat.le_of_ble_eq_true rfl⟩ (fun z61032 F9 H locs hT hz61032 => ?_)
            obtain ⟨fz61032, hz61032⟩ := hz61032
            rw [fz61032] at hT
            refine lv_aload_n hx hb dX13_findsFirst_47 rfl (lv_at hl 0 rfl) ?_
            refine t_get (C := RX13) (T := TX13) (N := 37) X hT m0 g0 rfl rfl 28 (by decide) qw_1257 inlX13 rfl dX13_findsFirst_48 (fun v61033 hv61033 ov61033 => ?_)
            obtain rfl : v61033 = .int z61027 := hv61033.symm.trans qz61027
            refine lv_icmp_le (tgt := 90) hx hb dX13_findsFirst_51 (by decide) (fun c61034 => ?_) (fun c61034 => ?_)
            · have w61035 := cv_le (rfl : z61032.toInt = z61032.toInt) (rfl : z61027.toInt = z61027.toInt) c61034
              exact K90 z61026 z61027 _ _ _ _ (by omega) hT hfr pf0 pf1 qz61027 hcar (lv_sub hl [0, 1, 2, 3] rfl)
            · have w61036 := cv_nle (rfl : z61032.toInt = z61032.toInt) (rfl : z61027.toInt = z61027.toInt) c61034
              refine lv_aload_n hx hb dX13_findsFirst_54 rfl (lv_at hl 0 rfl) ?_
              refine lv_aload_n hx hb dX13_findsFirst_55 rfl (lv_at hl 0 rfl) ?_
              refine t_get (C := RX13) (T := TX13) (N := 37) X hT m0 g0 rfl rfl 17 (by decide) qw_113 inlX13 rfl dX13_findsFirst_56 (fun v61037 hv61037 ov61037 => ?_)
              obtain rfl : v61037 = .ref b61031 := hv61037.symm.trans hv61030
              refine t_cSi (n := 1) (As := [.ref b61031]) (rest := [.ref p0]) X hT (km187_X13_allSkins l G tag L F hT.2.2.2 b61031 mb61031 gb61031) qw_1190 qw_1191 qw_5 qw_1192 ⟨by decide +kernel, by decide +kernel, by decide +kernel⟩ ⟨Nat.le_of_ble_eq_true rfl, Nat.le_of_ble_eq_true rfl⟩ hl rfl rfl (Nat.le_of_ble_eq_true rfl) dX13_findsFirst_59 ⟨Nat.le_of_ble_eq_true rfl, Nat.le_of_ble_eq_true rfl⟩ (fun z61038 F9 H locs hT hz61038 => ?_)
              obtain ⟨fz61038, hz61038⟩ := hz61038
              rw [fz61038] at hT
              refine t_put (C := RX13) (T := TX13) (N := 37) (v := .int z61038) X hT m0 g0 rfl tyX13 tyX13_ok nmX13 rfl 28 (by decide) qw_1257 inlX13 rfl (by first | rfl | decide) (by first | rfl | decide) rfl (⟨_, rfl, (show (-2147483648) ≤ (z61038 : Int32).toInt from (by omega)), (show (z61038 : Int32).toInt ≤ 2147483647 from (by omega))⟩) dX13_findsFirst_62 (fun F H locs hT v61039 h1v61039 h2v61039 => ?_)
              have pf0 := (h1v61039 _ _ (Or.inr (by decide))).trans pf0
              have pf1 := (h1v61039 _ _ (Or.inr (by decide))).trans pf1
              have hv61030 := (h1v61039 _ _ (Or.inr (by decide))).trans hv61030
              have hfr : (∀ b j : Nat, (tag b ≠ 46 ∨ j ≠ 22) → (tag b ≠ 46 ∨ j ≠ 23) → (tag b ≠ 46 ∨ j ≠ 28) → fld F b j = fld Fo b j) ∧ (∀ b j : Nat, tag b ≠ 37 → tag b ≠ 40 → tag b ≠ 41 → elm F b j = elm Fo b j) := ⟨fun b j n46_22 n46_23 n46_28 => (h1v61039 b j (fr_ne g0 n46_28)).trans (hfr.1 b j n46_22 n46_23 n46_28), fun b j a37 a40 a41 => (h2v61039 b j).trans (hfr.2 b j a37 a40 a41)⟩
              have hcar := car_of (fun j => h2v61039 _ j) hcar
              refine lv_iconst (v := 0) hx hb dX13_findsFirst_65 (by decide) ?_
              refine lv_istore_n (lv' := [(3, .int 0), (0, .ref p0), (1, .int p1), (2, .int z61001)]) hx hb dX13_findsFirst_66 rfl hl (by decide) rfl (fun ls hl => ?_)
              have k61040 : (0 : Int32).toInt = 0 := by decide
              exact K67 5 0 z61038 _ _ _ _ (by omega) (by decide) hT hfr pf0 pf1 v61039 hcar (lv_sub hl [1, 2, 3, 0] rfl)
          · have w61041 := cv_nle (rfl : p1.toInt = p1.toInt) (rfl : z61026.toInt = z61026.toInt) c61028
            refine lv_aload_n hx hb dX13_findsFirst_26 rfl (lv_at hl 0 rfl) ?_
            refine lv_aload_n hx hb dX13_findsFirst_27 rfl (lv_at hl 0 rfl) ?_
            refine t_get (C := RX13) (T := TX13) (N := 37) X hT m0 g0 rfl rfl 17 (by decide) qw_113 inlX13 rfl dX13_findsFirst_28 (fun v61042 hv61042 ov61042 => ?_)
            obtain ⟨b61043, rfl, mb61043, gb61043⟩ := okV_r ov61042
            have gb61043 : tag b61043 = 37 := tg_of gb61043
            refine t_cVv (n := 1) (C := RX13) (T := TX13) (N := 37) (As := [.ref b61043]) (rest := []) X hT (km181_X13_goesBy l G tag L F hT.2.2.2 p0 b61043 x0 m0 g0 mb61043 gb61043 mx0 gx0 pf0) m0 g0 rfl rfl qw_1160 qw_1161 qw_1162 qw_5 qw_1163 ⟨rfl, by decide +kernel, by decide +kernel, by decide +kernel⟩ ⟨Nat.le_of_ble_eq_true rfl, Nat.le_of_ble_eq_true rfl⟩ hl rfl rfl (Nat.le_of_ble_eq_true rfl) dX13_findsFirst_31 ⟨Nat.le_of_ble_eq_true rfl, Nat.le_of_ble_eq_true rfl⟩ (fun F H locs hT hz61044 => ?_)
            have yz61044 := hz61044
            have qz61027 := (yz61044.1 _ 28 (Or.inr (by decide)) (Or.inr (by decide))).trans qz61027
            have pf0 := (yz61044.1 _ 3 (Or.inr (by decide)) (Or.inr (by decide))).trans pf0
            have pf1 := (yz61044.1 _ 24 (Or.inr (by decide)) (Or.inr (by decide))).trans pf1
            have hv61042 := (yz61044.1 _ 17 (Or.inr (by decide)) (Or.inr (by decide))).trans hv61042
            have hfr : (∀ b j : Nat, (tag b ≠ 46 ∨ j ≠ 22) → (tag b ≠ 46 ∨ j ≠ 23) → (tag b ≠ 46 ∨ j ≠ 28) → fld F b j = fld Fo b j) ∧ (∀ b j : Nat, tag b ≠ 37 → tag b ≠ 40 → tag b ≠ 41 → elm F b j = elm Fo b j) := ⟨fun b j n46_22 n46_23 n46_28 => (yz61044.1 b j n46_22 n46_23).trans (hfr.1 b j n46_22 n46_23 n46_28), fun b j a37 a40 a41 => (yz61044.2 b j a37).trans (hfr.2 b j a37 a40 a41)⟩
            have hcar := car_of (fun j => yz61044.2 _ j (by rw [gx1]; decide)) hcar
            obtain ⟨z61045, ez61045⟩ : ∃ y : Int32, y = z61026 + 1 := ⟨_, rfl⟩
            have hz61045 : z61045.toInt = z61026.toInt + 1 := ar_add ez61045 rfl (by decide : (1 : Int32).toInt = 1) (by omega) (by omega)
            refine lv_iinc (v := z61045) (lv' := [(3, .int z61045), (0, .ref p0), (1, .int p1), (2, .int z61001)]) hx hb dX13_findsFirst_34 hl (k := 3) rfl (by rw [ez61045]; rfl) (by decide) rfl (fun ls hl => ?_)
            refine lv_goto (tgt := 21) hx hb dX13_findsFirst_37 (by decide) ?_
            exact ih21 z61045 z61027 _ _ _ _ (by omega) (by omega) hT hfr pf0 pf1 qz61027 hcar (lv_sub hl [1, 2, 3, 0] rfl)
      refine lv_aload_n hx hb dX13_findsFirst_15 rfl (lv_at hl 0 rfl) ?_
      refine t_cVv (n := 0) (C := RX13) (T := TX13) (N := 37) (As := []) (rest := []) X hT (km176_X13_copies l G tag L F hT.2.2.2 p0 m0 g0) m0 g0 rfl rfl qw_1152 qw_1153 qw_1154 qw_5 qw_1155 ⟨rfl, by decide +kernel, by decide +kernel, by decide +kernel⟩ ⟨Nat.le_of_ble_eq_true rfl, Nat.le_of_ble_eq_true rfl⟩ hl rfl rfl (Nat.le_of_ble_eq_true rfl) dX13_findsFirst_16 ⟨Nat.le_of_ble_eq_true rfl, Nat.le_of_ble_eq_true rfl⟩ (fun F H locs hT hz61046 => ?_)
      have yz61046 := hz61046
      have qz61002 := (yz61046.1 _ 28 ).trans qz61002
      have pf0 := (yz61046.1 _ 3 ).trans pf0
      have pf1 := (yz61046.1 _ 24 ).trans pf1
      have hfr : (∀ b j : Nat, (tag b ≠ 46 ∨ j ≠ 22) → (tag b ≠ 46 ∨ j ≠ 23) → (tag b ≠ 46 ∨ j ≠ 28) → fld F b j = fld Fo b j) ∧ (∀ b j : Nat, tag b ≠ 37 → tag b ≠ 40 → tag b ≠ 41 → elm F b j = elm Fo b j) := ⟨fun b j n46_22 n46_23 n46_28 => (yz61046.1 b j ).trans (hfr.1 b j n46_22 n46_23 n46_28), fun b j a37 a40 a41 => (yz61046.2 b j a37).trans (hfr.2 b j a37 a40 a41)⟩
      have hcar := car_of (fun j => yz61046.2 _ j (by rw [gx1]; decide)) hcar
      refine lv_iconst (v := 0) hx hb dX13_findsFirst_19 (by decide) ?_
      refine lv_istore_n (lv' := [(3, .int 0), (0, .ref p0), (1, .int p1), (2, .int z61001)]) hx hb dX13_findsFirst_20 rfl hl (by decide) rfl (fun ls hl => ?_)
      have k61047 : (0 : Int32).toInt = 0 := by decide
      exact K21 40 0 z61002 _ _ _ _ (by omega) (by decide) hT hfr pf0 pf1 qz61002 hcar (lv_sub hl [1, 2, 3, 0] rfl)
  refine lv_aload_n hx hb dX13_findsFirst_0 rfl (lv_at hl 0 rfl) ?_
  refine lv_iconst (v := (-1)) hx hb dX13_findsFirst_1 (by decide) ?_
  refine t_put (C := RX13) (T := TX13) (N := 37) (v := .int (-1)) X hT m0 g0 rfl tyX13 tyX13_ok nmX13 rfl 28 (by decide) qw_1257 inlX13 rfl (by first | rfl | decide) (by first | rfl | decide) rfl (⟨_, rfl, (show (-2147483648) ≤ ((-1) : Int32).toInt from (by decide)), (show ((-1) : Int32).toInt ≤ 2147483647 from (by decide))⟩) dX13_findsFirst_2 (fun F H locs hT v61048 h1v61048 h2v61048 => ?_)
  have pf0 := (h1v61048 _ _ (Or.inr (by decide))).trans pf0
  have pf1 := (h1v61048 _ _ (Or.inr (by decide))).trans pf1
  have hfr : (∀ b j : Nat, (tag b ≠ 46 ∨ j ≠ 22) → (tag b ≠ 46 ∨ j ≠ 23) → (tag b ≠ 46 ∨ j ≠ 28) → fld F b j = fld Fo b j) ∧ (∀ b j : Nat, tag b ≠ 37 → tag b ≠ 40 → tag b ≠ 41 → elm F b j = elm Fo b j) := ⟨fun b j n46_22 n46_23 n46_28 => (h1v61048 b j (fr_ne g0 n46_28)).trans (hfr.1 b j n46_22 n46_23 n46_28), fun b j a37 a40 a41 => (h2v61048 b j).trans (hfr.2 b j a37 a40 a41)⟩
  refine lv_aload_n hx hb dX13_findsFirst_5 rfl (lv_at hl 0 rfl) ?_
  refine t_cVv (n := 0) (C := RX13) (T := TX13) (N := 37) (As := []) (rest := []) X hT (km177_X13_byNumbers l G tag L F hT.2.2.2 p0 x1 m0 g0 mx1 gx1 pf1) m0 g0 rfl rfl qw_1156 qw_1157 qw_1158 qw_5 qw_1159 ⟨rfl, by decide +kernel, by decide +kernel, by decide +kernel⟩ ⟨Nat.le_of_ble_eq_true rfl, Nat.le_of_ble_eq_true rfl⟩ hl rfl rfl (Nat.le_of_ble_eq_true rfl) dX13_findsFirst_6 ⟨Nat.le_of_ble_eq_true rfl, Nat.le_of_ble_eq_true rfl⟩ (fun F H locs hT hz61049 => ?_)
  obtain ⟨yz61049, xz61049_0⟩ := hz61049
  have pf0 := (yz61049.1 _ 3 ).trans pf0
  have pf1 := (yz61049.1 _ 24 ).trans pf1
  have v61048 := (yz61049.1 _ 28 ).trans v61048
  have hfr : (∀ b j : Nat, (tag b ≠ 46 ∨ j ≠ 22) → (tag b ≠ 46 ∨ j ≠ 23) → (tag b ≠ 46 ∨ j ≠ 28) → fld F b j = fld Fo b j) ∧ (∀ b j : Nat, tag b ≠ 37 → tag b ≠ 40 → tag b ≠ 41 → elm F b j = elm Fo b j) := ⟨fun b j n46_22 n46_23 n46_28 => (yz61049.1 b j ).trans (hfr.1 b j n46_22 n46_23 n46_28), fun b j a37 a40 a41 => (yz61049.2 b j a40).trans (hfr.2 b j a37 a40 a41)⟩
  obtain ⟨lx, hcar⟩ := xz61049_0
  refine lv_iconst (v := 1) hx hb dX13_findsFirst_9 (by decide) ?_
  refine lv_istore_n (lv' := [(2, .int 1), (0, .ref p0), (1, .int p1)]) hx hb dX13_findsFirst_10 rfl hl (by decide) rfl (fun ls hl => ?_)
  refine lv_iload_n hx hb dX13_findsFirst_11 rfl (lv_at hl 0 rfl) ?_
  refine lv_if_eq (tgt := 108) hx hb dX13_findsFirst_12 (by decide) (fun c9 => absurd c9 (by decide)) (fun _ => ?_)
  have k61050 : (1 : Int32).toInt = 1 := by decide
  have k61051 : ((-1) : Int32).toInt = (-1) := by decide
  have h9k61052 := car_b4 hcar
  exact K15 1296 lx 1 (-1) _ _ _ _ (by omega) (by decide) hT hfr pf0 pf1 v61048 hcar (lv_sub hl [1, 2, 0] rfl)
set_option maxHeartbeats 4000000 in
set_option maxRecDepth 100000 in
theorem km205_X13_first (l : Launch) (G : KG) (tag : Nat → Nat) (L : List Nat) (Fo : Nat → va_E) (ho : okT G ttC tag L Fo) (p0 : Nat) (p1 : Int32) (x0 : Nat) (m0 : p0 ∈ L) (g0 : tag p0 = 46) (mx0 : x0 ∈ L) (gx0 : tag x0 = 45) (pf0 : fld Fo p0 3 = .ref x0) : TMi l yX13_first cX13_first 3 (some .int) { frames := 8, cells := 0, slots := 0, locals := 193 } G ttC tag L Fo [.ref p0, .int p1] (fun r F1 => ((-2147483648) ≤ r.toInt ∧ r.toInt ≤ 2147483647) ∧ ((∀ b j : Nat, (tag b ≠ 46 ∨ j ≠ 0) → (tag b ≠ 46 ∨ j ≠ 1) → (tag b ≠ 46 ∨ j ≠ 2) → (tag b ≠ 46 ∨ j ≠ 22) → (tag b ≠ 46 ∨ j ≠ 23) → (tag b ≠ 46 ∨ j ≠ 28) → fld F1 b j = fld Fo b j) ∧ (∀ b j : Nat, tag b ≠ 37 → tag b ≠ 40 → tag b ≠ 41 → elm F1 b j = elm Fo b j))) := by
  refine t_bodyi (y := yX13_first) (cd := cX13_first) (mL := 3) (rt := (some .int)) (rm := { frames := 8, cells := 0, slots := 0, locals := 193 }) (av := [.ref p0, .int p1]) (by decide) (Nat.le_of_ble_eq_true rfl) ho ?_
  intro p e s m args below meth c ls A Q hQ X hT hl
  have hx := X.1.1
  have hb := X.1.2.1
  have hl : lv_has ls 3 [(0, .ref p0), (1, .int p1)] := hl
  have rp1 := rg_all p1
  obtain ⟨F, hFo⟩ : ∃ F : Nat → va_E, F = Fo := ⟨_, rfl⟩
  rw [← hFo] at hT pf0
  have hfr : (∀ b j : Nat, (tag b ≠ 46 ∨ j ≠ 0) → (tag b ≠ 46 ∨ j ≠ 1) → (tag b ≠ 46 ∨ j ≠ 2) → (tag b ≠ 46 ∨ j ≠ 22) → (tag b ≠ 46 ∨ j ≠ 23) → (tag b ≠ 46 ∨ j ≠ 28) → fld F b j = fld Fo b j) ∧ (∀ b j : Nat, tag b ≠ 37 → tag b ≠ 40 → tag b ≠ 41 → elm F b j = elm Fo b j) := by
    rw [hFo]
    exact ⟨by intros; rfl, by intros; rfl⟩
  refine lv_aload_n hx hb dX13_first_0 rfl (lv_at hl 0 rfl) ?_
  refine lv_iconst (v := 0) hx hb dX13_first_1 (by decide) ?_
  refine t_put (C := RX13) (T := TX13) (N := 37) (v := .int 0) X hT m0 g0 rfl tyX13 tyX13_ok nmX13 rfl 0 (by decide) qw_140 inlX13 rfl (by first | rfl | decide) (by first | rfl | decide) rfl (⟨_, rfl, (show (-2147483648) ≤ (0 : Int32).toInt from (by decide)), (show (0 : Int32).toInt ≤ 2147483647 from (by decide))⟩) dX13_first_2 (fun F H locs hT v61200 h1v61200 h2v61200 => ?_)
  have pf0 := (h1v61200 _ _ (Or.inr (by decide))).trans pf0
  have hfr : (∀ b j : Nat, (tag b ≠ 46 ∨ j ≠ 0) → (tag b ≠ 46 ∨ j ≠ 1) → (tag b ≠ 46 ∨ j ≠ 2) → (tag b ≠ 46 ∨ j ≠ 22) → (tag b ≠ 46 ∨ j ≠ 23) → (tag b ≠ 46 ∨ j ≠ 28) → fld F b j = fld Fo b j) ∧ (∀ b j : Nat, tag b ≠ 37 → tag b ≠ 40 → tag b ≠ 41 → elm F b j = elm Fo b j) := ⟨fun b j n46_0 n46_1 n46_2 n46_22 n46_23 n46_28 => (h1v61200 b j (fr_ne g0 n46_0)).trans (hfr.1 b j n46_0 n46_1 n46_2 n46_22 n46_23 n46_28), fun b j a37 a40 a41 => (h2v61200 b j).trans (hfr.2 b j a37 a40 a41)⟩
  refine lv_aload_n hx hb dX13_first_5 rfl (lv_at hl 0 rfl) ?_
  refine lv_iconst (v := 1) hx hb dX13_first_6 (by decide) ?_
  refine lv_iload_n hx hb dX13_first_7 rfl (lv_at hl 1 rfl) ?_
  refine lv_bipush (v := 30) hx hb dX13_first_8 (by decide) ?_
  refine t_cVi (n := 3) (C := RX13) (T := TX13) (N := 37) (As := [.int 1, .int p1, .int 30]) (rest := []) X hT (km175_X13_refusesIn l G tag L F hT.2.2.2 p0 1 p1 30 x0 m0 g0 (by decide) mx0 gx0 pf0) m0 g0 rfl rfl qw_1144 qw_1145 qw_1146 qw_5 qw_1147 ⟨rfl, by decide +kernel, by decide +kernel, by decide +kernel⟩ ⟨Nat.le_of_ble_eq_true rfl, Nat.le_of_ble_eq_true rfl⟩ hl rfl rfl (Nat.le_of_ble_eq_true rfl) dX13_first_10 ⟨Nat.le_of_ble_eq_true rfl, Nat.le_of_ble_eq_true rfl⟩ (fun z61201 F9 H locs hT hz61201 => ?_)
  obtain ⟨fz61201, hz61201, xz61201_0⟩ := hz61201
  rw [fz61201] at hT
  have k61202 : (1 : Int32).toInt = 1 := by decide
  have k61203 : (30 : Int32).toInt = 30 := by decide
  refine lv_istore_n (lv' := [(2, .int z61201), (0, .ref p0), (1, .int p1)]) hx hb dX13_first_13 rfl hl (by decide) rfl (fun ls hl => ?_)
  refine lv_iload_n hx hb dX13_first_14 rfl (lv_at hl 0 rfl) ?_
  refine lv_if_le (tgt := 24) hx hb dX13_first_15 (by decide) (fun c61204 => ?_) (fun c61204 => ?_)
  · have w61205 := cv_le (rfl : z61201.toInt = z61201.toInt) (by decide : (0 : Int32).toInt = 0) c61204
    have w61206 := xz61201_0 (by omega)
    refine lv_aload_n hx hb dX13_first_24 rfl (lv_at hl 1 rfl) ?_
    refine lv_iload_n hx hb dX13_first_25 rfl (lv_at hl 2 rfl) ?_
    obtain ⟨z61207, qz61207, mz61207, gz61207⟩ := t_fldr hT m0 g0 rfl 24 rfl
    have gz61207 : tag z61207 = 40 := tg_of gz61207
    refine t_cVv (n := 1) (C := RX13) (T := TX13) (N := 37) (As := [.int p1]) (rest := []) X hT (km204_X13_findsFirst l G tag L F hT.2.2.2 p0 p1 x0 z61207 m0 g0 (by omega) mx0 gx0 pf0 mz61207 gz61207 qz61207) m0 g0 rfl rfl qw_1258 qw_1259 qw_1260 qw_5 qw_1261 ⟨rfl, by decide +kernel, by decide +kernel, by decide +kernel⟩ ⟨Nat.le_of_ble_eq_true rfl, Nat.le_of_ble_eq_true rfl⟩ hl rfl rfl (Nat.le_of_ble_eq_true rfl) dX13_first_26 ⟨Nat.le_of_ble_eq_true rfl, Nat.le_of_ble_eq_true rfl⟩ (fun F H locs hT hz61208 => ?_)
    have yz61208 := hz61208
    have pf0 := (yz61208.1 _ 3 (Or.inr (by decide)) (Or.inr (by decide)) (Or.inr (by decide))).trans pf0
    have v61200 := (yz61208.1 _ 0 (Or.inr (by decide)) (Or.inr (by decide)) (Or.inr (by decide))).trans v61200
    have qz61207 := (yz61208.1 _ 24 (Or.inr (by decide)) (Or.inr (by decide)) (Or.inr (by decide))).trans qz61207
    have hfr : (∀ b j : Nat, (tag b ≠ 46 ∨ j ≠ 0) → (tag b ≠ 46 ∨ j ≠ 1) → (tag b ≠ 46 ∨ j ≠ 2) → (tag b ≠ 46 ∨ j ≠ 22) → (tag b ≠ 46 ∨ j ≠ 23) → (tag b ≠ 46 ∨ j ≠ 28) → fld F b j = fld Fo b j) ∧ (∀ b j : Nat, tag b ≠ 37 → tag b ≠ 40 → tag b ≠ 41 → elm F b j = elm Fo b j) := ⟨fun b j n46_0 n46_1 n46_2 n46_22 n46_23 n46_28 => (yz61208.1 b j n46_22 n46_23 n46_28).trans (hfr.1 b j n46_0 n46_1 n46_2 n46_22 n46_23 n46_28), fun b j a37 a40 a41 => (yz61208.2 b j a37 a40 a41).trans (hfr.2 b j a37 a40 a41)⟩
    refine lv_aload_n hx hb dX13_first_29 rfl (lv_at hl 1 rfl) ?_
    refine lv_aload_n hx hb dX13_first_30 rfl (lv_at hl 1 rfl) ?_
    refine t_get (C := RX13) (T := TX13) (N := 37) X hT m0 g0 rfl rfl 28 (by decide) qw_1257 inlX13 rfl dX13_first_31 (fun v61209 hv61209 ov61209 => ?_)
    obtain ⟨z61210, rfl, rz61210⟩ := okV_i ov61209
    refine t_cVi (n := 1) (C := RX13) (T := TX13) (N := 37) (As := [.int z61210]) (rest := []) X hT (km93_X13_good l G tag L F hT.2.2.2 p0 z61210 m0 g0) m0 g0 rfl rfl qw_687 qw_688 qw_689 qw_5 qw_690 ⟨rfl, by decide +kernel, by decide +kernel, by decide +kernel⟩ ⟨Nat.le_of_ble_eq_true rfl, Nat.le_of_ble_eq_true rfl⟩ hl rfl rfl (Nat.le_of_ble_eq_true rfl) dX13_first_34 ⟨Nat.le_of_ble_eq_true rfl, Nat.le_of_ble_eq_true rfl⟩ (fun z61211 F H locs hT hz61211 => ?_)
    obtain ⟨hz61211, yz61211⟩ := hz61211
    have pf0 := (yz61211.1 _ 3 (Or.inr (by decide)) (Or.inr (by decide))).trans pf0
    have v61200 := (yz61211.1 _ 0 (Or.inr (by decide)) (Or.inr (by decide))).trans v61200
    have qz61207 := (yz61211.1 _ 24 (Or.inr (by decide)) (Or.inr (by decide))).trans qz61207
    have hv61209 := (yz61211.1 _ 28 (Or.inr (by decide)) (Or.inr (by decide))).trans hv61209
    have hfr : (∀ b j : Nat, (tag b ≠ 46 ∨ j ≠ 0) → (tag b ≠ 46 ∨ j ≠ 1) → (tag b ≠ 46 ∨ j ≠ 2) → (tag b ≠ 46 ∨ j ≠ 22) → (tag b ≠ 46 ∨ j ≠ 23) → (tag b ≠ 46 ∨ j ≠ 28) → fld F b j = fld Fo b j) ∧ (∀ b j : Nat, tag b ≠ 37 → tag b ≠ 40 → tag b ≠ 41 → elm F b j = elm Fo b j) := ⟨fun b j n46_0 n46_1 n46_2 n46_22 n46_23 n46_28 => (yz61211.1 b j n46_1 n46_2).trans (hfr.1 b j n46_0 n46_1 n46_2 n46_22 n46_23 n46_28), fun b j a37 a40 a41 => (yz61211.2 b j ).trans (hfr.2 b j a37 a40 a41)⟩
    exact t_iret hQ X hT (⟨rg_all _, hfr⟩) (Nat.le_of_ble_eq_true rfl) (Nat.le_of_ble_eq_true rfl) dX13_first_37
  · have w61212 := cv_nle (rfl : z61201.toInt = z61201.toInt) (by decide : (0 : Int32).toInt = 0) c61204
    refine lv_aload_n hx hb dX13_first_18 rfl (lv_at hl 1 rfl) ?_
    refine lv_iload_n hx hb dX13_first_19 rfl (lv_at hl 0 rfl) ?_
    refine t_cVi (n := 1) (C := RX13) (T := TX13) (N := 37) (As := [.int z61201]) (rest := []) X hT (km88_X13_refused l G tag L F hT.2.2.2 p0 z61201 m0 g0) m0 g0 rfl rfl qw_484 qw_485 qw_486 qw_5 qw_487 ⟨rfl, by decide +kernel, by decide +kernel, by decide +kernel⟩ ⟨Nat.le_of_ble_eq_true rfl, Nat.le_of_ble_eq_true rfl⟩ hl rfl rfl (Nat.le_of_ble_eq_true rfl) dX13_first_20 ⟨Nat.le_of_ble_eq_true rfl, Nat.le_of_ble_eq_true rfl⟩ (fun z61213 F H locs hT hz61213 => ?_)
    obtain ⟨hz61213, yz61213⟩ := hz61213
    have pf0 := (yz61213.1 _ 3 (Or.inr (by decide)) (Or.inr (by decide))).trans pf0
    have v61200 := (yz61213.1 _ 0 (Or.inr (by decide)) (Or.inr (by decide))).trans v61200
    have hfr : (∀ b j : Nat, (tag b ≠ 46 ∨ j ≠ 0) → (tag b ≠ 46 ∨ j ≠ 1) → (tag b ≠ 46 ∨ j ≠ 2) → (tag b ≠ 46 ∨ j ≠ 22) → (tag b ≠ 46 ∨ j ≠ 23) → (tag b ≠ 46 ∨ j ≠ 28) → fld F b j = fld Fo b j) ∧ (∀ b j : Nat, tag b ≠ 37 → tag b ≠ 40 → tag b ≠ 41 → elm F b j = elm Fo b j) := ⟨fun b j n46_0 n46_1 n46_2 n46_22 n46_23 n46_28 => (yz61213.1 b j n46_1 n46_2).trans (hfr.1 b j n46_0 n46_1 n46_2 n46_22 n46_23 n46_28), fun b j a37 a40 a41 => (yz61213.2 b j ).trans (hfr.2 b j a37 a40 a41)⟩
    exact t_iret hQ X hT (⟨rg_all _, hfr⟩) (Nat.le_of_ble_eq_true rfl) (Nat.le_of_ble_eq_true rfl) dX13_first_23
set_option maxHeartbeats 4000000 in
set_option maxRecDepth 100000 in
theorem km206_X13_first (l : Launch) (G : KG) (tag : Nat → Nat) (L : List Nat) (Fo : Nat → va_E) (ho : okT G ttC tag L Fo) (p0 : Nat) (p1 : Int32) (m0 : p0 ∈ L) (g0 : tag p0 = 46) (pf0 : fld Fo p0 3 = .null) : TMi l yX13_first cX13_first 3 (some .int) { frames := 8, cells := 0, slots := 0, locals := 193 } G ttC tag L Fo [.ref p0, .int p1] (fun r F1 => ((-2147483648) ≤ r.toInt ∧ r.toInt ≤ 2147483647) ∧ ((∀ b j : Nat, (tag b ≠ 46 ∨ j ≠ 0) → (tag b ≠ 46 ∨ j ≠ 1) → (tag b ≠ 46 ∨ j ≠ 2) → (tag b ≠ 46 ∨ j ≠ 22) → (tag b ≠ 46 ∨ j ≠ 23) → (tag b ≠ 46 ∨ j ≠ 28) → fld F1 b j = fld Fo b j) ∧ (∀ b j : Nat, tag b ≠ 37 → tag b ≠ 40 → tag b ≠ 41 → elm F1 b j = elm Fo b j))) := by
  refine t_bodyi (y := yX13_first) (cd := cX13_first) (mL := 3) (rt := (some .int)) (rm := { frames := 8, cells := 0, slots := 0, locals := 193 }) (av := [.ref p0, .int p1]) (by decide) (Nat.le_of_ble_eq_true rfl) ho ?_
  intro p e s m args below meth c ls A Q hQ X hT hl
  have hx := X.1.1
  have hb := X.1.2.1
  have hl : lv_has ls 3 [(0, .ref p0), (1, .int p1)] := hl
  have rp1 := rg_all p1
  obtain ⟨F, hFo⟩ : ∃ F : Nat → va_E, F = Fo := ⟨_, rfl⟩
  rw [← hFo] at hT pf0
  have hfr : (∀ b j : Nat, (tag b ≠ 46 ∨ j ≠ 0) → (tag b ≠ 46 ∨ j ≠ 1) → (tag b ≠ 46 ∨ j ≠ 2) → (tag b ≠ 46 ∨ j ≠ 22) → (tag b ≠ 46 ∨ j ≠ 23) → (tag b ≠ 46 ∨ j ≠ 28) → fld F b j = fld Fo b j) ∧ (∀ b j : Nat, tag b ≠ 37 → tag b ≠ 40 → tag b ≠ 41 → elm F b j = elm Fo b j) := by
    rw [hFo]
    exact ⟨by intros; rfl, by intros; rfl⟩
  refine lv_aload_n hx hb dX13_first_0 rfl (lv_at hl 0 rfl) ?_
  refine lv_iconst (v := 0) hx hb dX13_first_1 (by decide) ?_
  refine t_put (C := RX13) (T := TX13) (N := 37) (v := .int 0) X hT m0 g0 rfl tyX13 tyX13_ok nmX13 rfl 0 (by decide) qw_140 inlX13 rfl (by first | rfl | decide) (by first | rfl | decide) rfl (⟨_, rfl, (show (-2147483648) ≤ (0 : Int32).toInt from (by decide)), (show (0 : Int32).toInt ≤ 2147483647 from (by decide))⟩) dX13_first_2 (fun F H locs hT v61280 h1v61280 h2v61280 => ?_)
  have pf0 := (h1v61280 _ _ (Or.inr (by decide))).trans pf0
  have hfr : (∀ b j : Nat, (tag b ≠ 46 ∨ j ≠ 0) → (tag b ≠ 46 ∨ j ≠ 1) → (tag b ≠ 46 ∨ j ≠ 2) → (tag b ≠ 46 ∨ j ≠ 22) → (tag b ≠ 46 ∨ j ≠ 23) → (tag b ≠ 46 ∨ j ≠ 28) → fld F b j = fld Fo b j) ∧ (∀ b j : Nat, tag b ≠ 37 → tag b ≠ 40 → tag b ≠ 41 → elm F b j = elm Fo b j) := ⟨fun b j n46_0 n46_1 n46_2 n46_22 n46_23 n46_28 => (h1v61280 b j (fr_ne g0 n46_0)).trans (hfr.1 b j n46_0 n46_1 n46_2 n46_22 n46_23 n46_28), fun b j a37 a40 a41 => (h2v61280 b j).trans (hfr.2 b j a37 a40 a41)⟩
  refine lv_aload_n hx hb dX13_first_5 rfl (lv_at hl 0 rfl) ?_
  refine lv_iconst (v := 1) hx hb dX13_first_6 (by decide) ?_
  refine lv_iload_n hx hb dX13_first_7 rfl (lv_at hl 1 rfl) ?_
  refine lv_bipush (v := 30) hx hb dX13_first_8 (by decide) ?_
  refine t_cVi (n := 3) (C := RX13) (T := TX13) (N := 37) (As := [.int 1, .int p1, .int 30]) (rest := []) X hT (km189_X13_refusesIn l G tag L F hT.2.2.2 p0 1 p1 30 m0 g0 (by decide) pf0) m0 g0 rfl rfl qw_1144 qw_1145 qw_1146 qw_5 qw_1147 ⟨rfl, by decide +kernel, by decide +kernel, by decide +kernel⟩ ⟨Nat.le_of_ble_eq_true rfl, Nat.le_of_ble_eq_true rfl⟩ hl rfl rfl (Nat.le_of_ble_eq_true rfl) dX13_first_10 ⟨Nat.le_of_ble_eq_true rfl, Nat.le_of_ble_eq_true rfl⟩ (fun z61281 F9 H locs hT hz61281 => ?_)
  obtain ⟨fz61281, hz61281⟩ := hz61281
  rw [fz61281] at hT
  refine lv_istore_n (lv' := [(2, .int z61281), (0, .ref p0), (1, .int p1)]) hx hb dX13_first_13 rfl hl (by decide) rfl (fun ls hl => ?_)
  refine lv_iload_n hx hb dX13_first_14 rfl (lv_at hl 0 rfl) ?_
  refine lv_if_le (tgt := 24) hx hb dX13_first_15 (by decide) (fun c61282 => ?_) (fun c61282 => ?_)
  · have w61283 := cv_le (rfl : z61281.toInt = z61281.toInt) (by decide : (0 : Int32).toInt = 0) c61282
    exfalso
    omega
  · have w61284 := cv_nle (rfl : z61281.toInt = z61281.toInt) (by decide : (0 : Int32).toInt = 0) c61282
    refine lv_aload_n hx hb dX13_first_18 rfl (lv_at hl 1 rfl) ?_
    refine lv_iload_n hx hb dX13_first_19 rfl (lv_at hl 0 rfl) ?_
    refine t_cVi (n := 1) (C := RX13) (T := TX13) (N := 37) (As := [.int z61281]) (rest := []) X hT (km88_X13_refused l G tag L F hT.2.2.2 p0 z61281 m0 g0) m0 g0 rfl rfl qw_484 qw_485 qw_486 qw_5 qw_487 ⟨rfl, by decide +kernel, by decide +kernel, by decide +kernel⟩ ⟨Nat.le_of_ble_eq_true rfl, Nat.le_of_ble_eq_true rfl⟩ hl rfl rfl (Nat.le_of_ble_eq_true rfl) dX13_first_20 ⟨Nat.le_of_ble_eq_true rfl, Nat.le_of_ble_eq_true rfl⟩ (fun z61285 F H locs hT hz61285 => ?_)
    obtain ⟨hz61285, yz61285⟩ := hz61285
    have pf0 := (yz61285.1 _ 3 (Or.inr (by decide)) (Or.inr (by decide))).trans pf0
    have v61280 := (yz61285.1 _ 0 (Or.inr (by decide)) (Or.inr (by decide))).trans v61280
    have hfr : (∀ b j : Nat, (tag b ≠ 46 ∨ j ≠ 0) → (tag b ≠ 46 ∨ j ≠ 1) → (tag b ≠ 46 ∨ j ≠ 2) → (tag b ≠ 46 ∨ j ≠ 22) → (tag b ≠ 46 ∨ j ≠ 23) → (tag b ≠ 46 ∨ j ≠ 28) → fld F b j = fld Fo b j) ∧ (∀ b j : Nat, tag b ≠ 37 → tag b ≠ 40 → tag b ≠ 41 → elm F b j = elm Fo b j) := ⟨fun b j n46_0 n46_1 n46_2 n46_22 n46_23 n46_28 => (yz61285.1 b j n46_1 n46_2).trans (hfr.1 b j n46_0 n46_1 n46_2 n46_22 n46_23 n46_28), fun b j a37 a40 a41 => (yz61285.2 b j ).trans (hfr.2 b j a37 a40 a41)⟩
    exact t_iret hQ X hT (⟨rg_all _, hfr⟩) (Nat.le_of_ble_eq_true rfl) (Nat.le_of_ble_eq_true rfl) dX13_first_23
theorem kp_X13_first (l : Launch) (G : KG) (tag : Nat → Nat) (L : List Nat) (Fo : Nat → va_E) (ho : okT G ttC tag L Fo) (p0 : Nat) (p1 : Int32) (m0 : p0 ∈ L) (g0 : tag p0 = 46) : TMi l yX13_first cX13_first 3 (some .int) { frames := 8, cells := 0, slots := 0, locals := 193 } G ttC tag L Fo [.ref p0, .int p1] (fun r F1 => ((-2147483648) ≤ r.toInt ∧ r.toInt ≤ 2147483647) ∧ ((∀ b j : Nat, (tag b ≠ 46 ∨ j ≠ 0) → (tag b ≠ 46 ∨ j ≠ 1) → (tag b ≠ 46 ∨ j ≠ 2) → (tag b ≠ 46 ∨ j ≠ 22) → (tag b ≠ 46 ∨ j ≠ 23) → (tag b ≠ 46 ∨ j ≠ 28) → fld F1 b j = fld Fo b j) ∧ (∀ b j : Nat, tag b ≠ 37 → tag b ≠ 40 → tag b ≠ 41 → elm F1 b j = elm Fo b j))) := by
  rcases t_fldn ho m0 g0 rfl 3 rfl with h9 | ⟨b9, h9, m9, t9⟩
  · exact km206_X13_first l G tag L Fo ho p0 p1  m0 g0 h9 
  · exact km205_X13_first l G tag L Fo ho p0 p1 b9  m0 g0 m9 (tg_of t9) h9 
set_option maxHeartbeats 4000000 in
set_option maxRecDepth 100000 in
theorem km208_X13_firstAt (l : Launch) (G : KG) (tag : Nat → Nat) (L : List Nat) (Fo : Nat → va_E) (ho : okT G ttC tag L Fo) (p0 : Nat) (p1 : Int32) (p2 : Int32) (x0 : Nat) (m0 : p0 ∈ L) (g0 : tag p0 = 46) (mx0 : x0 ∈ L) (gx0 : tag x0 = 45) (pf0 : fld Fo p0 3 = .ref x0) : TMi l yX13_firstAt cX13_firstAt 4 (some .int) { frames := 8, cells := 0, slots := 0, locals := 193 } G ttC tag L Fo [.ref p0, .int p1, .int p2] (fun r F1 => ((-2147483648) ≤ r.toInt ∧ r.toInt ≤ 2147483647) ∧ ((∀ b j : Nat, (tag b ≠ 46 ∨ j ≠ 0) → (tag b ≠ 46 ∨ j ≠ 1) → (tag b ≠ 46 ∨ j ≠ 2) → (tag b ≠ 46 ∨ j ≠ 22) → (tag b ≠ 46 ∨ j ≠ 23) → (tag b ≠ 46 ∨ j ≠ 28) → fld F1 b j = fld Fo b j) ∧ (∀ b j : Nat, tag b ≠ 37 → tag b ≠ 40 → tag b ≠ 41 → elm F1 b j = elm Fo b j))) := by
  refine t_bodyi (y := yX13_firstAt) (cd := cX13_firstAt) (mL := 4) (rt := (some .int)) (rm := { frames := 8, cells := 0, slots := 0, locals := 193 }) (av := [.ref p0, .int p1, .int p2]) (by decide) (Nat.le_of_ble_eq_true rfl) ho ?_
  intro p e s m args below meth c ls A Q hQ X hT hl
  have hx := X.1.1
  have hb := X.1.2.1
  have hl : lv_has ls 4 [(0, .ref p0), (1, .int p1), (2, .int p2)] := hl
  have rp1 := rg_all p1
  have rp2 := rg_all p2
  obtain ⟨F, hFo⟩ : ∃ F : Nat → va_E, F = Fo := ⟨_, rfl⟩
  rw [← hFo] at hT pf0
  have hfr : (∀ b j : Nat, (tag b ≠ 46 ∨ j ≠ 0) → (tag b ≠ 46 ∨ j ≠ 1) → (tag b ≠ 46 ∨ j ≠ 2) → (tag b ≠ 46 ∨ j ≠ 22) → (tag b ≠ 46 ∨ j ≠ 23) → (tag b ≠ 46 ∨ j ≠ 28) → fld F b j = fld Fo b j) ∧ (∀ b j : Nat, tag b ≠ 37 → tag b ≠ 40 → tag b ≠ 41 → elm F b j = elm Fo b j) := by
    rw [hFo]
    exact ⟨by intros; rfl, by intros; rfl⟩
  refine lv_aload_n hx hb dX13_firstAt_0 rfl (lv_at hl 0 rfl) ?_
  refine lv_iconst (v := 0) hx hb dX13_firstAt_1 (by decide) ?_
  refine t_put (C := RX13) (T := TX13) (N := 37) (v := .int 0) X hT m0 g0 rfl tyX13 tyX13_ok nmX13 rfl 0 (by decide) qw_140 inlX13 rfl (by first | rfl | decide) (by first | rfl | decide) rfl (⟨_, rfl, (show (-2147483648) ≤ (0 : Int32).toInt from (by decide)), (show (0 : Int32).toInt ≤ 2147483647 from (by decide))⟩) dX13_firstAt_2 (fun F H locs hT v61583 h1v61583 h2v61583 => ?_)
  have pf0 := (h1v61583 _ _ (Or.inr (by decide))).trans pf0
  have hfr : (∀ b j : Nat, (tag b ≠ 46 ∨ j ≠ 0) → (tag b ≠ 46 ∨ j ≠ 1) → (tag b ≠ 46 ∨ j ≠ 2) → (tag b ≠ 46 ∨ j ≠ 22) → (tag b ≠ 46 ∨ j ≠ 23) → (tag b ≠ 46 ∨ j ≠ 28) → fld F b j = fld Fo b j) ∧ (∀ b j : Nat, tag b ≠ 37 → tag b ≠ 40 → tag b ≠ 41 → elm F b j = elm Fo b j) := ⟨fun b j n46_0 n46_1 n46_2 n46_22 n46_23 n46_28 => (h1v61583 b j (fr_ne g0 n46_0)).trans (hfr.1 b j n46_0 n46_1 n46_2 n46_22 n46_23 n46_28), fun b j a37 a40 a41 => (h2v61583 b j).trans (hfr.2 b j a37 a40 a41)⟩
  refine lv_aload_n hx hb dX13_firstAt_5 rfl (lv_at hl 0 rfl) ?_
  refine lv_aload_n hx hb dX13_firstAt_6 rfl (lv_at hl 0 rfl) ?_
  refine lv_iload_n hx hb dX13_firstAt_7 rfl (lv_at hl 2 rfl) ?_
  refine t_cVi (n := 1) (C := RX13) (T := TX13) (N := 37) (As := [.int p2]) (rest := [.ref p0]) X hT (km107_X13_isHouse l G tag L F hT.2.2.2 p0 p2 x0 m0 g0 mx0 gx0 pf0) m0 g0 rfl rfl qw_796 qw_797 qw_798 qw_5 qw_799 ⟨rfl, by decide +kernel, by decide +kernel, by decide +kernel⟩ ⟨Nat.le_of_ble_eq_true rfl, Nat.le_of_ble_eq_true rfl⟩ hl rfl rfl (Nat.le_of_ble_eq_true rfl) dX13_firstAt_8 ⟨Nat.le_of_ble_eq_true rfl, Nat.le_of_ble_eq_true rfl⟩ (fun z61584 F9 H locs hT hz61584 => ?_)
  obtain ⟨fz61584, hz61584⟩ := hz61584
  rw [fz61584] at hT
  obtain ⟨hz61584, iz61584⟩ := hz61584
  refine lv_iload_n hx hb dX13_firstAt_11 rfl (lv_at hl 1 rfl) ?_
  refine lv_bipush (v := 30) hx hb dX13_firstAt_12 (by decide) ?_
  rcases z01 (z := z61584) (by omega) with c61585 | c61585
  · have w61586 := cv_eq (rfl : z61584.toInt = z61584.toInt) (by decide : (0 : Int32).toInt = 0) c61585
    subst c61585
    refine t_cVi (n := 3) (C := RX13) (T := TX13) (N := 37) (As := [.int 0, .int p1, .int 30]) (rest := []) X hT (km174_X13_refusesIn l G tag L F hT.2.2.2 p0 0 p1 30 x0 m0 g0 (by decide) mx0 gx0 pf0) m0 g0 rfl rfl qw_1144 qw_1145 qw_1146 qw_5 qw_1147 ⟨rfl, by decide +kernel, by decide +kernel, by decide +kernel⟩ ⟨Nat.le_of_ble_eq_true rfl, Nat.le_of_ble_eq_true rfl⟩ hl rfl rfl (Nat.le_of_ble_eq_true rfl) dX13_firstAt_14 ⟨Nat.le_of_ble_eq_true rfl, Nat.le_of_ble_eq_true rfl⟩ (fun z61587 F9 H locs hT hz61587 => ?_)
    obtain ⟨fz61587, hz61587, xz61587_0⟩ := hz61587
    rw [fz61587] at hT
    have k61588 : (0 : Int32).toInt = 0 := by decide
    have k61589 : (30 : Int32).toInt = 30 := by decide
    refine lv_istore_n (lv' := [(3, .int z61587), (0, .ref p0), (1, .int p1), (2, .int p2)]) hx hb dX13_firstAt_17 rfl hl (by decide) rfl (fun ls hl => ?_)
    refine lv_iload_n hx hb dX13_firstAt_18 rfl (lv_at hl 0 rfl) ?_
    refine lv_if_le (tgt := 28) hx hb dX13_firstAt_19 (by decide) (fun c61590 => ?_) (fun c61590 => ?_)
    · have w61591 := cv_le (rfl : z61587.toInt = z61587.toInt) (by decide : (0 : Int32).toInt = 0) c61590
      exfalso
      omega
    · have w61592 := cv_nle (rfl : z61587.toInt = z61587.toInt) (by decide : (0 : Int32).toInt = 0) c61590
      refine lv_aload_n hx hb dX13_firstAt_22 rfl (lv_at hl 1 rfl) ?_
      refine lv_iload_n hx hb dX13_firstAt_23 rfl (lv_at hl 0 rfl) ?_
      refine t_cVi (n := 1) (C := RX13) (T := TX13) (N := 37) (As := [.int z61587]) (rest := []) X hT (km88_X13_refused l G tag L F hT.2.2.2 p0 z61587 m0 g0) m0 g0 rfl rfl qw_484 qw_485 qw_486 qw_5 qw_487 ⟨rfl, by decide +kernel, by decide +kernel, by decide +kernel⟩ ⟨Nat.le_of_ble_eq_true rfl, Nat.le_of_ble_eq_true rfl⟩ hl rfl rfl (Nat.le_of_ble_eq_true rfl) dX13_firstAt_24 ⟨Nat.le_of_ble_eq_true rfl, Nat.le_of_ble_eq_true rfl⟩ (fun z61593 F H locs hT hz61593 => ?_)
      obtain ⟨hz61593, yz61593⟩ := hz61593
      have pf0 := (yz61593.1 _ 3 (Or.inr (by decide)) (Or.inr (by decide))).trans pf0
      have v61583 := (yz61593.1 _ 0 (Or.inr (by decide)) (Or.inr (by decide))).trans v61583
      have hfr : (∀ b j : Nat, (tag b ≠ 46 ∨ j ≠ 0) → (tag b ≠ 46 ∨ j ≠ 1) → (tag b ≠ 46 ∨ j ≠ 2) → (tag b ≠ 46 ∨ j ≠ 22) → (tag b ≠ 46 ∨ j ≠ 23) → (tag b ≠ 46 ∨ j ≠ 28) → fld F b j = fld Fo b j) ∧ (∀ b j : Nat, tag b ≠ 37 → tag b ≠ 40 → tag b ≠ 41 → elm F b j = elm Fo b j) := ⟨fun b j n46_0 n46_1 n46_2 n46_22 n46_23 n46_28 => (yz61593.1 b j n46_1 n46_2).trans (hfr.1 b j n46_0 n46_1 n46_2 n46_22 n46_23 n46_28), fun b j a37 a40 a41 => (yz61593.2 b j ).trans (hfr.2 b j a37 a40 a41)⟩
      exact t_iret hQ X hT (⟨rg_all _, hfr⟩) (Nat.le_of_ble_eq_true rfl) (Nat.le_of_ble_eq_true rfl) dX13_firstAt_27
  · have w61594 := cv_eq (rfl : z61584.toInt = z61584.toInt) (by decide : (1 : Int32).toInt = 1) c61585
    have w61595 := (fun h => (iz61584 h)) (by omega)
    subst c61585
    refine t_cVi (n := 3) (C := RX13) (T := TX13) (N := 37) (As := [.int 1, .int p1, .int 30]) (rest := []) X hT (km175_X13_refusesIn l G tag L F hT.2.2.2 p0 1 p1 30 x0 m0 g0 (by decide) mx0 gx0 pf0) m0 g0 rfl rfl qw_1144 qw_1145 qw_1146 qw_5 qw_1147 ⟨rfl, by decide +kernel, by decide +kernel, by decide +kernel⟩ ⟨Nat.le_of_ble_eq_true rfl, Nat.le_of_ble_eq_true rfl⟩ hl rfl rfl (Nat.le_of_ble_eq_true rfl) dX13_firstAt_14 ⟨Nat.le_of_ble_eq_true rfl, Nat.le_of_ble_eq_true rfl⟩ (fun z61596 F9 H locs hT hz61596 => ?_)
    obtain ⟨fz61596, hz61596, xz61596_0⟩ := hz61596
    rw [fz61596] at hT
    have k61597 : (1 : Int32).toInt = 1 := by decide
    have k61598 : (30 : Int32).toInt = 30 := by decide
    refine lv_istore_n (lv' := [(3, .int z61596), (0, .ref p0), (1, .int p1), (2, .int p2)]) hx hb dX13_firstAt_17 rfl hl (by decide) rfl (fun ls hl => ?_)
    refine lv_iload_n hx hb dX13_firstAt_18 rfl (lv_at hl 0 rfl) ?_
    refine lv_if_le (tgt := 28) hx hb dX13_firstAt_19 (by decide) (fun c61599 => ?_) (fun c61599 => ?_)
    · have w61600 := cv_le (rfl : z61596.toInt = z61596.toInt) (by decide : (0 : Int32).toInt = 0) c61599
      have w61601 := xz61596_0 (by omega)
      refine lv_aload_n hx hb dX13_firstAt_28 rfl (lv_at hl 1 rfl) ?_
      refine lv_iload_n hx hb dX13_firstAt_29 rfl (lv_at hl 2 rfl) ?_
      obtain ⟨z61602, qz61602, mz61602, gz61602⟩ := t_fldr hT m0 g0 rfl 24 rfl
      have gz61602 : tag z61602 = 40 := tg_of gz61602
      refine t_cVv (n := 1) (C := RX13) (T := TX13) (N := 37) (As := [.int p1]) (rest := []) X hT (km204_X13_findsFirst l G tag L F hT.2.2.2 p0 p1 x0 z61602 m0 g0 (by omega) mx0 gx0 pf0 mz61602 gz61602 qz61602) m0 g0 rfl rfl qw_1258 qw_1259 qw_1260 qw_5 qw_1261 ⟨rfl, by decide +kernel, by decide +kernel, by decide +kernel⟩ ⟨Nat.le_of_ble_eq_true rfl, Nat.le_of_ble_eq_true rfl⟩ hl rfl rfl (Nat.le_of_ble_eq_true rfl) dX13_firstAt_30 ⟨Nat.le_of_ble_eq_true rfl, Nat.le_of_ble_eq_true rfl⟩ (fun F H locs hT hz61603 => ?_)
      have yz61603 := hz61603
      have pf0 := (yz61603.1 _ 3 (Or.inr (by decide)) (Or.inr (by decide)) (Or.inr (by decide))).trans pf0
      have v61583 := (yz61603.1 _ 0 (Or.inr (by decide)) (Or.inr (by decide)) (Or.inr (by decide))).trans v61583
      have qz61602 := (yz61603.1 _ 24 (Or.inr (by decide)) (Or.inr (by decide)) (Or.inr (by decide))).trans qz61602
      have hfr : (∀ b j : Nat, (tag b ≠ 46 ∨ j ≠ 0) → (tag b ≠ 46 ∨ j ≠ 1) → (tag b ≠ 46 ∨ j ≠ 2) → (tag b ≠ 46 ∨ j ≠ 22) → (tag b ≠ 46 ∨ j ≠ 23) → (tag b ≠ 46 ∨ j ≠ 28) → fld F b j = fld Fo b j) ∧ (∀ b j : Nat, tag b ≠ 37 → tag b ≠ 40 → tag b ≠ 41 → elm F b j = elm Fo b j) := ⟨fun b j n46_0 n46_1 n46_2 n46_22 n46_23 n46_28 => (yz61603.1 b j n46_22 n46_23 n46_28).trans (hfr.1 b j n46_0 n46_1 n46_2 n46_22 n46_23 n46_28), fun b j a37 a40 a41 => (yz61603.2 b j a37 a40 a41).trans (hfr.2 b j a37 a40 a41)⟩
      refine lv_aload_n hx hb dX13_firstAt_33 rfl (lv_at hl 1 rfl) ?_
      refine lv_aload_n hx hb dX13_firstAt_34 rfl (lv_at hl 1 rfl) ?_
      refine t_get (C := RX13) (T := TX13) (N := 37) X hT m0 g0 rfl rfl 25 (by decide) qw_117 inlX13 rfl dX13_firstAt_35 (fun v61604 hv61604 ov61604 => ?_)
      obtain ⟨b61605, rfl, mb61605, gb61605⟩ := okV_r ov61604
      have gb61605 : tag b61605 = 41 := tg_of gb61605
      refine lv_iload_n hx hb dX13_firstAt_38 rfl (lv_at hl 3 rfl) ?_
      refine t_ild X hT mb61605 gb61605 rfl (by omega) dX13_firstAt_39 (fun z61606 vz61606 rz61606 => ?_)
      have rz61606 : (-2147483648) ≤ z61606.toInt ∧ z61606.toInt ≤ 2147483647 := rz61606
      refine t_cVi (n := 1) (C := RX13) (T := TX13) (N := 37) (As := [.int z61606]) (rest := []) X hT (km93_X13_good l G tag L F hT.2.2.2 p0 z61606 m0 g0) m0 g0 rfl rfl qw_687 qw_688 qw_689 qw_5 qw_690 ⟨rfl, by decide +kernel, by decide +kernel, by decide +kernel⟩ ⟨Nat.le_of_ble_eq_true rfl, Nat.le_of_ble_eq_true rfl⟩ hl rfl rfl (Nat.le_of_ble_eq_true rfl) dX13_firstAt_40 ⟨Nat.le_of_ble_eq_true rfl, Nat.le_of_ble_eq_true rfl⟩ (fun z61607 F H locs hT hz61607 => ?_)
      obtain ⟨hz61607, yz61607⟩ := hz61607
      have pf0 := (yz61607.1 _ 3 (Or.inr (by decide)) (Or.inr (by decide))).trans pf0
      have v61583 := (yz61607.1 _ 0 (Or.inr (by decide)) (Or.inr (by decide))).trans v61583
      have qz61602 := (yz61607.1 _ 24 (Or.inr (by decide)) (Or.inr (by decide))).trans qz61602
      have hv61604 := (yz61607.1 _ 25 (Or.inr (by decide)) (Or.inr (by decide))).trans hv61604
      have vz61606 := (yz61607.2 _ _ ).trans vz61606
      have hfr : (∀ b j : Nat, (tag b ≠ 46 ∨ j ≠ 0) → (tag b ≠ 46 ∨ j ≠ 1) → (tag b ≠ 46 ∨ j ≠ 2) → (tag b ≠ 46 ∨ j ≠ 22) → (tag b ≠ 46 ∨ j ≠ 23) → (tag b ≠ 46 ∨ j ≠ 28) → fld F b j = fld Fo b j) ∧ (∀ b j : Nat, tag b ≠ 37 → tag b ≠ 40 → tag b ≠ 41 → elm F b j = elm Fo b j) := ⟨fun b j n46_0 n46_1 n46_2 n46_22 n46_23 n46_28 => (yz61607.1 b j n46_1 n46_2).trans (hfr.1 b j n46_0 n46_1 n46_2 n46_22 n46_23 n46_28), fun b j a37 a40 a41 => (yz61607.2 b j ).trans (hfr.2 b j a37 a40 a41)⟩
      exact t_iret hQ X hT (⟨rg_all _, hfr⟩) (Nat.le_of_ble_eq_true rfl) (Nat.le_of_ble_eq_true rfl) dX13_firstAt_43
    · have w61608 := cv_nle (rfl : z61596.toInt = z61596.toInt) (by decide : (0 : Int32).toInt = 0) c61599
      refine lv_aload_n hx hb dX13_firstAt_22 rfl (lv_at hl 1 rfl) ?_
      refine lv_iload_n hx hb dX13_firstAt_23 rfl (lv_at hl 0 rfl) ?_
      refine t_cVi (n := 1) (C := RX13) (T := TX13) (N := 37) (As := [.int z61596]) (rest := []) X hT (km88_X13_refused l G tag L F hT.2.2.2 p0 z61596 m0 g0) m0 g0 rfl rfl qw_484 qw_485 qw_486 qw_5 qw_487 ⟨rfl, by decide +kernel, by decide +kernel, by decide +kernel⟩ ⟨Nat.le_of_ble_eq_true rfl, Nat.le_of_ble_eq_true rfl⟩ hl rfl rfl (Nat.le_of_ble_eq_true rfl) dX13_firstAt_24 ⟨Nat.le_of_ble_eq_true rfl, Nat.le_of_ble_eq_true rfl⟩ (fun z61609 F H locs hT hz61609 => ?_)
      obtain ⟨hz61609, yz61609⟩ := hz61609
      have pf0 := (yz61609.1 _ 3 (Or.inr (by decide)) (Or.inr (by decide))).trans pf0
      have v61583 := (yz61609.1 _ 0 (Or.inr (by decide)) (Or.inr (by decide))).trans v61583
      have hfr : (∀ b j : Nat, (tag b ≠ 46 ∨ j ≠ 0) → (tag b ≠ 46 ∨ j ≠ 1) → (tag b ≠ 46 ∨ j ≠ 2) → (tag b ≠ 46 ∨ j ≠ 22) → (tag b ≠ 46 ∨ j ≠ 23) → (tag b ≠ 46 ∨ j ≠ 28) → fld F b j = fld Fo b j) ∧ (∀ b j : Nat, tag b ≠ 37 → tag b ≠ 40 → tag b ≠ 41 → elm F b j = elm Fo b j) := ⟨fun b j n46_0 n46_1 n46_2 n46_22 n46_23 n46_28 => (yz61609.1 b j n46_1 n46_2).trans (hfr.1 b j n46_0 n46_1 n46_2 n46_22 n46_23 n46_28), fun b j a37 a40 a41 => (yz61609.2 b j ).trans (hfr.2 b j a37 a40 a41)⟩
      exact t_iret hQ X hT (⟨rg_all _, hfr⟩) (Nat.le_of_ble_eq_true rfl) (Nat.le_of_ble_eq_true rfl) dX13_firstAt_27
set_option maxHeartbeats 4000000 in
set_option maxRecDepth 100000 in
theorem km209_X13_firstAt (l : Launch) (G : KG) (tag : Nat → Nat) (L : List Nat) (Fo : Nat → va_E) (ho : okT G ttC tag L Fo) (p0 : Nat) (p1 : Int32) (p2 : Int32) (m0 : p0 ∈ L) (g0 : tag p0 = 46) (pf0 : fld Fo p0 3 = .null) : TMi l yX13_firstAt cX13_firstAt 4 (some .int) { frames := 8, cells := 0, slots := 0, locals := 193 } G ttC tag L Fo [.ref p0, .int p1, .int p2] (fun r F1 => ((-2147483648) ≤ r.toInt ∧ r.toInt ≤ 2147483647) ∧ ((∀ b j : Nat, (tag b ≠ 46 ∨ j ≠ 0) → (tag b ≠ 46 ∨ j ≠ 1) → (tag b ≠ 46 ∨ j ≠ 2) → (tag b ≠ 46 ∨ j ≠ 22) → (tag b ≠ 46 ∨ j ≠ 23) → (tag b ≠ 46 ∨ j ≠ 28) → fld F1 b j = fld Fo b j) ∧ (∀ b j : Nat, tag b ≠ 37 → tag b ≠ 40 → tag b ≠ 41 → elm F1 b j = elm Fo b j))) := by
  refine t_bodyi (y := yX13_firstAt) (cd := cX13_firstAt) (mL := 4) (rt := (some .int)) (rm := { frames := 8, cells := 0, slots := 0, locals := 193 }) (av := [.ref p0, .int p1, .int p2]) (by decide) (Nat.le_of_ble_eq_true rfl) ho ?_
  intro p e s m args below meth c ls A Q hQ X hT hl
  have hx := X.1.1
  have hb := X.1.2.1
  have hl : lv_has ls 4 [(0, .ref p0), (1, .int p1), (2, .int p2)] := hl
  have rp1 := rg_all p1
  have rp2 := rg_all p2
  obtain ⟨F, hFo⟩ : ∃ F : Nat → va_E, F = Fo := ⟨_, rfl⟩
  rw [← hFo] at hT pf0
  have hfr : (∀ b j : Nat, (tag b ≠ 46 ∨ j ≠ 0) → (tag b ≠ 46 ∨ j ≠ 1) → (tag b ≠ 46 ∨ j ≠ 2) → (tag b ≠ 46 ∨ j ≠ 22) → (tag b ≠ 46 ∨ j ≠ 23) → (tag b ≠ 46 ∨ j ≠ 28) → fld F b j = fld Fo b j) ∧ (∀ b j : Nat, tag b ≠ 37 → tag b ≠ 40 → tag b ≠ 41 → elm F b j = elm Fo b j) := by
    rw [hFo]
    exact ⟨by intros; rfl, by intros; rfl⟩
  refine lv_aload_n hx hb dX13_firstAt_0 rfl (lv_at hl 0 rfl) ?_
  refine lv_iconst (v := 0) hx hb dX13_firstAt_1 (by decide) ?_
  refine t_put (C := RX13) (T := TX13) (N := 37) (v := .int 0) X hT m0 g0 rfl tyX13 tyX13_ok nmX13 rfl 0 (by decide) qw_140 inlX13 rfl (by first | rfl | decide) (by first | rfl | decide) rfl (⟨_, rfl, (show (-2147483648) ≤ (0 : Int32).toInt from (by decide)), (show (0 : Int32).toInt ≤ 2147483647 from (by decide))⟩) dX13_firstAt_2 (fun F H locs hT v61731 h1v61731 h2v61731 => ?_)
  have pf0 := (h1v61731 _ _ (Or.inr (by decide))).trans pf0
  have hfr : (∀ b j : Nat, (tag b ≠ 46 ∨ j ≠ 0) → (tag b ≠ 46 ∨ j ≠ 1) → (tag b ≠ 46 ∨ j ≠ 2) → (tag b ≠ 46 ∨ j ≠ 22) → (tag b ≠ 46 ∨ j ≠ 23) → (tag b ≠ 46 ∨ j ≠ 28) → fld F b j = fld Fo b j) ∧ (∀ b j : Nat, tag b ≠ 37 → tag b ≠ 40 → tag b ≠ 41 → elm F b j = elm Fo b j) := ⟨fun b j n46_0 n46_1 n46_2 n46_22 n46_23 n46_28 => (h1v61731 b j (fr_ne g0 n46_0)).trans (hfr.1 b j n46_0 n46_1 n46_2 n46_22 n46_23 n46_28), fun b j a37 a40 a41 => (h2v61731 b j).trans (hfr.2 b j a37 a40 a41)⟩
  refine lv_aload_n hx hb dX13_firstAt_5 rfl (lv_at hl 0 rfl) ?_
  refine lv_aload_n hx hb dX13_firstAt_6 rfl (lv_at hl 0 rfl) ?_
  refine lv_iload_n hx hb dX13_firstAt_7 rfl (lv_at hl 2 rfl) ?_
  refine t_cVi (n := 1) (C := RX13) (T := TX13) (N := 37) (As := [.int p2]) (rest := [.ref p0]) X hT (km116_X13_isHouse l G tag L F hT.2.2.2 p0 p2 m0 g0 pf0) m0 g0 rfl rfl qw_796 qw_797 qw_798 qw_5 qw_799 ⟨rfl, by decide +kernel, by decide +kernel, by decide +kernel⟩ ⟨Nat.le_of_ble_eq_true rfl, Nat.le_of_ble_eq_true rfl⟩ hl rfl rfl (Nat.le_of_ble_eq_true rfl) dX13_firstAt_8 ⟨Nat.le_of_ble_eq_true rfl, Nat.le_of_ble_eq_true rfl⟩ (fun z61732 F9 H locs hT hz61732 => ?_)
  obtain ⟨fz61732, hz61732⟩ := hz61732
  rw [fz61732] at hT
  refine lv_iload_n hx hb dX13_firstAt_11 rfl (lv_at hl 1 rfl) ?_
  refine lv_bipush (v := 30) hx hb dX13_firstAt_12 (by decide) ?_
  rcases z01 (z := z61732) (by omega) with c61733 | c61733
  · have w61734 := cv_eq (rfl : z61732.toInt = z61732.toInt) (by decide : (0 : Int32).toInt = 0) c61733
    subst c61733
    refine t_cVi (n := 3) (C := RX13) (T := TX13) (N := 37) (As := [.int 0, .int p1, .int 30]) (rest := []) X hT (km184_X13_refusesIn l G tag L F hT.2.2.2 p0 0 p1 30 m0 g0 (by decide) pf0) m0 g0 rfl rfl qw_1144 qw_1145 qw_1146 qw_5 qw_1147 ⟨rfl, by decide +kernel, by decide +kernel, by decide +kernel⟩ ⟨Nat.le_of_ble_eq_true rfl, Nat.le_of_ble_eq_true rfl⟩ hl rfl rfl (Nat.le_of_ble_eq_true rfl) dX13_firstAt_14 ⟨Nat.le_of_ble_eq_true rfl, Nat.le_of_ble_eq_true rfl⟩ (fun z61735 F9 H locs hT hz61735 => ?_)
    obtain ⟨fz61735, hz61735⟩ := hz61735
    rw [fz61735] at hT
    refine lv_istore_n (lv' := [(3, .int z61735), (0, .ref p0), (1, .int p1), (2, .int p2)]) hx hb dX13_firstAt_17 rfl hl (by decide) rfl (fun ls hl => ?_)
    refine lv_iload_n hx hb dX13_firstAt_18 rfl (lv_at hl 0 rfl) ?_
    refine lv_if_le (tgt := 28) hx hb dX13_firstAt_19 (by decide) (fun c61736 => ?_) (fun c61736 => ?_)
    · have w61737 := cv_le (rfl : z61735.toInt = z61735.toInt) (by decide : (0 : Int32).toInt = 0) c61736
      exfalso
      omega
    · have w61738 := cv_nle (rfl : z61735.toInt = z61735.toInt) (by decide : (0 : Int32).toInt = 0) c61736
      refine lv_aload_n hx hb dX13_firstAt_22 rfl (lv_at hl 1 rfl) ?_
      refine lv_iload_n hx hb dX13_firstAt_23 rfl (lv_at hl 0 rfl) ?_
      refine t_cVi (n := 1) (C := RX13) (T := TX13) (N := 37) (As := [.int z61735]) (rest := []) X hT (km88_X13_refused l G tag L F hT.2.2.2 p0 z61735 m0 g0) m0 g0 rfl rfl qw_484 qw_485 qw_486 qw_5 qw_487 ⟨rfl, by decide +kernel, by decide +kernel, by decide +kernel⟩ ⟨Nat.le_of_ble_eq_true rfl, Nat.le_of_ble_eq_true rfl⟩ hl rfl rfl (Nat.le_of_ble_eq_true rfl) dX13_firstAt_24 ⟨Nat.le_of_ble_eq_true rfl, Nat.le_of_ble_eq_true rfl⟩ (fun z61739 F H locs hT hz61739 => ?_)
      obtain ⟨hz61739, yz61739⟩ := hz61739
      have pf0 := (yz61739.1 _ 3 (Or.inr (by decide)) (Or.inr (by decide))).trans pf0
      have v61731 := (yz61739.1 _ 0 (Or.inr (by decide)) (Or.inr (by decide))).trans v61731
      have hfr : (∀ b j : Nat, (tag b ≠ 46 ∨ j ≠ 0) → (tag b ≠ 46 ∨ j ≠ 1) → (tag b ≠ 46 ∨ j ≠ 2) → (tag b ≠ 46 ∨ j ≠ 22) → (tag b ≠ 46 ∨ j ≠ 23) → (tag b ≠ 46 ∨ j ≠ 28) → fld F b j = fld Fo b j) ∧ (∀ b j : Nat, tag b ≠ 37 → tag b ≠ 40 → tag b ≠ 41 → elm F b j = elm Fo b j) := ⟨fun b j n46_0 n46_1 n46_2 n46_22 n46_23 n46_28 => (yz61739.1 b j n46_1 n46_2).trans (hfr.1 b j n46_0 n46_1 n46_2 n46_22 n46_23 n46_28), fun b j a37 a40 a41 => (yz61739.2 b j ).trans (hfr.2 b j a37 a40 a41)⟩
      exact t_iret hQ X hT (⟨rg_all _, hfr⟩) (Nat.le_of_ble_eq_true rfl) (Nat.le_of_ble_eq_true rfl) dX13_firstAt_27
  · have w61740 := cv_eq (rfl : z61732.toInt = z61732.toInt) (by decide : (1 : Int32).toInt = 1) c61733
    have k61741 : (1 : Int32).toInt = 1 := by decide
    exfalso
    omega
theorem kp_X13_firstAt (l : Launch) (G : KG) (tag : Nat → Nat) (L : List Nat) (Fo : Nat → va_E) (ho : okT G ttC tag L Fo) (p0 : Nat) (p1 : Int32) (p2 : Int32) (m0 : p0 ∈ L) (g0 : tag p0 = 46) : TMi l yX13_firstAt cX13_firstAt 4 (some .int) { frames := 8, cells := 0, slots := 0, locals := 193 } G ttC tag L Fo [.ref p0, .int p1, .int p2] (fun r F1 => ((-2147483648) ≤ r.toInt ∧ r.toInt ≤ 2147483647) ∧ ((∀ b j : Nat, (tag b ≠ 46 ∨ j ≠ 0) → (tag b ≠ 46 ∨ j ≠ 1) → (tag b ≠ 46 ∨ j ≠ 2) → (tag b ≠ 46 ∨ j ≠ 22) → (tag b ≠ 46 ∨ j ≠ 23) → (tag b ≠ 46 ∨ j ≠ 28) → fld F1 b j = fld Fo b j) ∧ (∀ b j : Nat, tag b ≠ 37 → tag b ≠ 40 → tag b ≠ 41 → elm F1 b j = elm Fo b j))) := by
  rcases t_fldn ho m0 g0 rfl 3 rfl with h9 | ⟨b9, h9, m9, t9⟩
  · exact km209_X13_firstAt l G tag L Fo ho p0 p1 p2  m0 g0 h9 
  · exact km208_X13_firstAt l G tag L Fo ho p0 p1 p2 b9  m0 g0 m9 (tg_of t9) h9 
set_option maxHeartbeats 4000000 in
set_option maxRecDepth 100000 in
theorem km211_X13_heads (l : Launch) (G : KG) (tag : Nat → Nat) (L : List Nat) (Fo : Nat → va_E) (ho : okT G ttC tag L Fo) (p0 : Nat) (p1 : Int32) (p2 : Int32) (x0 : Nat) (m0 : p0 ∈ L) (g0 : tag p0 = 46) (mx0 : x0 ∈ L) (gx0 : tag x0 = 45) (pf0 : fld Fo p0 3 = .ref x0) : TMi l yX13_heads cX13_heads 6 (some .int) { frames := 7, cells := 0, slots := 0, locals := 170 } G ttC tag L Fo [.ref p0, .int p1, .int p2] (fun r F1 => ((-2147483648) ≤ r.toInt ∧ r.toInt ≤ 2147483647) ∧ ((∀ b j : Nat, (tag b ≠ 46 ∨ j ≠ 0) → (tag b ≠ 46 ∨ j ≠ 1) → (tag b ≠ 46 ∨ j ≠ 2) → (tag b ≠ 46 ∨ j ≠ 22) → (tag b ≠ 46 ∨ j ≠ 23) → fld F1 b j = fld Fo b j) ∧ (∀ b j : Nat, tag b ≠ 37 → tag b ≠ 40 → elm F1 b j = elm Fo b j))) := by
  refine t_bodyi (y := yX13_heads) (cd := cX13_heads) (mL := 6) (rt := (some .int)) (rm := { frames := 7, cells := 0, slots := 0, locals := 170 }) (av := [.ref p0, .int p1, .int p2]) (by decide) (Nat.le_of_ble_eq_true rfl) ho ?_
  intro p e s m args below meth c ls A Q hQ X hT hl
  have hx := X.1.1
  have hb := X.1.2.1
  have hl : lv_has ls 6 [(0, .ref p0), (1, .int p1), (2, .int p2)] := hl
  have rp1 := rg_all p1
  have rp2 := rg_all p2
  obtain ⟨F, hFo⟩ : ∃ F : Nat → va_E, F = Fo := ⟨_, rfl⟩
  rw [← hFo] at hT pf0
  have hfr : (∀ b j : Nat, (tag b ≠ 46 ∨ j ≠ 0) → (tag b ≠ 46 ∨ j ≠ 1) → (tag b ≠ 46 ∨ j ≠ 2) → (tag b ≠ 46 ∨ j ≠ 22) → (tag b ≠ 46 ∨ j ≠ 23) → fld F b j = fld Fo b j) ∧ (∀ b j : Nat, tag b ≠ 37 → tag b ≠ 40 → elm F b j = elm Fo b j) := by
    rw [hFo]
    exact ⟨by intros; rfl, by intros; rfl⟩
  have K87 : ∀ (n : Nat) (z62644 : Int32) (z62645 : Int32) (z62646 : Int32) (z62647 : Int32) (F : Nat → va_E) (H : Heap) (locs : List Loc) (ls : Array Slot), (4 - z62646.toInt < (n : Int)) → (0 ≤ z62644.toInt ∧ z62644.toInt ≤ 0) → (0 ≤ z62646.toInt ∧ z62646.toInt ≤ 4) → (0 ≤ z62647.toInt ∧ z62647.toInt ≤ 0) → (0 ≤ p1.toInt ∧ p1.toInt ≤ 65536) → (0 ≤ p2.toInt ∧ p2.toInt ≤ 60) → TH G ttC A s tag L F H locs → ((∀ b j : Nat, (tag b ≠ 46 ∨ j ≠ 0) → (tag b ≠ 46 ∨ j ≠ 1) → (tag b ≠ 46 ∨ j ≠ 2) → (tag b ≠ 46 ∨ j ≠ 22) → (tag b ≠ 46 ∨ j ≠ 23) → fld F b j = fld Fo b j) ∧ (∀ b j : Nat, tag b ≠ 37 → tag b ≠ 40 → elm F b j = elm Fo b j)) → (fld F p0 3 = .ref x0) → (fld F p0 0 = .int z62647) → lv_has ls 6 [(0, .ref p0), (1, .int p1), (2, .int p2), (3, .int z62644), (4, .int z62645), (5, .int z62646)] → W p l e { frames := 7, cells := 0, slots := 0, locals := 170 } s m args below meth c H locs 0 0 Q (F0 m 87 ls []) := by
    intro n
    induction n with
    | zero =>
      intro z62644 z62645 z62646 z62647 F H locs ls hn rz62644 rz62646 rz62647 r9s62642 r9s62643 hT hfr pf0 qz62647 hl
      have rz62645 := rg_all z62645
      exfalso
      omega
    | succ n ih87 =>
      intro z62644 z62645 z62646 z62647 F H locs ls hn rz62644 rz62646 rz62647 r9s62642 r9s62643 hT hfr pf0 qz62647 hl
      have rz62645 := rg_all z62645
      refine lv_iload hx hb dX13_heads_87 (lv_at hl 5 rfl) ?_
      refine lv_aload_n hx hb dX13_heads_89 rfl (lv_at hl 0 rfl) ?_
      refine t_get (C := RX13) (T := TX13) (N := 37) X hT m0 g0 rfl rfl 3 (by decide) qw_481 inlX13 rfl dX13_heads_90 (fun v62648 hv62648 ov62648 => ?_)
      obtain rfl : v62648 = .ref x0 := hv62648.symm.trans pf0
      refine t_getN (C := RX12) (T := TX12) (N := 31) X hT mx0 gx0 rfl rfl 8 (by decide) (List.mem_of_getElem? (i := 12) rfl) inlX12 rfl dX13_heads_93 (fun v62649 hv62649 ov62649 => ?_)
      obtain ⟨z62650, rfl, rz62650⟩ := okV_i ov62649
      refine lv_icmp_ge (tgt := 119) hx hb dX13_heads_96 (by decide) (fun c62651 => ?_) (fun c62651 => ?_)
      · have w62652 := cv_le (rfl : z62650.toInt = z62650.toInt) (rfl : z62646.toInt = z62646.toInt) c62651
        refine lv_aload_n hx hb dX13_heads_119 rfl (lv_at hl 0 rfl) ?_
        refine lv_iload hx hb dX13_heads_120 (lv_at hl 4 rfl) ?_
        refine t_cVi (n := 1) (C := RX13) (T := TX13) (N := 37) (As := [.int z62645]) (rest := []) X hT (km93_X13_good l G tag L F hT.2.2.2 p0 z62645 m0 g0) m0 g0 rfl rfl qw_687 qw_688 qw_689 qw_5 qw_690 ⟨rfl, by decide +kernel, by decide +kernel, by decide +kernel⟩ ⟨Nat.le_of_ble_eq_true rfl, Nat.le_of_ble_eq_true rfl⟩ hl rfl rfl (Nat.le_of_ble_eq_true rfl) dX13_heads_122 ⟨Nat.le_of_ble_eq_true rfl, Nat.le_of_ble_eq_true rfl⟩ (fun z62653 F H locs hT hz62653 => ?_)
        obtain ⟨hz62653, yz62653⟩ := hz62653
        have qz62647 := (yz62653.1 _ 0 (Or.inr (by decide)) (Or.inr (by decide))).trans qz62647
        have pf0 := (yz62653.1 _ 3 (Or.inr (by decide)) (Or.inr (by decide))).trans pf0
        have hv62649 := (yz62653.1 _ 8 (Or.inr (by decide)) (Or.inr (by decide))).trans hv62649
        have hfr : (∀ b j : Nat, (tag b ≠ 46 ∨ j ≠ 0) → (tag b ≠ 46 ∨ j ≠ 1) → (tag b ≠ 46 ∨ j ≠ 2) → (tag b ≠ 46 ∨ j ≠ 22) → (tag b ≠ 46 ∨ j ≠ 23) → fld F b j = fld Fo b j) ∧ (∀ b j : Nat, tag b ≠ 37 → tag b ≠ 40 → elm F b j = elm Fo b j) := ⟨fun b j n46_0 n46_1 n46_2 n46_22 n46_23 => (yz62653.1 b j n46_1 n46_2).trans (hfr.1 b j n46_0 n46_1 n46_2 n46_22 n46_23), fun b j a37 a40 => (yz62653.2 b j ).trans (hfr.2 b j a37 a40)⟩
        exact t_iret hQ X hT (⟨rg_all _, hfr⟩) (Nat.le_of_ble_eq_true rfl) (Nat.le_of_ble_eq_true rfl) dX13_heads_125
      · have w62654 := cv_nle (rfl : z62650.toInt = z62650.toInt) (rfl : z62646.toInt = z62646.toInt) c62651
        refine lv_iload hx hb dX13_heads_99 (lv_at hl 4 rfl) ?_
        refine lv_aload_n hx hb dX13_heads_101 rfl (lv_at hl 0 rfl) ?_
        refine t_get (C := RX13) (T := TX13) (N := 37) X hT m0 g0 rfl rfl 17 (by decide) qw_113 inlX13 rfl dX13_heads_102 (fun v62655 hv62655 ov62655 => ?_)
        obtain ⟨b62656, rfl, mb62656, gb62656⟩ := okV_r ov62655
        have gb62656 : tag b62656 = 37 := tg_of gb62656
        refine lv_iconst (v := 4) hx hb dX13_heads_105 (by decide) ?_
        refine lv_iload hx hb dX13_heads_106 (lv_at hl 5 rfl) ?_
        refine lv_iadd hx hb dX13_heads_108 ?_
        refine lv_topi (fun z62657 ez62657 => ?_)
        have hz62657 : z62657.toInt = 4 + z62646.toInt := ar_add ez62657 (by decide : (4 : Int32).toInt = 4) (rfl : z62646.toInt = z62646.toInt) (by omega) (by omega)
        have rz62657 : 4 ≤ z62657.toInt ∧ z62657.toInt ≤ 7 := by omega
        refine t_ild X hT mb62656 gb62656 rfl (by omega) dX13_heads_109 (fun z62658 vz62658 rz62658 => ?_)
        have oz62658 := rz62658
        have rz62658 := rg_all z62658
        refine lv_iadd hx hb dX13_heads_110 ?_
        refine lv_topi (fun z62659 ez62659 => ?_)
        have rz62659 := rg_all z62659
        refine lv_istore (lv' := [(4, .int z62659), (0, .ref p0), (1, .int p1), (2, .int p2), (3, .int z62644), (5, .int z62646)]) hx hb dX13_heads_111 hl (by decide) rfl (fun ls hl => ?_)
        obtain ⟨z62660, ez62660⟩ : ∃ y : Int32, y = z62646 + 1 := ⟨_, rfl⟩
        have hz62660 : z62660.toInt = z62646.toInt + 1 := ar_add ez62660 rfl (by decide : (1 : Int32).toInt = 1) (by omega) (by omega)
        refine lv_iinc (v := z62660) (lv' := [(5, .int z62660), (4, .int z62659), (0, .ref p0), (1, .int p1), (2, .int p2), (3, .int z62644)]) hx hb dX13_heads_113 hl (k := 5) rfl (by rw [ez62660]; rfl) (by decide) rfl (fun ls hl => ?_)
        refine lv_goto (tgt := 87) hx hb dX13_heads_116 (by decide) ?_
        exact ih87 z62644 z62659 z62660 z62647 _ _ _ _ (by omega) (by omega) (by omega) (by omega) (by omega) (by omega) hT hfr pf0 qz62647 (lv_sub hl [2, 3, 4, 5, 1, 0] rfl)
  have K61 : ∀ (n : Nat) (z62663 : Int32) (z62664 : Int32) (z62665 : Int32) (F : Nat → va_E) (H : Heap) (locs : List Loc) (ls : Array Slot), (60 - z62664.toInt < (n : Int)) → (0 ≤ z62663.toInt ∧ z62663.toInt ≤ 0) → (0 ≤ z62664.toInt ∧ z62664.toInt ≤ 60) → (0 ≤ z62665.toInt ∧ z62665.toInt ≤ 0) → (0 ≤ p1.toInt ∧ p1.toInt ≤ 65536) → (0 ≤ p2.toInt ∧ p2.toInt ≤ 60) → TH G ttC A s tag L F H locs → ((∀ b j : Nat, (tag b ≠ 46 ∨ j ≠ 0) → (tag b ≠ 46 ∨ j ≠ 1) → (tag b ≠ 46 ∨ j ≠ 2) → (tag b ≠ 46 ∨ j ≠ 22) → (tag b ≠ 46 ∨ j ≠ 23) → fld F b j = fld Fo b j) ∧ (∀ b j : Nat, tag b ≠ 37 → tag b ≠ 40 → elm F b j = elm Fo b j)) → (fld F p0 3 = .ref x0) → (fld F p0 0 = .int z62665) → lv_has ls 6 [(0, .ref p0), (1, .int p1), (2, .int p2), (3, .int z62663), (4, .int z62664)] → W p l e { frames := 7, cells := 0, slots := 0, locals := 170 } s m args below meth c H locs 0 0 Q (F0 m 61 ls []) := by
    intro n
    induction n with
    | zero =>
      intro z62663 z62664 z62665 F H locs ls hn rz62663 rz62664 rz62665 r9s62661 r9s62662 hT hfr pf0 qz62665 hl
      exfalso
      omega
    | succ n ih61 =>
      intro z62663 z62664 z62665 F H locs ls hn rz62663 rz62664 rz62665 r9s62661 r9s62662 hT hfr pf0 qz62665 hl
      refine lv_iload hx hb dX13_heads_61 (lv_at hl 4 rfl) ?_
      refine lv_iload_n hx hb dX13_heads_63 rfl (lv_at hl 2 rfl) ?_
      refine lv_icmp_ge (tgt := 81) hx hb dX13_heads_64 (by decide) (fun c62666 => ?_) (fun c62666 => ?_)
      · have w62667 := cv_le (rfl : p2.toInt = p2.toInt) (rfl : z62664.toInt = z62664.toInt) c62666
        refine lv_iconst (v := 0) hx hb dX13_heads_81 (by decide) ?_
        refine lv_istore (lv' := [(4, .int 0), (0, .ref p0), (1, .int p1), (2, .int p2), (3, .int z62663)]) hx hb dX13_heads_82 hl (by decide) rfl (fun ls hl => ?_)
        refine lv_iconst (v := 0) hx hb dX13_heads_84 (by decide) ?_
        refine lv_istore (lv' := [(5, .int 0), (4, .int 0), (0, .ref p0), (1, .int p1), (2, .int p2), (3, .int z62663)]) hx hb dX13_heads_85 hl (by decide) rfl (fun ls hl => ?_)
        have k62668 : (0 : Int32).toInt = 0 := by decide
        have k62669 : (0 : Int32).toInt = 0 := by decide
        exact K87 5 z62663 0 0 z62665 _ _ _ _ (by omega) (by omega) (by decide) (by omega) (by omega) (by omega) hT hfr pf0 qz62665 (lv_sub hl [2, 3, 4, 5, 1, 0] rfl)
      · have w62670 := cv_nle (rfl : p2.toInt = p2.toInt) (rfl : z62664.toInt = z62664.toInt) c62666
        refine lv_aload_n hx hb dX13_heads_67 rfl (lv_at hl 0 rfl) ?_
        refine lv_aload_n hx hb dX13_heads_68 rfl (lv_at hl 0 rfl) ?_
        refine t_get (C := RX13) (T := TX13) (N := 37) X hT m0 g0 rfl rfl 17 (by decide) qw_113 inlX13 rfl dX13_heads_69 (fun v62671 hv62671 ov62671 => ?_)
        obtain ⟨b62672, rfl, mb62672, gb62672⟩ := okV_r ov62671
        have gb62672 : tag b62672 = 37 := tg_of gb62672
        refine t_cVv (n := 1) (C := RX13) (T := TX13) (N := 37) (As := [.ref b62672]) (rest := []) X hT (km181_X13_goesBy l G tag L F hT.2.2.2 p0 b62672 x0 m0 g0 mb62672 gb62672 mx0 gx0 pf0) m0 g0 rfl rfl qw_1160 qw_1161 qw_1162 qw_5 qw_1163 ⟨rfl, by decide +kernel, by decide +kernel, by decide +kernel⟩ ⟨Nat.le_of_ble_eq_true rfl, Nat.le_of_ble_eq_true rfl⟩ hl rfl rfl (Nat.le_of_ble_eq_true rfl) dX13_heads_72 ⟨Nat.le_of_ble_eq_true rfl, Nat.le_of_ble_eq_true rfl⟩ (fun F H locs hT hz62673 => ?_)
        have yz62673 := hz62673
        have qz62665 := (yz62673.1 _ 0 (Or.inr (by decide)) (Or.inr (by decide))).trans qz62665
        have pf0 := (yz62673.1 _ 3 (Or.inr (by decide)) (Or.inr (by decide))).trans pf0
        have hv62671 := (yz62673.1 _ 17 (Or.inr (by decide)) (Or.inr (by decide))).trans hv62671
        have hfr : (∀ b j : Nat, (tag b ≠ 46 ∨ j ≠ 0) → (tag b ≠ 46 ∨ j ≠ 1) → (tag b ≠ 46 ∨ j ≠ 2) → (tag b ≠ 46 ∨ j ≠ 22) → (tag b ≠ 46 ∨ j ≠ 23) → fld F b j = fld Fo b j) ∧ (∀ b j : Nat, tag b ≠ 37 → tag b ≠ 40 → elm F b j = elm Fo b j) := ⟨fun b j n46_0 n46_1 n46_2 n46_22 n46_23 => (yz62673.1 b j n46_22 n46_23).trans (hfr.1 b j n46_0 n46_1 n46_2 n46_22 n46_23), fun b j a37 a40 => (yz62673.2 b j a37).trans (hfr.2 b j a37 a40)⟩
        obtain ⟨z62674, ez62674⟩ : ∃ y : Int32, y = z62664 + 1 := ⟨_, rfl⟩
        have hz62674 : z62674.toInt = z62664.toInt + 1 := ar_add ez62674 rfl (by decide : (1 : Int32).toInt = 1) (by omega) (by omega)
        refine lv_iinc (v := z62674) (lv' := [(4, .int z62674), (0, .ref p0), (1, .int p1), (2, .int p2), (3, .int z62663)]) hx hb dX13_heads_75 hl (k := 4) rfl (by rw [ez62674]; rfl) (by decide) rfl (fun ls hl => ?_)
        refine lv_goto (tgt := 61) hx hb dX13_heads_78 (by decide) ?_
        exact ih61 z62663 z62674 z62665 _ _ _ _ (by omega) (by omega) (by omega) (by omega) (by omega) (by omega) hT hfr pf0 qz62665 (lv_sub hl [1, 2, 3, 4, 0] rfl)
  refine lv_aload_n hx hb dX13_heads_0 rfl (lv_at hl 0 rfl) ?_
  refine lv_iconst (v := 0) hx hb dX13_heads_1 (by decide) ?_
  refine t_put (C := RX13) (T := TX13) (N := 37) (v := .int 0) X hT m0 g0 rfl tyX13 tyX13_ok nmX13 rfl 0 (by decide) qw_140 inlX13 rfl (by first | rfl | decide) (by first | rfl | decide) rfl (⟨_, rfl, (show (-2147483648) ≤ (0 : Int32).toInt from (by decide)), (show (0 : Int32).toInt ≤ 2147483647 from (by decide))⟩) dX13_heads_2 (fun F H locs hT v62675 h1v62675 h2v62675 => ?_)
  have pf0 := (h1v62675 _ _ (Or.inr (by decide))).trans pf0
  have hfr : (∀ b j : Nat, (tag b ≠ 46 ∨ j ≠ 0) → (tag b ≠ 46 ∨ j ≠ 1) → (tag b ≠ 46 ∨ j ≠ 2) → (tag b ≠ 46 ∨ j ≠ 22) → (tag b ≠ 46 ∨ j ≠ 23) → fld F b j = fld Fo b j) ∧ (∀ b j : Nat, tag b ≠ 37 → tag b ≠ 40 → elm F b j = elm Fo b j) := ⟨fun b j n46_0 n46_1 n46_2 n46_22 n46_23 => (h1v62675 b j (fr_ne g0 n46_0)).trans (hfr.1 b j n46_0 n46_1 n46_2 n46_22 n46_23), fun b j a37 a40 => (h2v62675 b j).trans (hfr.2 b j a37 a40)⟩
  refine lv_aload_n hx hb dX13_heads_5 rfl (lv_at hl 0 rfl) ?_
  refine lv_iconst (v := 1) hx hb dX13_heads_6 (by decide) ?_
  refine lv_iload_n hx hb dX13_heads_7 rfl (lv_at hl 2 rfl) ?_
  refine lv_bipush (v := 60) hx hb dX13_heads_8 (by decide) ?_
  refine t_cVi (n := 3) (C := RX13) (T := TX13) (N := 37) (As := [.int 1, .int p2, .int 60]) (rest := []) X hT (km175_X13_refusesIn l G tag L F hT.2.2.2 p0 1 p2 60 x0 m0 g0 (by decide) mx0 gx0 pf0) m0 g0 rfl rfl qw_1144 qw_1145 qw_1146 qw_5 qw_1147 ⟨rfl, by decide +kernel, by decide +kernel, by decide +kernel⟩ ⟨Nat.le_of_ble_eq_true rfl, Nat.le_of_ble_eq_true rfl⟩ hl rfl rfl (Nat.le_of_ble_eq_true rfl) dX13_heads_10 ⟨Nat.le_of_ble_eq_true rfl, Nat.le_of_ble_eq_true rfl⟩ (fun z62676 F9 H locs hT hz62676 => ?_)
  obtain ⟨fz62676, hz62676, xz62676_0⟩ := hz62676
  rw [fz62676] at hT
  have k62677 : (1 : Int32).toInt = 1 := by decide
  have k62678 : (60 : Int32).toInt = 60 := by decide
  refine lv_istore_n (lv' := [(3, .int z62676), (0, .ref p0), (1, .int p1), (2, .int p2)]) hx hb dX13_heads_13 rfl hl (by decide) rfl (fun ls hl => ?_)
  refine lv_iload_n hx hb dX13_heads_14 rfl (lv_at hl 0 rfl) ?_
  refine lv_if_le (tgt := 24) hx hb dX13_heads_15 (by decide) (fun c62679 => ?_) (fun c62679 => ?_)
  · have w62680 := cv_le (rfl : z62676.toInt = z62676.toInt) (by decide : (0 : Int32).toInt = 0) c62679
    have w62681 := xz62676_0 (by omega)
    refine lv_iload_n hx hb dX13_heads_24 rfl (lv_at hl 2 rfl) ?_
    refine lv_iconst (v := 0) hx hb dX13_heads_25 (by decide) ?_
    refine m_ldcw X qw_1287 dX13_heads_26 ?_
    refine t_cSi (n := 3) (As := [.int p1, .int 0, .int 65536]) (rest := []) X hT (km19_X13_within l G tag L F hT.2.2.2 p1 0 65536 ) qw_568 qw_569 qw_5 qw_570 ⟨by decide +kernel, by decide +kernel, by decide +kernel⟩ ⟨Nat.le_of_ble_eq_true rfl, Nat.le_of_ble_eq_true rfl⟩ hl rfl rfl (Nat.le_of_ble_eq_true rfl) dX13_heads_29 ⟨Nat.le_of_ble_eq_true rfl, Nat.le_of_ble_eq_true rfl⟩ (fun z62682 F9 H locs hT hz62682 => ?_)
    obtain ⟨fz62682, hz62682, xz62682_0⟩ := hz62682
    rw [fz62682] at hT
    have k62683 : (0 : Int32).toInt = 0 := by decide
    have k62684 : (65536 : Int32).toInt = 65536 := by decide
    refine lv_if_ne (tgt := 41) hx hb dX13_heads_32 (by decide) (fun c62685 => ?_) (fun c62685 => ?_)
    · have w62686 := cv_ne (rfl : z62682.toInt = z62682.toInt) (by decide : (0 : Int32).toInt = 0) c62685
      have w62687 := xz62682_0 (by omega)
      refine lv_aload_n hx hb dX13_heads_41 rfl (lv_at hl 1 rfl) ?_
      refine t_cVv (n := 0) (C := RX13) (T := TX13) (N := 37) (As := []) (rest := []) X hT (km176_X13_copies l G tag L F hT.2.2.2 p0 m0 g0) m0 g0 rfl rfl qw_1152 qw_1153 qw_1154 qw_5 qw_1155 ⟨rfl, by decide +kernel, by decide +kernel, by decide +kernel⟩ ⟨Nat.le_of_ble_eq_true rfl, Nat.le_of_ble_eq_true rfl⟩ hl rfl rfl (Nat.le_of_ble_eq_true rfl) dX13_heads_42 ⟨Nat.le_of_ble_eq_true rfl, Nat.le_of_ble_eq_true rfl⟩ (fun F H locs hT hz62688 => ?_)
      have yz62688 := hz62688
      have pf0 := (yz62688.1 _ 3 ).trans pf0
      have v62675 := (yz62688.1 _ 0 ).trans v62675
      have hfr : (∀ b j : Nat, (tag b ≠ 46 ∨ j ≠ 0) → (tag b ≠ 46 ∨ j ≠ 1) → (tag b ≠ 46 ∨ j ≠ 2) → (tag b ≠ 46 ∨ j ≠ 22) → (tag b ≠ 46 ∨ j ≠ 23) → fld F b j = fld Fo b j) ∧ (∀ b j : Nat, tag b ≠ 37 → tag b ≠ 40 → elm F b j = elm Fo b j) := ⟨fun b j n46_0 n46_1 n46_2 n46_22 n46_23 => (yz62688.1 b j ).trans (hfr.1 b j n46_0 n46_1 n46_2 n46_22 n46_23), fun b j a37 a40 => (yz62688.2 b j a37).trans (hfr.2 b j a37 a40)⟩
      refine lv_aload_n hx hb dX13_heads_45 rfl (lv_at hl 1 rfl) ?_
      obtain ⟨z62689, qz62689, mz62689, gz62689⟩ := t_fldr hT m0 g0 rfl 24 rfl
      have gz62689 : tag z62689 = 40 := tg_of gz62689
      refine t_cVv (n := 0) (C := RX13) (T := TX13) (N := 37) (As := []) (rest := []) X hT (km177_X13_byNumbers l G tag L F hT.2.2.2 p0 z62689 m0 g0 mz62689 gz62689 qz62689) m0 g0 rfl rfl qw_1156 qw_1157 qw_1158 qw_5 qw_1159 ⟨rfl, by decide +kernel, by decide +kernel, by decide +kernel⟩ ⟨Nat.le_of_ble_eq_true rfl, Nat.le_of_ble_eq_true rfl⟩ hl rfl rfl (Nat.le_of_ble_eq_true rfl) dX13_heads_46 ⟨Nat.le_of_ble_eq_true rfl, Nat.le_of_ble_eq_true rfl⟩ (fun F H locs hT hz62690 => ?_)
      obtain ⟨yz62690, xz62690_0⟩ := hz62690
      have pf0 := (yz62690.1 _ 3 ).trans pf0
      have v62675 := (yz62690.1 _ 0 ).trans v62675
      have qz62689 := (yz62690.1 _ 24 ).trans qz62689
      have hfr : (∀ b j : Nat, (tag b ≠ 46 ∨ j ≠ 0) → (tag b ≠ 46 ∨ j ≠ 1) → (tag b ≠ 46 ∨ j ≠ 2) → (tag b ≠ 46 ∨ j ≠ 22) → (tag b ≠ 46 ∨ j ≠ 23) → fld F b j = fld Fo b j) ∧ (∀ b j : Nat, tag b ≠ 37 → tag b ≠ 40 → elm F b j = elm Fo b j) := ⟨fun b j n46_0 n46_1 n46_2 n46_22 n46_23 => (yz62690.1 b j ).trans (hfr.1 b j n46_0 n46_1 n46_2 n46_22 n46_23), fun b j a37 a40 => (yz62690.2 b j a40).trans (hfr.2 b j a37 a40)⟩
      refine lv_aload_n hx hb dX13_heads_49 rfl (lv_at hl 1 rfl) ?_
      refine t_get (C := RX13) (T := TX13) (N := 37) X hT m0 g0 rfl rfl 17 (by decide) qw_113 inlX13 rfl dX13_heads_50 (fun v62691 hv62691 ov62691 => ?_)
      obtain ⟨b62692, rfl, mb62692, gb62692⟩ := okV_r ov62691
      have gb62692 : tag b62692 = 37 := tg_of gb62692
      refine lv_sipush (v := 211) hx hb dX13_heads_53 (by decide) ?_
      refine lv_iload_n hx hb dX13_heads_56 rfl (lv_at hl 2 rfl) ?_
      refine t_ist X hT mb62692 gb62692 rfl (by decide) (row_fv (by decide) (Or.inr (Or.inl (by decide)))) dX13_heads_57 (fun F H locs hT v62693 h1v62693 h2v62693 => ?_)
      have pf0 := (h2v62693 _ _).trans pf0
      have v62675 := (h2v62693 _ _).trans v62675
      have qz62689 := (h2v62693 _ _).trans qz62689
      have hv62691 := (h2v62693 _ _).trans hv62691
      have hfr : (∀ b j : Nat, (tag b ≠ 46 ∨ j ≠ 0) → (tag b ≠ 46 ∨ j ≠ 1) → (tag b ≠ 46 ∨ j ≠ 2) → (tag b ≠ 46 ∨ j ≠ 22) → (tag b ≠ 46 ∨ j ≠ 23) → fld F b j = fld Fo b j) ∧ (∀ b j : Nat, tag b ≠ 37 → tag b ≠ 40 → elm F b j = elm Fo b j) := ⟨fun b j n46_0 n46_1 n46_2 n46_22 n46_23 => (h2v62693 b j).trans (hfr.1 b j n46_0 n46_1 n46_2 n46_22 n46_23), fun b j a37 a40 => (h1v62693 b j (Or.inl (at_ne gb62692 a37))).trans (hfr.2 b j a37 a40)⟩
      refine lv_iconst (v := 0) hx hb dX13_heads_58 (by decide) ?_
      refine lv_istore (lv' := [(4, .int 0), (3, .int z62676), (0, .ref p0), (1, .int p1), (2, .int p2)]) hx hb dX13_heads_59 hl (by decide) rfl (fun ls hl => ?_)
      have k62694 : (0 : Int32).toInt = 0 := by decide
      have k62695 : (0 : Int32).toInt = 0 := by decide
      exact K61 61 z62676 0 0 _ _ _ _ (by omega) (by omega) (by decide) (by decide) (by omega) (by omega) hT hfr pf0 v62675 (lv_sub hl [2, 3, 4, 1, 0] rfl)
    · have w62696 := cv_eq (rfl : z62682.toInt = z62682.toInt) (by decide : (0 : Int32).toInt = 0) c62685
      refine lv_aload_n hx hb dX13_heads_35 rfl (lv_at hl 1 rfl) ?_
      refine lv_iconst (v := 2) hx hb dX13_heads_36 (by decide) ?_
      refine t_cVi (n := 1) (C := RX13) (T := TX13) (N := 37) (As := [.int 2]) (rest := []) X hT (km88_X13_refused l G tag L F hT.2.2.2 p0 2 m0 g0) m0 g0 rfl rfl qw_484 qw_485 qw_486 qw_5 qw_487 ⟨rfl, by decide +kernel, by decide +kernel, by decide +kernel⟩ ⟨Nat.le_of_ble_eq_true rfl, Nat.le_of_ble_eq_true rfl⟩ hl rfl rfl (Nat.le_of_ble_eq_true rfl) dX13_heads_37 ⟨Nat.le_of_ble_eq_true rfl, Nat.le_of_ble_eq_true rfl⟩ (fun z62697 F H locs hT hz62697 => ?_)
      obtain ⟨hz62697, yz62697⟩ := hz62697
      have pf0 := (yz62697.1 _ 3 (Or.inr (by decide)) (Or.inr (by decide))).trans pf0
      have v62675 := (yz62697.1 _ 0 (Or.inr (by decide)) (Or.inr (by decide))).trans v62675
      have hfr : (∀ b j : Nat, (tag b ≠ 46 ∨ j ≠ 0) → (tag b ≠ 46 ∨ j ≠ 1) → (tag b ≠ 46 ∨ j ≠ 2) → (tag b ≠ 46 ∨ j ≠ 22) → (tag b ≠ 46 ∨ j ≠ 23) → fld F b j = fld Fo b j) ∧ (∀ b j : Nat, tag b ≠ 37 → tag b ≠ 40 → elm F b j = elm Fo b j) := ⟨fun b j n46_0 n46_1 n46_2 n46_22 n46_23 => (yz62697.1 b j n46_1 n46_2).trans (hfr.1 b j n46_0 n46_1 n46_2 n46_22 n46_23), fun b j a37 a40 => (yz62697.2 b j ).trans (hfr.2 b j a37 a40)⟩
      exact t_iret hQ X hT (⟨rg_all _, hfr⟩) (Nat.le_of_ble_eq_true rfl) (Nat.le_of_ble_eq_true rfl) dX13_heads_40
  · have w62698 := cv_nle (rfl : z62676.toInt = z62676.toInt) (by decide : (0 : Int32).toInt = 0) c62679
    refine lv_aload_n hx hb dX13_heads_18 rfl (lv_at hl 1 rfl) ?_
    refine lv_iload_n hx hb dX13_heads_19 rfl (lv_at hl 0 rfl) ?_
    refine t_cVi (n := 1) (C := RX13) (T := TX13) (N := 37) (As := [.int z62676]) (rest := []) X hT (km88_X13_refused l G tag L F hT.2.2.2 p0 z62676 m0 g0) m0 g0 rfl rfl qw_484 qw_485 qw_486 qw_5 qw_487 ⟨rfl, by decide +kernel, by decide +kernel, by decide +kernel⟩ ⟨Nat.le_of_ble_eq_true rfl, Nat.le_of_ble_eq_true rfl⟩ hl rfl rfl (Nat.le_of_ble_eq_true rfl) dX13_heads_20 ⟨Nat.le_of_ble_eq_true rfl, Nat.le_of_ble_eq_true rfl⟩ (fun z62699 F H locs hT hz62699 => ?_)
    obtain ⟨hz62699, yz62699⟩ := hz62699
    have pf0 := (yz62699.1 _ 3 (Or.inr (by decide)) (Or.inr (by decide))).trans pf0
    have v62675 := (yz62699.1 _ 0 (Or.inr (by decide)) (Or.inr (by decide))).trans v62675
    have hfr : (∀ b j : Nat, (tag b ≠ 46 ∨ j ≠ 0) → (tag b ≠ 46 ∨ j ≠ 1) → (tag b ≠ 46 ∨ j ≠ 2) → (tag b ≠ 46 ∨ j ≠ 22) → (tag b ≠ 46 ∨ j ≠ 23) → fld F b j = fld Fo b j) ∧ (∀ b j : Nat, tag b ≠ 37 → tag b ≠ 40 → elm F b j = elm Fo b j) := ⟨fun b j n46_0 n46_1 n46_2 n46_22 n46_23 => (yz62699.1 b j n46_1 n46_2).trans (hfr.1 b j n46_0 n46_1 n46_2 n46_22 n46_23), fun b j a37 a40 => (yz62699.2 b j ).trans (hfr.2 b j a37 a40)⟩
    exact t_iret hQ X hT (⟨rg_all _, hfr⟩) (Nat.le_of_ble_eq_true rfl) (Nat.le_of_ble_eq_true rfl) dX13_heads_23
