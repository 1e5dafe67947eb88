set_option maxHeartbeats 4000000 in
set_option maxRecDepth 100000 in
theorem kt232_X9_noteRow (l : Launch) (G : KG) (tag : Nat → Nat) (L : List Nat) (Fo : Nat → va_E) (ho : okT G ttC tag L Fo) (p0 : Nat) (p1 : Nat) (p2 : Int32) (m0 : p0 ∈ L) (g0 : tag p0 = 22) (m1 : p1 ∈ L) (g1 : tag p1 = 18) : TMv l yX9_noteRow cX9_noteRow 7 { frames := 2, cells := 0, slots := 0, locals := 36 } G ttC tag L Fo [.ref p0, .ref p1, .int p2] (fun F1 => ∀ b j : Nat, fld F1 b j = fld Fo b j) := by
  refine t_bodyv (y := yX9_noteRow) (cd := cX9_noteRow) (mL := 7) (rm := { frames := 2, cells := 0, slots := 0, locals := 36 }) (av := [.ref p0, .ref p1, .int p2]) (by decide) (Nat.le_of_ble_eq_true rfl) ho ?_
  intro p e s m args below meth c ls A Q hQ X hT hl
  have hx := X.1.1
  have hb := X.1.2.1
  have hl : lv_has ls 7 [(0, .ref p0), (1, .ref p1), (2, .int p2)] := hl
  have rp2 := rg_all p2
  obtain ⟨F, hFo⟩ : ∃ F : Nat → va_E, F = Fo := ⟨_, rfl⟩
  rw [← hFo] at hT
  have hfr : ∀ b j : Nat, fld F b j = fld Fo b j := by
    rw [hFo]
    intros
    rfl
  have K82 : ∀ (n : Nat) (z85484 : Int32) (z85485 : Int32) (z85486 : Int32) (z85487 : Int32) (F : Nat → va_E) (H : Heap) (locs : List Loc) (ls : Array Slot), (z85486.toInt - (-1) < (n : Int)) → ((-1) ≤ z85486.toInt ∧ z85486.toInt ≤ 5) → (0 ≤ z85487.toInt ∧ z85487.toInt ≤ 6) → TH G ttC A s tag L F H locs → (∀ b j : Nat, fld F b j = fld Fo b j) → fld F p1 16 = .int z85487 → lv_has ls 7 [(0, .ref p0), (1, .ref p1), (2, .int p2), (3, .int z85484), (4, .int z85485), (5, .int z85486)] → W p l e { frames := 2, cells := 0, slots := 0, locals := 36 } s m args below meth c H locs 0 0 Q (F0 m 82 ls []) := by
    intro n
    induction n with
    | zero =>
      intro z85484 z85485 z85486 z85487 F H locs ls hn rz85486 rz85487 hT hfr qz85487 hl
      have rz85484 := rg_all z85484
      have rz85485 := rg_all z85485
      exfalso
      omega
    | succ n ih82 =>
      intro z85484 z85485 z85486 z85487 F H locs ls hn rz85486 rz85487 hT hfr qz85487 hl
      have rz85484 := rg_all z85484
      have rz85485 := rg_all z85485
      refine lv_iload hx hb dX9_noteRow_82 (lv_at hl 5 rfl) ?_
      refine lv_if_lt (tgt := 137) hx hb dX9_noteRow_84 (by decide) (fun c85488 => ?_) (fun c85488 => ?_)
      · have w85489 := cv_lt (rfl : z85486.toInt = z85486.toInt) (by decide : (0 : Int32).toInt = 0) c85488
        exact t_vret hQ X hT hfr (Nat.le_of_ble_eq_true rfl) (Nat.le_of_ble_eq_true rfl) dX9_noteRow_137
      · have w85490 := cv_nlt (rfl : z85486.toInt = z85486.toInt) (by decide : (0 : Int32).toInt = 0) c85488
        refine lv_aload_n hx hb dX9_noteRow_87 rfl (lv_at hl 0 rfl) ?_
        refine t_get (C := RX9) (T := TX9) (N := 6) X hT m0 g0 rfl rfl 0 (by decide) qw_93 inlX9 rfl dX9_noteRow_88 (fun v85491 hv85491 ov85491 => ?_)
        obtain ⟨b85492, rfl, mb85492, gb85492⟩ := okV_r ov85491
        have gb85492 : tag b85492 = 11 := tg_of gb85492
        refine lv_iload hx hb dX9_noteRow_91 (lv_at hl 5 rfl) ?_
        refine t_ild X hT mb85492 gb85492 rfl (by omega) dX9_noteRow_93 (fun z85493 vz85493 rz85493 => ?_)
        have rz85493 : 0 ≤ z85493.toInt ∧ z85493.toInt ≤ 5 := rz85493
        refine lv_istore (lv' := [(6, .int z85493), (0, .ref p0), (1, .ref p1), (2, .int p2), (3, .int z85484), (4, .int z85485), (5, .int z85486)]) hx hb dX9_noteRow_94 hl (by decide) rfl (fun ls hl => ?_)
        refine lv_iload hx hb dX9_noteRow_96 (lv_at hl 5 rfl) ?_
        refine lv_iconst (v := 1) hx hb dX9_noteRow_98 (by decide) ?_
        refine lv_isub hx hb dX9_noteRow_99 ?_
        refine lv_topi (fun z85494 ez85494 => ?_)
        have rz85494 := rg_all z85494
        refine lv_aload_n hx hb dX9_noteRow_100 rfl (lv_at hl 2 rfl) ?_
        refine lv_iload_n hx hb dX9_noteRow_101 rfl (lv_at hl 3 rfl) ?_
        refine lv_iload hx hb dX9_noteRow_102 (lv_at hl 0 rfl) ?_
        refine t_cSi (n := 3) (As := [.ref p1, .int p2, .int z85493]) (rest := [.int z85494]) X hT (kt147_X9_lastFor l G tag L F hT.2.2.2 p1 p2 z85493 m1 g1 (by omega)) qw_1347 qw_1348 qw_40 qw_1349 ⟨by decide +kernel, by decide +kernel, by decide +kernel⟩ ⟨Nat.le_of_ble_eq_true rfl, Nat.le_of_ble_eq_true rfl⟩ hl rfl rfl (Nat.le_of_ble_eq_true rfl) dX9_noteRow_104 ⟨Nat.le_of_ble_eq_true rfl, Nat.le_of_ble_eq_true rfl⟩ (fun z85495 F9 H locs hT hz85495 => ?_)
        obtain ⟨fz85495, hz85495⟩ := hz85495
        rw [fz85495] at hT
        refine t_mmin X hl qw_1351 qw_1018 qw_850 qw_1019 (Nat.le_of_ble_eq_true rfl) (Nat.le_of_ble_eq_true rfl) (Nat.le_of_ble_eq_true rfl) (Nat.le_of_ble_eq_true rfl) dX9_noteRow_107 (fun z85496 ez85496 => ?_)
        have hz85496 := mmin_e ez85496 (rfl : z85494.toInt = z85494.toInt) (rfl : z85495.toInt = z85495.toInt)
        refine lv_istore (lv' := [(4, .int z85496), (6, .int z85493), (0, .ref p0), (1, .ref p1), (2, .int p2), (3, .int z85484), (5, .int z85486)]) hx hb dX9_noteRow_110 hl (by decide) rfl (fun ls hl => ?_)
        refine lv_aload_n hx hb dX9_noteRow_112 rfl (lv_at hl 2 rfl) ?_
        refine t_get (C := RX9) (T := TX9) (N := 6) X hT m0 g0 rfl rfl 4 (by decide) qw_96 inlX9 rfl dX9_noteRow_113 (fun v85497 hv85497 ov85497 => ?_)
        obtain ⟨b85498, rfl, mb85498, gb85498⟩ := okV_r ov85497
        have gb85498 : tag b85498 = 7 := tg_of gb85498
        refine lv_iload hx hb dX9_noteRow_116 (lv_at hl 1 rfl) ?_
        refine lv_aload_n hx hb dX9_noteRow_118 rfl (lv_at hl 2 rfl) ?_
        refine t_get (C := RX9) (T := TX9) (N := 6) X hT m0 g0 rfl rfl 4 (by decide) qw_96 inlX9 rfl dX9_noteRow_119 (fun v85499 hv85499 ov85499 => ?_)
        obtain rfl : v85499 = .ref b85498 := hv85499.symm.trans hv85497
        refine lv_iload hx hb dX9_noteRow_122 (lv_at hl 1 rfl) ?_
        refine t_ild X hT mb85498 gb85498 rfl (by omega) dX9_noteRow_124 (fun z85500 vz85500 rz85500 => ?_)
        have rz85500 : (-2147483648) ≤ z85500.toInt ∧ z85500.toInt ≤ 2147483647 := rz85500
        refine lv_iload hx hb dX9_noteRow_125 (lv_at hl 0 rfl) ?_
        refine t_mmax X hl qw_1346 qw_849 qw_850 qw_851 (Nat.le_of_ble_eq_true rfl) (Nat.le_of_ble_eq_true rfl) (Nat.le_of_ble_eq_true rfl) (Nat.le_of_ble_eq_true rfl) dX9_noteRow_127 (fun z85501 ez85501 => ?_)
        have hz85501 := mmax_e ez85501 (rfl : z85500.toInt = z85500.toInt) (rfl : z85496.toInt = z85496.toInt)
        refine t_ist X hT mb85498 gb85498 rfl (by omega) (show (-2147483648) ≤ (z85501 : Int32).toInt ∧ (z85501 : Int32).toInt ≤ 2147483647 from (by omega)) dX9_noteRow_130 (fun F H locs hT v85502 h1v85502 h2v85502 => ?_)
        have qz85487 := (h2v85502 _ _).trans qz85487
        have hv85491 := (h2v85502 _ _).trans hv85491
        have hv85497 := (h2v85502 _ _).trans hv85497
        have hfr : ∀ b j : Nat, fld F b j = fld Fo b j := fun b j  => (h2v85502 b j).trans (hfr b j )
        obtain ⟨z85503, ez85503⟩ : ∃ y : Int32, y = z85486 + (-1) := ⟨_, rfl⟩
        have hz85503 : z85503.toInt = z85486.toInt + (-1) := ar_add ez85503 rfl (by decide : ((-1) : Int32).toInt = (-1)) (by omega) (by omega)
        refine lv_iinc (v := z85503) (lv' := [(5, .int z85503), (4, .int z85496), (6, .int z85493), (0, .ref p0), (1, .ref p1), (2, .int p2), (3, .int z85484)]) hx hb dX9_noteRow_131 hl (k := 6) rfl (by rw [ez85503]; rfl) (by decide) rfl (fun ls hl => ?_)
        refine lv_goto (tgt := 82) hx hb dX9_noteRow_134 (by decide) ?_
        exact ih82 z85484 z85496 z85503 z85487 _ _ _ _ (by omega) (by omega) (by omega) hT hfr qz85487 (lv_sub hl [3, 4, 5, 6, 1, 0] rfl)
  have K5 : ∀ (n : Nat) (z85504 : Int32) (z85505 : Int32) (F : Nat → va_E) (H : Heap) (locs : List Loc) (ls : Array Slot), (6 - z85505.toInt < (n : Int)) → (0 ≤ z85505.toInt ∧ z85505.toInt ≤ 6) → TH G ttC A s tag L F H locs → (∀ b j : Nat, fld F b j = fld Fo b j) → lv_has ls 7 [(0, .ref p0), (1, .ref p1), (2, .int p2), (3, .int z85504), (4, .int z85505)] → W p l e { frames := 2, cells := 0, slots := 0, locals := 36 } s m args below meth c H locs 0 0 Q (F0 m 5 ls []) := by
    intro n
    induction n with
    | zero =>
      intro z85504 z85505 F H locs ls hn rz85505 hT hfr hl
      have rz85504 := rg_all z85504
      exfalso
      omega
    | succ n ih5 =>
      intro z85504 z85505 F H locs ls hn rz85505 hT hfr hl
      have rz85504 := rg_all z85504
      refine lv_iload hx hb dX9_noteRow_5 (lv_at hl 4 rfl) ?_
      refine lv_aload_n hx hb dX9_noteRow_7 rfl (lv_at hl 1 rfl) ?_
      refine t_get (C := RX1) (T := TX1) (N := 20) X hT m1 g1 rfl rfl 16 (by decide) qw_1338 inlX1 rfl dX9_noteRow_8 (fun v85506 hv85506 ov85506 => ?_)
      obtain ⟨z85507, rfl, rz85507⟩ := okV_i ov85506
      refine lv_icmp_ge (tgt := 71) hx hb dX9_noteRow_11 (by decide) (fun c85508 => ?_) (fun c85508 => ?_)
      · have w85509 := cv_le (rfl : z85507.toInt = z85507.toInt) (rfl : z85505.toInt = z85505.toInt) c85508
        refine lv_iload_n hx hb dX9_noteRow_71 rfl (lv_at hl 2 rfl) ?_
        refine lv_istore (lv' := [(4, .int p2), (0, .ref p0), (1, .ref p1), (2, .int p2), (3, .int z85504)]) hx hb dX9_noteRow_72 hl (by decide) rfl (fun ls hl => ?_)
        refine lv_aload_n hx hb dX9_noteRow_74 rfl (lv_at hl 2 rfl) ?_
        refine t_get (C := RX1) (T := TX1) (N := 20) X hT m1 g1 rfl rfl 16 (by decide) qw_1338 inlX1 rfl dX9_noteRow_75 (fun v85510 hv85510 ov85510 => ?_)
        obtain rfl : v85510 = .int z85507 := hv85510.symm.trans hv85506
        refine lv_iconst (v := 1) hx hb dX9_noteRow_78 (by decide) ?_
        refine lv_isub hx hb dX9_noteRow_79 ?_
        refine lv_topi (fun z85511 ez85511 => ?_)
        have hz85511 : z85511.toInt = z85507.toInt - 1 := ar_sub ez85511 (rfl : z85507.toInt = z85507.toInt) (by decide : (1 : Int32).toInt = 1) (by omega) (by omega)
        have rz85511 : (-1) ≤ z85511.toInt ∧ z85511.toInt ≤ 5 := by omega
        refine lv_istore (lv' := [(5, .int z85511), (4, .int p2), (0, .ref p0), (1, .ref p1), (2, .int p2), (3, .int z85504)]) hx hb dX9_noteRow_80 hl (by decide) rfl (fun ls hl => ?_)
        exact K82 7 z85504 p2 z85511 z85507 _ _ _ _ (by omega) (by omega) (by omega) hT hfr hv85506 (lv_sub hl [2, 3, 4, 5, 1, 0] rfl)
      · have w85512 := cv_nle (rfl : z85507.toInt = z85507.toInt) (rfl : z85505.toInt = z85505.toInt) c85508
        refine lv_aload_n hx hb dX9_noteRow_14 rfl (lv_at hl 0 rfl) ?_
        refine t_get (C := RX9) (T := TX9) (N := 6) X hT m0 g0 rfl rfl 0 (by decide) qw_93 inlX9 rfl dX9_noteRow_15 (fun v85513 hv85513 ov85513 => ?_)
        obtain ⟨b85514, rfl, mb85514, gb85514⟩ := okV_r ov85513
        have gb85514 : tag b85514 = 11 := tg_of gb85514
        refine lv_iload hx hb dX9_noteRow_18 (lv_at hl 4 rfl) ?_
        refine t_ild X hT mb85514 gb85514 rfl (by omega) dX9_noteRow_20 (fun z85515 vz85515 rz85515 => ?_)
        have rz85515 : 0 ≤ z85515.toInt ∧ z85515.toInt ≤ 5 := rz85515
        refine lv_istore (lv' := [(5, .int z85515), (0, .ref p0), (1, .ref p1), (2, .int p2), (3, .int z85504), (4, .int z85505)]) hx hb dX9_noteRow_21 hl (by decide) rfl (fun ls hl => ?_)
        refine lv_aload_n hx hb dX9_noteRow_23 rfl (lv_at hl 1 rfl) ?_
        refine t_get (C := RX9) (T := TX9) (N := 6) X hT m0 g0 rfl rfl 3 (by decide) qw_95 inlX9 rfl dX9_noteRow_24 (fun v85516 hv85516 ov85516 => ?_)
        obtain ⟨b85517, rfl, mb85517, gb85517⟩ := okV_r ov85516
        have gb85517 : tag b85517 = 7 := tg_of gb85517
        refine lv_iload hx hb dX9_noteRow_27 (lv_at hl 0 rfl) ?_
        refine lv_aload_n hx hb dX9_noteRow_29 rfl (lv_at hl 1 rfl) ?_
        refine t_get (C := RX9) (T := TX9) (N := 6) X hT m0 g0 rfl rfl 3 (by decide) qw_95 inlX9 rfl dX9_noteRow_30 (fun v85518 hv85518 ov85518 => ?_)
        obtain rfl : v85518 = .ref b85517 := hv85518.symm.trans hv85516
        refine lv_iload hx hb dX9_noteRow_33 (lv_at hl 0 rfl) ?_
        refine t_ild X hT mb85517 gb85517 rfl (by omega) dX9_noteRow_35 (fun z85519 vz85519 rz85519 => ?_)
        have rz85519 : (-2147483648) ≤ z85519.toInt ∧ z85519.toInt ≤ 2147483647 := rz85519
        refine lv_aload_n hx hb dX9_noteRow_36 rfl (lv_at hl 1 rfl) ?_
        refine t_get (C := RX9) (T := TX9) (N := 6) X hT m0 g0 rfl rfl 1 (by decide) qw_94 inlX9 rfl dX9_noteRow_37 (fun v85520 hv85520 ov85520 => ?_)
        obtain ⟨b85521, rfl, mb85521, gb85521⟩ := okV_r ov85520
        have gb85521 : tag b85521 = 7 := tg_of gb85521
        refine lv_iload hx hb dX9_noteRow_40 (lv_at hl 5 rfl) ?_
        refine t_ild X hT mb85521 gb85521 rfl (by omega) dX9_noteRow_42 (fun z85522 vz85522 rz85522 => ?_)
        have rz85522 : (-2147483648) ≤ z85522.toInt ∧ z85522.toInt ≤ 2147483647 := rz85522
        refine t_mmin X hl qw_1351 qw_1018 qw_850 qw_1019 (Nat.le_of_ble_eq_true rfl) (Nat.le_of_ble_eq_true rfl) (Nat.le_of_ble_eq_true rfl) (Nat.le_of_ble_eq_true rfl) dX9_noteRow_43 (fun z85523 ez85523 => ?_)
        have hz85523 := mmin_e ez85523 (rfl : z85519.toInt = z85519.toInt) (rfl : z85522.toInt = z85522.toInt)
        refine t_ist X hT mb85517 gb85517 rfl (by omega) (show (-2147483648) ≤ (z85523 : Int32).toInt ∧ (z85523 : Int32).toInt ≤ 2147483647 from (by omega)) dX9_noteRow_46 (fun F H locs hT v85524 h1v85524 h2v85524 => ?_)
        have hv85506 := (h2v85524 _ _).trans hv85506
        have hv85513 := (h2v85524 _ _).trans hv85513
        have hv85516 := (h2v85524 _ _).trans hv85516
        have hv85520 := (h2v85524 _ _).trans hv85520
        have hfr : ∀ b j : Nat, fld F b j = fld Fo b j := fun b j  => (h2v85524 b j).trans (hfr b j )
        refine lv_aload_n hx hb dX9_noteRow_47 rfl (lv_at hl 1 rfl) ?_
        refine t_get (C := RX9) (T := TX9) (N := 6) X hT m0 g0 rfl rfl 5 (by decide) qw_97 inlX9 rfl dX9_noteRow_48 (fun v85525 hv85525 ov85525 => ?_)
        obtain ⟨b85526, rfl, mb85526, gb85526⟩ := okV_r ov85525
        have gb85526 : tag b85526 = 7 := tg_of gb85526
        refine lv_iload hx hb dX9_noteRow_51 (lv_at hl 0 rfl) ?_
        refine lv_dup2_11 hx hb dX9_noteRow_53 rfl rfl ?_
        refine t_ild X hT mb85526 gb85526 rfl (by omega) dX9_noteRow_54 (fun z85527 vz85527 rz85527 => ?_)
        have rz85527 : (-2147483648) ≤ z85527.toInt ∧ z85527.toInt ≤ 2147483647 := rz85527
        refine lv_iload_n hx hb dX9_noteRow_55 rfl (lv_at hl 4 rfl) ?_
        refine lv_iand hx hb dX9_noteRow_56 ?_
        refine lv_topi (fun z85528 ez85528 => ?_)
        have rz85528 := rg_all z85528
        refine t_ist X hT mb85526 gb85526 rfl (by omega) (show (-2147483648) ≤ (z85528 : Int32).toInt ∧ (z85528 : Int32).toInt ≤ 2147483647 from (by omega)) dX9_noteRow_57 (fun F H locs hT v85529 h1v85529 h2v85529 => ?_)
        have hv85506 := (h2v85529 _ _).trans hv85506
        have hv85513 := (h2v85529 _ _).trans hv85513
        have hv85516 := (h2v85529 _ _).trans hv85516
        have hv85520 := (h2v85529 _ _).trans hv85520
        have hv85525 := (h2v85529 _ _).trans hv85525
        have hfr : ∀ b j : Nat, fld F b j = fld Fo b j := fun b j  => (h2v85529 b j).trans (hfr b j )
        refine lv_iload_n hx hb dX9_noteRow_58 rfl (lv_at hl 4 rfl) ?_
        refine lv_iconst (v := 1) hx hb dX9_noteRow_59 (by decide) ?_
        refine lv_iload hx hb dX9_noteRow_60 (lv_at hl 0 rfl) ?_
        refine lv_ishl hx hb dX9_noteRow_62 ?_
        refine lv_topi (fun z85530 ez85530 => ?_)
        have rz85530 := rg_all z85530
        refine lv_ior hx hb dX9_noteRow_63 ?_
        refine lv_topi (fun z85531 ez85531 => ?_)
        have rz85531 := rg_all z85531
        refine lv_istore_n (lv' := [(3, .int z85531), (5, .int z85515), (0, .ref p0), (1, .ref p1), (2, .int p2), (4, .int z85505)]) hx hb dX9_noteRow_64 rfl hl (by decide) rfl (fun ls hl => ?_)
        obtain ⟨z85532, ez85532⟩ : ∃ y : Int32, y = z85505 + 1 := ⟨_, rfl⟩
        have hz85532 : z85532.toInt = z85505.toInt + 1 := ar_add ez85532 rfl (by decide : (1 : Int32).toInt = 1) (by omega) (by omega)
        refine lv_iinc (v := z85532) (lv' := [(4, .int z85532), (3, .int z85531), (5, .int z85515), (0, .ref p0), (1, .ref p1), (2, .int p2)]) hx hb dX9_noteRow_65 hl (k := 5) rfl (by rw [ez85532]; rfl) (by decide) rfl (fun ls hl => ?_)
        refine lv_goto (tgt := 5) hx hb dX9_noteRow_68 (by decide) ?_
        exact ih5 z85531 z85532 _ _ _ _ (by omega) (by omega) hT hfr  (lv_sub hl [3, 4, 5, 1, 0] rfl)
  refine lv_iconst (v := 0) hx hb dX9_noteRow_0 (by decide) ?_
  refine lv_istore_n (lv' := [(3, .int 0), (0, .ref p0), (1, .ref p1), (2, .int p2)]) hx hb dX9_noteRow_1 rfl hl (by decide) rfl (fun ls hl => ?_)
  refine lv_iconst (v := 0) hx hb dX9_noteRow_2 (by decide) ?_
  refine lv_istore (lv' := [(4, .int 0), (3, .int 0), (0, .ref p0), (1, .ref p1), (2, .int p2)]) hx hb dX9_noteRow_3 hl (by decide) rfl (fun ls hl => ?_)
  have kk85533 : (0 : Int32).toInt = 0 := by decide
  have kk85534 : (0 : Int32).toInt = 0 := by decide
  exact K5 7 0 0 _ _ _ _ (by omega) (by decide) hT hfr  (lv_sub hl [2, 3, 4, 1, 0] rfl)
set_option maxHeartbeats 4000000 in
set_option maxRecDepth 100000 in
theorem kt233_X9_wallAt (l : Launch) (G : KG) (tag : Nat → Nat) (L : List Nat) (Fo : Nat → va_E) (ho : okT G ttC tag L Fo) (p0 : Nat) (p1 : Nat) (p2 : Int32) (p3 : Int32) (p4 : Int32) (m0 : p0 ∈ L) (g0 : tag p0 = 22) (m1 : p1 ∈ L) (g1 : tag p1 = 18) (h4 : 0 ≤ p4.toInt ∧ p4.toInt ≤ 5) : TMi l yX9_wallAt cX9_wallAt 7 (some .int) { frames := 3, cells := 0, slots := 0, locals := 63 } G ttC tag L Fo [.ref p0, .ref p1, .int p2, .int p3, .int p4] (fun r F1 => ((-2) ≤ r.toInt ∧ r.toInt ≤ 5) ∧ (∀ b j : Nat, fld F1 b j = fld Fo b j)) := by
  refine t_bodyi (y := yX9_wallAt) (cd := cX9_wallAt) (mL := 7) (rt := (some .int)) (rm := { frames := 3, cells := 0, slots := 0, locals := 63 }) (av := [.ref p0, .ref p1, .int p2, .int p3, .int p4]) (by decide) (Nat.le_of_ble_eq_true rfl) ho ?_
  intro p e s m args below meth c ls A Q hQ X hT hl
  have hx := X.1.1
  have hb := X.1.2.1
  have hl : lv_has ls 7 [(0, .ref p0), (1, .ref p1), (2, .int p2), (3, .int p3), (4, .int p4)] := hl
  have rp2 := rg_all p2
  have rp3 := rg_all p3
  obtain ⟨F, hFo⟩ : ∃ F : Nat → va_E, F = Fo := ⟨_, rfl⟩
  rw [← hFo] at hT
  have hfr : ∀ b j : Nat, fld F b j = fld Fo b j := by
    rw [hFo]
    intros
    rfl
  have K17 : ∀ (n : Nat) (z86583 : Int32) (z86584 : Int32) (z86585 : Int32) (F : Nat → va_E) (H : Heap) (locs : List Loc) (ls : Array Slot), (720 - z86584.toInt < (n : Int)) → (0 ≤ z86584.toInt ∧ z86584.toInt ≤ 720) → (0 ≤ z86585.toInt ∧ z86585.toInt ≤ 6) → TH G ttC A s tag L F H locs → (∀ b j : Nat, fld F b j = fld Fo b j) → fld F p1 16 = .int z86585 → lv_has ls 7 [(0, .ref p0), (1, .ref p1), (2, .int p2), (3, .int p3), (4, .int p4), (5, .int z86583), (6, .int z86584)] → W p l e { frames := 3, cells := 0, slots := 0, locals := 63 } s m args below meth c H locs 0 0 Q (F0 m 17 ls []) := by
    intro n
    induction n with
    | zero =>
      intro z86583 z86584 z86585 F H locs ls hn rz86584 rz86585 hT hfr qz86585 hl
      have rz86583 := rg_all z86583
      exfalso
      omega
    | succ n ih17 =>
      intro z86583 z86584 z86585 F H locs ls hn rz86584 rz86585 hT hfr qz86585 hl
      have rz86583 := rg_all z86583
      have K56 : ∀ (z86586 : Int32) (z86588 : Int32) (F : Nat → va_E) (H : Heap) (locs : List Loc) (ls : Array Slot), (0 ≤ z86588.toInt ∧ z86588.toInt ≤ 6) → (0 ≤ z86584.toInt ∧ z86584.toInt ≤ 719) → TH G ttC A s tag L F H locs → (∀ b j : Nat, fld F b j = fld Fo b j) → fld F p1 16 = .int z86588 → lv_has ls 7 [(0, .ref p0), (1, .ref p1), (2, .int p2), (3, .int p3), (4, .int p4), (5, .int z86586), (6, .int z86584)] → W p l e { frames := 3, cells := 0, slots := 0, locals := 63 } s m args below meth c H locs 0 0 Q (F0 m 56 ls []) := by
        intro z86586 z86588 F H locs ls rz86588 r9s86587 hT hfr qz86588 hl
        have rz86586 := rg_all z86586
        refine lv_aload_n hx hb dX9_wallAt_56 rfl (lv_at hl 0 rfl) ?_
        refine t_get (C := RX9) (T := TX9) (N := 6) X hT m0 g0 rfl rfl 0 (by decide) qw_93 inlX9 rfl dX9_wallAt_57 (fun v86589 hv86589 ov86589 => ?_)
        obtain ⟨b86590, rfl, mb86590, gb86590⟩ := okV_r ov86589
        have gb86590 : tag b86590 = 11 := tg_of gb86590
        refine lv_aload_n hx hb dX9_wallAt_60 rfl (lv_at hl 1 rfl) ?_
        refine t_get (C := RX1) (T := TX1) (N := 20) X hT m1 g1 rfl rfl 16 (by decide) qw_1338 inlX1 rfl dX9_wallAt_61 (fun v86591 hv86591 ov86591 => ?_)
        obtain rfl : v86591 = .int z86588 := hv86591.symm.trans qz86588
        refine t_cSv (n := 2) (As := [.ref b86590, .int z86588]) (rest := []) X hT (kt153_X5_advance l G tag L F hT.2.2.2 b86590 z86588 mb86590 gb86590 (by omega)) qw_1356 qw_1248 qw_1242 qw_1249 ⟨by decide +kernel, by decide +kernel, by decide +kernel⟩ ⟨Nat.le_of_ble_eq_true rfl, Nat.le_of_ble_eq_true rfl⟩ hl rfl rfl (Nat.le_of_ble_eq_true rfl) dX9_wallAt_64 ⟨Nat.le_of_ble_eq_true rfl, Nat.le_of_ble_eq_true rfl⟩ (fun F H locs hT hz86592 => ?_)
        have yz86592 := hz86592
        have qz86588 := (yz86592 _ 16 ).trans qz86588
        have hv86589 := (yz86592 _ 0 ).trans hv86589
        have hfr : ∀ b j : Nat, fld F b j = fld Fo b j := fun b j  => (yz86592 b j ).trans (hfr b j )
        obtain ⟨z86593, ez86593⟩ : ∃ y : Int32, y = z86584 + 1 := ⟨_, rfl⟩
        have hz86593 : z86593.toInt = z86584.toInt + 1 := ar_add ez86593 rfl (by decide : (1 : Int32).toInt = 1) (by omega) (by omega)
        refine lv_iinc (v := z86593) (lv' := [(6, .int z86593), (0, .ref p0), (1, .ref p1), (2, .int p2), (3, .int p3), (4, .int p4), (5, .int z86586)]) hx hb dX9_wallAt_67 hl (k := 6) rfl (by rw [ez86593]; rfl) (by decide) rfl (fun ls hl => ?_)
        refine lv_goto (tgt := 17) hx hb dX9_wallAt_70 (by decide) ?_
        exact ih17 z86586 z86593 z86588 _ _ _ _ (by omega) (by omega) (by omega) hT hfr qz86588 (lv_sub hl [1, 2, 3, 4, 5, 6, 0] rfl)
      refine lv_iload hx hb dX9_wallAt_17 (lv_at hl 6 rfl) ?_
      refine t_getsN X hT X.2.2.2.1.2.2.2.1 (List.mem_of_getElem? (i := 3) rfl) dX9_wallAt_19 ?_
      refine lv_aload_n hx hb dX9_wallAt_22 rfl (lv_at hl 1 rfl) ?_
      refine t_get (C := RX1) (T := TX1) (N := 20) X hT m1 g1 rfl rfl 16 (by decide) qw_1338 inlX1 rfl dX9_wallAt_23 (fun v86594 hv86594 ov86594 => ?_)
      obtain rfl : v86594 = .int z86585 := hv86594.symm.trans qz86585
      refine t_tild X hT X.2.2.2.1.2.2.2.1 (by omega) dX9_wallAt_26 (fun z86595 ez86595 => ?_)
      have rz86595 : 1 ≤ z86595.toInt ∧ z86595.toInt ≤ 720 := by rw [ez86595]; exact gRows_r _
      refine lv_icmp_ge (tgt := 73) hx hb dX9_wallAt_27 (by decide) (fun c86596 => ?_) (fun c86596 => ?_)
      · have w86597 := cv_le (rfl : z86595.toInt = z86595.toInt) (rfl : z86584.toInt = z86584.toInt) c86596
        refine lv_bipush (v := (-2)) hx hb dX9_wallAt_73 (by decide) ?_
        exact t_iret hQ X hT (⟨(by decide), hfr⟩) (Nat.le_of_ble_eq_true rfl) (Nat.le_of_ble_eq_true rfl) dX9_wallAt_75
      · have w86598 := cv_nle (rfl : z86595.toInt = z86595.toInt) (rfl : z86584.toInt = z86584.toInt) c86596
        refine lv_aload_n hx hb dX9_wallAt_30 rfl (lv_at hl 0 rfl) ?_
        refine lv_aload_n hx hb dX9_wallAt_31 rfl (lv_at hl 1 rfl) ?_
        refine lv_iload_n hx hb dX9_wallAt_32 rfl (lv_at hl 2 rfl) ?_
        refine t_cVi (n := 2) (C := RX9) (T := TX9) (N := 6) (As := [.ref p1, .int p2]) (rest := []) X hT (kt148_X9_canBe l G tag L F hT.2.2.2 p0 p1 p2 m0 g0 m1 g1) m0 g0 rfl rfl qw_1340 qw_1341 qw_1342 qw_40 qw_1343 ⟨rfl, by decide +kernel, by decide +kernel, by decide +kernel⟩ ⟨Nat.le_of_ble_eq_true rfl, Nat.le_of_ble_eq_true rfl⟩ hl rfl rfl (Nat.le_of_ble_eq_true rfl) dX9_wallAt_33 ⟨Nat.le_of_ble_eq_true rfl, Nat.le_of_ble_eq_true rfl⟩ (fun z86599 F H locs hT hz86599 => ?_)
        obtain ⟨hz86599, yz86599⟩ := hz86599
        have qz86585 := (yz86599 _ 16 ).trans qz86585
        have hfr : ∀ b j : Nat, fld F b j = fld Fo b j := fun b j  => (yz86599 b j ).trans (hfr b j )
        refine lv_if_eq (tgt := 56) hx hb dX9_wallAt_36 (by decide) (fun c86600 => ?_) (fun c86600 => ?_)
        · have w86601 := cv_eq (rfl : z86599.toInt = z86599.toInt) (by decide : (0 : Int32).toInt = 0) c86600
          exact K56 z86583 z86585 _ _ _ _ (by omega) (by omega) hT hfr qz86585 (lv_sub hl [0, 1, 2, 3, 4, 5, 6] rfl)
        · have w86602 := cv_ne (rfl : z86599.toInt = z86599.toInt) (by decide : (0 : Int32).toInt = 0) c86600
          refine lv_iload hx hb dX9_wallAt_39 (lv_at hl 5 rfl) ?_
          refine lv_iload_n hx hb dX9_wallAt_41 rfl (lv_at hl 3 rfl) ?_
          refine lv_icmp_ne (tgt := 53) hx hb dX9_wallAt_42 (by decide) (fun c86603 => ?_) (fun c86603 => ?_)
          · have w86604 := cv_ne (rfl : z86583.toInt = z86583.toInt) (rfl : p3.toInt = p3.toInt) c86603
            obtain ⟨z86605, ez86605⟩ : ∃ y : Int32, y = z86583 + 1 := ⟨_, rfl⟩
            have rz86605 := rg_all z86605
            refine lv_iinc (v := z86605) (lv' := [(5, .int z86605), (0, .ref p0), (1, .ref p1), (2, .int p2), (3, .int p3), (4, .int p4), (6, .int z86584)]) hx hb dX9_wallAt_53 hl (k := 5) rfl (by rw [ez86605]; rfl) (by decide) rfl (fun ls hl => ?_)
            exact K56 z86605 z86585 _ _ _ _ (by omega) (by omega) hT hfr qz86585 (lv_sub hl [1, 2, 3, 4, 5, 0, 6] rfl)
          · have w86606 := cv_eq (rfl : z86583.toInt = z86583.toInt) (rfl : p3.toInt = p3.toInt) c86603
            refine lv_aload_n hx hb dX9_wallAt_45 rfl (lv_at hl 0 rfl) ?_
            refine t_get (C := RX9) (T := TX9) (N := 6) X hT m0 g0 rfl rfl 0 (by decide) qw_93 inlX9 rfl dX9_wallAt_46 (fun v86607 hv86607 ov86607 => ?_)
            obtain ⟨b86608, rfl, mb86608, gb86608⟩ := okV_r ov86607
            have gb86608 : tag b86608 = 11 := tg_of gb86608
            refine lv_iload hx hb dX9_wallAt_49 (lv_at hl 4 rfl) ?_
            refine t_ild X hT mb86608 gb86608 rfl (by omega) dX9_wallAt_51 (fun z86609 vz86609 rz86609 => ?_)
            have rz86609 : 0 ≤ z86609.toInt ∧ z86609.toInt ≤ 5 := rz86609
            exact t_iret hQ X hT (⟨(by omega), hfr⟩) (Nat.le_of_ble_eq_true rfl) (Nat.le_of_ble_eq_true rfl) dX9_wallAt_52
  refine lv_iconst (v := 0) hx hb dX9_wallAt_0 (by decide) ?_
  refine lv_istore (lv' := [(5, .int 0), (0, .ref p0), (1, .ref p1), (2, .int p2), (3, .int p3), (4, .int p4)]) hx hb dX9_wallAt_1 hl (by decide) rfl (fun ls hl => ?_)
  refine lv_aload_n hx hb dX9_wallAt_3 rfl (lv_at hl 1 rfl) ?_
  refine t_get (C := RX9) (T := TX9) (N := 6) X hT m0 g0 rfl rfl 0 (by decide) qw_93 inlX9 rfl dX9_wallAt_4 (fun v86610 hv86610 ov86610 => ?_)
  obtain ⟨b86611, rfl, mb86611, gb86611⟩ := okV_r ov86610
  have gb86611 : tag b86611 = 11 := tg_of gb86611
  refine lv_aload_n hx hb dX9_wallAt_7 rfl (lv_at hl 2 rfl) ?_
  refine t_get (C := RX1) (T := TX1) (N := 20) X hT m1 g1 rfl rfl 16 (by decide) qw_1338 inlX1 rfl dX9_wallAt_8 (fun v86612 hv86612 ov86612 => ?_)
  obtain ⟨z86613, rfl, rz86613⟩ := okV_i ov86612
  refine t_cSv (n := 2) (As := [.ref b86611, .int z86613]) (rest := []) X hT (kt146_X5_begin l G tag L F hT.2.2.2 b86611 z86613 mb86611 gb86611 (by omega)) qw_1339 qw_1241 qw_1242 qw_1243 ⟨by decide +kernel, by decide +kernel, by decide +kernel⟩ ⟨Nat.le_of_ble_eq_true rfl, Nat.le_of_ble_eq_true rfl⟩ hl rfl rfl (Nat.le_of_ble_eq_true rfl) dX9_wallAt_11 ⟨Nat.le_of_ble_eq_true rfl, Nat.le_of_ble_eq_true rfl⟩ (fun F H locs hT hz86614 => ?_)
  have yz86614 := hz86614
  have hv86610 := (yz86614 _ 0 ).trans hv86610
  have hv86612 := (yz86614 _ 16 ).trans hv86612
  have hfr : ∀ b j : Nat, fld F b j = fld Fo b j := fun b j  => (yz86614 b j ).trans (hfr b j )
  refine lv_iconst (v := 0) hx hb dX9_wallAt_14 (by decide) ?_
  refine lv_istore (lv' := [(6, .int 0), (5, .int 0), (0, .ref p0), (1, .ref p1), (2, .int p2), (3, .int p3), (4, .int p4)]) hx hb dX9_wallAt_15 hl (by decide) rfl (fun ls hl => ?_)
  have kk86615 : (0 : Int32).toInt = 0 := by decide
  have kk86616 : (0 : Int32).toInt = 0 := by decide
  exact K17 721 0 0 z86613 _ _ _ _ (by omega) (by decide) (by omega) hT hfr hv86612 (lv_sub hl [2, 3, 4, 5, 6, 1, 0] rfl)
