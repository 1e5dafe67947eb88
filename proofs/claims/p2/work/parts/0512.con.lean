set_option maxHeartbeats 4000000 in
set_option maxRecDepth 100000 in
theorem kt97_X8_takeWord (l : Launch) (G : KG) (tag : Nat → Nat) (L : List Nat) (Fo : Nat → va_E) (ho : okT G ttC tag L Fo) (p0 : Nat) (x0 : Nat) (m0 : p0 ∈ L) (g0 : tag p0 = 24) (mx0 : x0 ∈ L) (gx0 : tag x0 = 1) (pf0 : fld Fo p0 0 = .ref x0) : TMv l yX8_takeWord cX8_takeWord 1 { frames := 1, cells := 0, slots := 0, locals := 21 } G ttC tag L Fo [.ref p0] (fun F1 => ∀ b j : Nat, (tag b ≠ 24 ∨ j ≠ 2) → (tag b ≠ 24 ∨ j ≠ 3) → (tag b ≠ 24 ∨ j ≠ 7) → fld F1 b j = fld Fo b j) := by
  refine t_bodyv (y := yX8_takeWord) (cd := cX8_takeWord) (mL := 1) (rm := { frames := 1, cells := 0, slots := 0, locals := 21 }) (av := [.ref p0]) (by decide) (Nat.le_of_ble_eq_true rfl) ho ?_
  intro p e s m args below meth c ls A Q hQ X hT hl
  have hx := X.1.1
  have hb := X.1.2.1
  have hl : lv_has ls 1 [(0, .ref p0)] := hl
  obtain ⟨F, hFo⟩ : ∃ F : Nat → va_E, F = Fo := ⟨_, rfl⟩
  rw [← hFo] at hT pf0
  have hfr : ∀ b j : Nat, (tag b ≠ 24 ∨ j ≠ 2) → (tag b ≠ 24 ∨ j ≠ 3) → (tag b ≠ 24 ∨ j ≠ 7) → fld F b j = fld Fo b j := by
    rw [hFo]
    intros
    rfl
  have K88 : ∀ (z34400 : Int32) (b34401 : Nat) (z34402 : Int32) (z34403 : Int32) (z34404 : Int32) (F : Nat → va_E) (H : Heap) (locs : List Loc) (ls : Array Slot), (1 ≤ z34400.toInt ∧ z34400.toInt ≤ 4) → (b34401 ∈ L) → (tag b34401 = 24) → (0 ≤ z34402.toInt ∧ z34402.toInt ≤ 1000) → (0 ≤ z34403.toInt ∧ z34403.toInt ≤ 1000) → (0 ≤ z34404.toInt ∧ z34404.toInt ≤ 1000) → TH G ttC A s tag L F H locs → (∀ b j : Nat, (tag b ≠ 24 ∨ j ≠ 2) → (tag b ≠ 24 ∨ j ≠ 3) → (tag b ≠ 24 ∨ j ≠ 7) → fld F b j = fld Fo b j) → fld F p0 0 = .ref x0 → fld F p0 2 = .int z34402 → fld F p0 1 = .int z34403 → fld F p0 4 = .int z34404 → lv_has ls 1 [(0, .ref p0)] → W p l e { frames := 1, cells := 0, slots := 0, locals := 21 } s m args below meth c H locs 0 0 Q (F0 m 88 ls [.int z34400, .ref b34401]) := by
    intro z34400 b34401 z34402 z34403 z34404 F H locs ls rz34400 mb34401 gb34401 rz34402 rz34403 rz34404 hT hfr pf0 qz34402 qz34403 qz34404 hl
    refine t_put (C := RX8) (T := TX8) (N := 8) (v := .int z34400) X hT mb34401 gb34401 rfl tyX8 tyX8_ok nmX8 rfl 3 (by decide) qw_202 inlX8 rfl (by first | rfl | decide) (by first | rfl | decide) rfl (⟨_, rfl, (show (-2147483648) ≤ (z34400 : Int32).toInt from (by omega)), (show (z34400 : Int32).toInt ≤ 2147483647 from (by omega))⟩) dX8_takeWord_88 (fun F H locs hT v34405 h1v34405 h2v34405 => ?_)
    have qz34402 := (h1v34405 _ _ (Or.inr (by decide))).trans qz34402
    have qz34403 := (h1v34405 _ _ (Or.inr (by decide))).trans qz34403
    have qz34404 := (h1v34405 _ _ (Or.inr (by decide))).trans qz34404
    have pf0 := (h1v34405 _ _ (Or.inr (by decide))).trans pf0
    have hfr : ∀ b j : Nat, (tag b ≠ 24 ∨ j ≠ 2) → (tag b ≠ 24 ∨ j ≠ 3) → (tag b ≠ 24 ∨ j ≠ 7) → fld F b j = fld Fo b j := fun b j n24_2 n24_3 n24_7 => (h1v34405 b j (fr_ne gb34401 n24_3)).trans (hfr b j n24_2 n24_3 n24_7)
    exact t_vret hQ X hT hfr (Nat.le_of_ble_eq_true rfl) (Nat.le_of_ble_eq_true rfl) dX8_takeWord_91
  have K68 : ∀ (z34406 : Int32) (z34407 : Int32) (F : Nat → va_E) (H : Heap) (locs : List Loc) (ls : Array Slot), (0 ≤ z34406.toInt ∧ z34406.toInt ≤ 1000) → (0 ≤ z34407.toInt ∧ z34407.toInt ≤ 1000) → TH G ttC A s tag L F H locs → (∀ b j : Nat, (tag b ≠ 24 ∨ j ≠ 2) → (tag b ≠ 24 ∨ j ≠ 3) → (tag b ≠ 24 ∨ j ≠ 7) → fld F b j = fld Fo b j) → fld F p0 0 = .ref x0 → fld F p0 2 = .int z34406 → fld F p0 1 = .int z34407 → lv_has ls 1 [(0, .ref p0)] → W p l e { frames := 1, cells := 0, slots := 0, locals := 21 } s m args below meth c H locs 0 0 Q (F0 m 68 ls []) := by
    intro z34406 z34407 F H locs ls rz34406 rz34407 hT hfr pf0 qz34406 qz34407 hl
    refine lv_aload_n hx hb dX8_takeWord_68 rfl (lv_at hl 0 rfl) ?_
    refine lv_aload_n hx hb dX8_takeWord_69 rfl (lv_at hl 0 rfl) ?_
    refine t_get (C := RX8) (T := TX8) (N := 8) X hT m0 g0 rfl rfl 2 (by decide) qw_195 inlX8 rfl dX8_takeWord_70 (fun v34408 hv34408 ov34408 => ?_)
    obtain rfl : v34408 = .int z34406 := hv34408.symm.trans qz34406
    refine lv_aload_n hx hb dX8_takeWord_73 rfl (lv_at hl 0 rfl) ?_
    refine t_get (C := RX8) (T := TX8) (N := 8) X hT m0 g0 rfl rfl 4 (by decide) qw_200 inlX8 rfl dX8_takeWord_74 (fun v34409 hv34409 ov34409 => ?_)
    obtain ⟨z34410, rfl, rz34410⟩ := okV_i ov34409
    refine lv_isub hx hb dX8_takeWord_77 ?_
    refine lv_topi (fun z34411 ez34411 => ?_)
    have hz34411 : z34411.toInt = z34406.toInt - z34410.toInt := ar_sub ez34411 (rfl : z34406.toInt = z34406.toInt) (rfl : z34410.toInt = z34410.toInt) (by omega) (by omega)
    have rz34411 : (-1000) ≤ z34411.toInt ∧ z34411.toInt ≤ 1000 := by omega
    refine lv_bipush (v := 8) hx hb dX8_takeWord_78 (by decide) ?_
    refine lv_icmp_le (tgt := 87) hx hb dX8_takeWord_80 (by decide) (fun c34412 => ?_) (fun c34412 => ?_)
    · have w34413 := cv_le (rfl : z34411.toInt = z34411.toInt) (by decide : (8 : Int32).toInt = 8) c34412
      refine lv_iconst (v := 1) hx hb dX8_takeWord_87 (by decide) ?_
      exact K88 1 p0 z34406 z34407 z34410 _ _ _ _ (by decide) m0 g0 (by omega) (by omega) (by omega) hT hfr pf0 qz34406 qz34407 hv34409 (lv_sub hl [0] rfl)
    · have w34414 := cv_nle (rfl : z34411.toInt = z34411.toInt) (by decide : (8 : Int32).toInt = 8) c34412
      refine lv_iconst (v := 4) hx hb dX8_takeWord_83 (by decide) ?_
      refine lv_goto (tgt := 88) hx hb dX8_takeWord_84 (by decide) ?_
      exact K88 4 p0 z34406 z34407 z34410 _ _ _ _ (by decide) m0 g0 (by omega) (by omega) (by omega) hT hfr pf0 qz34406 qz34407 hv34409 (lv_sub hl [0] rfl)
  have K5 : ∀ (n : Nat) (z34415 : Int32) (F : Nat → va_E) (H : Heap) (locs : List Loc) (ls : Array Slot), (1000 - z34415.toInt < (n : Int)) → (0 ≤ z34415.toInt ∧ z34415.toInt ≤ 1000) → TH G ttC A s tag L F H locs → (∀ b j : Nat, (tag b ≠ 24 ∨ j ≠ 2) → (tag b ≠ 24 ∨ j ≠ 3) → (tag b ≠ 24 ∨ j ≠ 7) → fld F b j = fld Fo b j) → fld F p0 0 = .ref x0 → fld F p0 2 = .int z34415 → lv_has ls 1 [(0, .ref p0)] → W p l e { frames := 1, cells := 0, slots := 0, locals := 21 } s m args below meth c H locs 0 0 Q (F0 m 5 ls []) := by
    intro n
    induction n with
    | zero =>
      intro z34415 F H locs ls hn rz34415 hT hfr pf0 qz34415 hl
      exfalso
      omega
    | succ n ih5 =>
      intro z34415 F H locs ls hn rz34415 hT hfr pf0 qz34415 hl
      refine lv_aload_n hx hb dX8_takeWord_5 rfl (lv_at hl 0 rfl) ?_
      refine t_get (C := RX8) (T := TX8) (N := 8) X hT m0 g0 rfl rfl 2 (by decide) qw_195 inlX8 rfl dX8_takeWord_6 (fun v34416 hv34416 ov34416 => ?_)
      obtain rfl : v34416 = .int z34415 := hv34416.symm.trans qz34415
      refine lv_aload_n hx hb dX8_takeWord_9 rfl (lv_at hl 0 rfl) ?_
      refine t_get (C := RX8) (T := TX8) (N := 8) X hT m0 g0 rfl rfl 1 (by decide) qw_194 inlX8 rfl dX8_takeWord_10 (fun v34417 hv34417 ov34417 => ?_)
      obtain ⟨z34418, rfl, rz34418⟩ := okV_i ov34417
      refine lv_icmp_ge (tgt := 68) hx hb dX8_takeWord_13 (by decide) (fun c34419 => ?_) (fun c34419 => ?_)
      · have w34420 := cv_le (rfl : z34418.toInt = z34418.toInt) (rfl : z34415.toInt = z34415.toInt) c34419
        exact K68 z34415 z34418 _ _ _ _ (by omega) (by omega) hT hfr pf0 qz34415 hv34417 (lv_sub hl [0] rfl)
      · have w34421 := cv_nle (rfl : z34418.toInt = z34418.toInt) (rfl : z34415.toInt = z34415.toInt) c34419
        refine lv_aload_n hx hb dX8_takeWord_16 rfl (lv_at hl 0 rfl) ?_
        refine lv_aload_n hx hb dX8_takeWord_17 rfl (lv_at hl 0 rfl) ?_
        refine t_get (C := RX8) (T := TX8) (N := 8) X hT m0 g0 rfl rfl 2 (by decide) qw_195 inlX8 rfl dX8_takeWord_18 (fun v34422 hv34422 ov34422 => ?_)
        obtain rfl : v34422 = .int z34415 := hv34422.symm.trans qz34415
        refine t_cVi (n := 1) (C := RX8) (T := TX8) (N := 8) (As := [.int z34415]) (rest := []) X hT (kt93_X8_byteAt l G tag L F hT.2.2.2 p0 z34415 x0 m0 g0 mx0 gx0 pf0) m0 g0 rfl rfl qw_204 qw_205 qw_206 qw_72 qw_207 ⟨rfl, by decide +kernel, by decide +kernel, by decide +kernel⟩ ⟨Nat.le_of_ble_eq_true rfl, Nat.le_of_ble_eq_true rfl⟩ hl rfl rfl (Nat.le_of_ble_eq_true rfl) dX8_takeWord_21 ⟨Nat.le_of_ble_eq_true rfl, Nat.le_of_ble_eq_true rfl⟩ (fun z34423 F9 H locs hT hz34423 => ?_)
        obtain ⟨fz34423, hz34423⟩ := hz34423
        rw [fz34423] at hT
        obtain ⟨hz34423, iz34423⟩ := hz34423
        refine t_cSi (n := 1) (As := [.int z34423]) (rest := []) X hT (kt94_X8_isLetter l G tag L F hT.2.2.2 z34423 ) qw_208 qw_209 qw_72 qw_210 ⟨by decide +kernel, by decide +kernel, by decide +kernel⟩ ⟨Nat.le_of_ble_eq_true rfl, Nat.le_of_ble_eq_true rfl⟩ hl rfl rfl (Nat.le_of_ble_eq_true rfl) dX8_takeWord_24 ⟨Nat.le_of_ble_eq_true rfl, Nat.le_of_ble_eq_true rfl⟩ (fun z34424 F9 H locs hT hz34424 => ?_)
        obtain ⟨fz34424, hz34424⟩ := hz34424
        rw [fz34424] at hT
        refine lv_if_eq (tgt := 68) hx hb dX8_takeWord_27 (by decide) (fun c34425 => ?_) (fun c34425 => ?_)
        · have w34426 := cv_eq (rfl : z34424.toInt = z34424.toInt) (by decide : (0 : Int32).toInt = 0) c34425
          exact K68 z34415 z34418 _ _ _ _ (by omega) (by omega) hT hfr pf0 qz34415 hv34417 (lv_sub hl [0] rfl)
        · have w34427 := cv_ne (rfl : z34424.toInt = z34424.toInt) (by decide : (0 : Int32).toInt = 0) c34425
          refine lv_aload_n hx hb dX8_takeWord_30 rfl (lv_at hl 0 rfl) ?_
          refine lv_aload_n hx hb dX8_takeWord_31 rfl (lv_at hl 0 rfl) ?_
          refine t_get (C := RX8) (T := TX8) (N := 8) X hT m0 g0 rfl rfl 7 (by decide) qw_215 inlX8 rfl dX8_takeWord_32 (fun v34428 hv34428 ov34428 => ?_)
          obtain ⟨z34429, rfl⟩ := ov34428
          refine lv_iconst (v := 5) hx hb dX8_takeWord_35 (by decide) ?_
          refine lv_lshl hx hb dX8_takeWord_36 rfl ?_
          refine lv_topl (fun z34430 ez34430 => ?_)
          refine lv_aload_n hx hb dX8_takeWord_37 rfl (lv_at hl 0 rfl) ?_
          refine lv_aload_n hx hb dX8_takeWord_38 rfl (lv_at hl 0 rfl) ?_
          refine t_get (C := RX8) (T := TX8) (N := 8) X hT m0 g0 rfl rfl 2 (by decide) qw_195 inlX8 rfl dX8_takeWord_39 (fun v34431 hv34431 ov34431 => ?_)
          obtain rfl : v34431 = .int z34415 := hv34431.symm.trans qz34415
          refine t_cVi (n := 1) (C := RX8) (T := TX8) (N := 8) (As := [.int z34415]) (rest := [.long z34430, .ref p0]) X hT (kt93_X8_byteAt l G tag L F hT.2.2.2 p0 z34415 x0 m0 g0 mx0 gx0 pf0) m0 g0 rfl rfl qw_204 qw_205 qw_206 qw_72 qw_207 ⟨rfl, by decide +kernel, by decide +kernel, by decide +kernel⟩ ⟨Nat.le_of_ble_eq_true rfl, Nat.le_of_ble_eq_true rfl⟩ hl rfl rfl (Nat.le_of_ble_eq_true rfl) dX8_takeWord_42 ⟨Nat.le_of_ble_eq_true rfl, Nat.le_of_ble_eq_true rfl⟩ (fun z34432 F9 H locs hT hz34432 => ?_)
          obtain ⟨fz34432, hz34432⟩ := hz34432
          rw [fz34432] at hT
          obtain ⟨hz34432, iz34432⟩ := hz34432
          refine lv_bipush (v := 97) hx hb dX8_takeWord_45 (by decide) ?_
          refine lv_isub hx hb dX8_takeWord_47 ?_
          refine lv_topi (fun z34433 ez34433 => ?_)
          have hz34433 : z34433.toInt = z34432.toInt - 97 := ar_sub ez34433 (rfl : z34432.toInt = z34432.toInt) (by decide : (97 : Int32).toInt = 97) (by omega) (by omega)
          have rz34433 : (-98) ≤ z34433.toInt ∧ z34433.toInt ≤ 158 := by omega
          refine lv_iconst (v := 1) hx hb dX8_takeWord_48 (by decide) ?_
          refine lv_iadd hx hb dX8_takeWord_49 ?_
          refine lv_topi (fun z34434 ez34434 => ?_)
          have hz34434 : z34434.toInt = z34433.toInt + 1 := ar_add ez34434 (rfl : z34433.toInt = z34433.toInt) (by decide : (1 : Int32).toInt = 1) (by omega) (by omega)
          have rz34434 : (-97) ≤ z34434.toInt ∧ z34434.toInt ≤ 159 := by omega
          refine lv_i2l hx hb dX8_takeWord_50 rfl ?_
          refine lv_topl (fun z34435 ez34435 => ?_)
          refine lv_lor hx hb dX8_takeWord_51 ?_
          refine lv_topl (fun z34436 ez34436 => ?_)
          refine t_put (C := RX8) (T := TX8) (N := 8) (v := .long z34436) X hT m0 g0 rfl tyX8 tyX8_ok nmX8 rfl 7 (by decide) qw_215 inlX8 rfl (by first | rfl | decide) (by first | rfl | decide) rfl (⟨_, rfl⟩) dX8_takeWord_52 (fun F H locs hT v34437 h1v34437 h2v34437 => ?_)
          have qz34415 := (h1v34437 _ _ (Or.inr (by decide))).trans qz34415
          have pf0 := (h1v34437 _ _ (Or.inr (by decide))).trans pf0
          have hv34417 := (h1v34437 _ _ (Or.inr (by decide))).trans hv34417
          have hfr : ∀ b j : Nat, (tag b ≠ 24 ∨ j ≠ 2) → (tag b ≠ 24 ∨ j ≠ 3) → (tag b ≠ 24 ∨ j ≠ 7) → fld F b j = fld Fo b j := fun b j n24_2 n24_3 n24_7 => (h1v34437 b j (fr_ne g0 n24_7)).trans (hfr b j n24_2 n24_3 n24_7)
          refine lv_aload_n hx hb dX8_takeWord_55 rfl (lv_at hl 0 rfl) ?_
          refine lv_dup hx hb dX8_takeWord_56 rfl ?_
          refine t_get (C := RX8) (T := TX8) (N := 8) X hT m0 g0 rfl rfl 2 (by decide) qw_195 inlX8 rfl dX8_takeWord_57 (fun v34438 hv34438 ov34438 => ?_)
          obtain rfl : v34438 = .int z34415 := hv34438.symm.trans qz34415
          refine lv_iconst (v := 1) hx hb dX8_takeWord_60 (by decide) ?_
          refine lv_iadd hx hb dX8_takeWord_61 ?_
          refine lv_topi (fun z34439 ez34439 => ?_)
          have hz34439 : z34439.toInt = z34415.toInt + 1 := ar_add ez34439 (rfl : z34415.toInt = z34415.toInt) (by decide : (1 : Int32).toInt = 1) (by omega) (by omega)
          have rz34439 : 1 ≤ z34439.toInt ∧ z34439.toInt ≤ 1000 := by omega
          refine t_put (C := RX8) (T := TX8) (N := 8) (v := .int z34439) X hT m0 g0 rfl tyX8 tyX8_ok nmX8 rfl 2 (by decide) qw_195 inlX8 rfl (by first | rfl | decide) (by first | rfl | decide) rfl (⟨_, rfl, (show 0 ≤ (z34439 : Int32).toInt from (by omega)), (show (z34439 : Int32).toInt ≤ 1000 from (by omega))⟩) dX8_takeWord_62 (fun F H locs hT v34440 h1v34440 h2v34440 => ?_)
          have pf0 := (h1v34440 _ _ (Or.inr (by decide))).trans pf0
          have hv34417 := (h1v34440 _ _ (Or.inr (by decide))).trans hv34417
          have hfr : ∀ b j : Nat, (tag b ≠ 24 ∨ j ≠ 2) → (tag b ≠ 24 ∨ j ≠ 3) → (tag b ≠ 24 ∨ j ≠ 7) → fld F b j = fld Fo b j := fun b j n24_2 n24_3 n24_7 => (h1v34440 b j (fr_ne g0 n24_2)).trans (hfr b j n24_2 n24_3 n24_7)
          refine lv_goto (tgt := 5) hx hb dX8_takeWord_65 (by decide) ?_
          exact ih5 z34439 _ _ _ _ (by omega) (by omega) hT hfr pf0 v34440 (lv_sub hl [0] rfl)
  refine lv_aload_n hx hb dX8_takeWord_0 rfl (lv_at hl 0 rfl) ?_
  refine lv_lconst (v := 0) hx hb dX8_takeWord_1 (by decide) ?_
  refine t_put (C := RX8) (T := TX8) (N := 8) (v := .long (0 : Int64)) X hT m0 g0 rfl tyX8 tyX8_ok nmX8 rfl 7 (by decide) qw_215 inlX8 rfl (by first | rfl | decide) (by first | rfl | decide) rfl (⟨_, rfl⟩) dX8_takeWord_2 (fun F H locs hT v34441 h1v34441 h2v34441 => ?_)
  have pf0 := (h1v34441 _ _ (Or.inr (by decide))).trans pf0
  have hfr : ∀ b j : Nat, (tag b ≠ 24 ∨ j ≠ 2) → (tag b ≠ 24 ∨ j ≠ 3) → (tag b ≠ 24 ∨ j ≠ 7) → fld F b j = fld Fo b j := fun b j n24_2 n24_3 n24_7 => (h1v34441 b j (fr_ne g0 n24_7)).trans (hfr b j n24_2 n24_3 n24_7)
  obtain ⟨z34442, qz34442, rz34442⟩ := t_fld hT m0 g0 rfl 2 rfl
  have rz34442 : 0 ≤ z34442.toInt ∧ z34442.toInt ≤ 1000 := rz34442
  exact K5 1001 z34442 _ _ _ _ (by omega) (by omega) hT hfr pf0 qz34442 (lv_sub hl [0] rfl)
set_option maxHeartbeats 4000000 in
set_option maxRecDepth 100000 in
theorem kt98_X8_advance (l : Launch) (G : KG) (tag : Nat → Nat) (L : List Nat) (Fo : Nat → va_E) (ho : okT G ttC tag L Fo) (p0 : Nat) (x0 : Nat) (m0 : p0 ∈ L) (g0 : tag p0 = 24) (mx0 : x0 ∈ L) (gx0 : tag x0 = 1) (pf0 : fld Fo p0 0 = .ref x0) : TMv l yX8_advance cX8_advance 2 { frames := 2, cells := 0, slots := 0, locals := 41 } G ttC tag L Fo [.ref p0] (fun F1 => ∀ b j : Nat, (tag b ≠ 24 ∨ j ≠ 2) → (tag b ≠ 24 ∨ j ≠ 3) → (tag b ≠ 24 ∨ j ≠ 4) → (tag b ≠ 24 ∨ j ≠ 5) → (tag b ≠ 24 ∨ j ≠ 6) → (tag b ≠ 24 ∨ j ≠ 7) → fld F1 b j = fld Fo b j) := by
  refine t_bodyv (y := yX8_advance) (cd := cX8_advance) (mL := 2) (rm := { frames := 2, cells := 0, slots := 0, locals := 41 }) (av := [.ref p0]) (by decide) (Nat.le_of_ble_eq_true rfl) ho ?_
  intro p e s m args below meth c ls A Q hQ X hT hl
  have hx := X.1.1
  have hb := X.1.2.1
  have hl : lv_has ls 2 [(0, .ref p0)] := hl
  obtain ⟨F, hFo⟩ : ∃ F : Nat → va_E, F = Fo := ⟨_, rfl⟩
  rw [← hFo] at hT pf0
  have hfr : ∀ b j : Nat, (tag b ≠ 24 ∨ j ≠ 2) → (tag b ≠ 24 ∨ j ≠ 3) → (tag b ≠ 24 ∨ j ≠ 4) → (tag b ≠ 24 ∨ j ≠ 5) → (tag b ≠ 24 ∨ j ≠ 6) → (tag b ≠ 24 ∨ j ≠ 7) → fld F b j = fld Fo b j := by
    rw [hFo]
    intros
    rfl
  have K121 : ∀ (z35184 : Int32) (z35185 : Int32) (b35186 : Nat) (z35187 : Int32) (z35188 : Int32) (z35189 : Int32) (z35190 : Int32) (F : Nat → va_E) (H : Heap) (locs : List Loc) (ls : Array Slot), (0 ≤ z35184.toInt ∧ z35184.toInt ≤ 255) → (3 ≤ z35185.toInt ∧ z35185.toInt ≤ 4) → (b35186 ∈ L) → (tag b35186 = 24) → (0 ≤ z35187.toInt ∧ z35187.toInt ≤ 1000) → (0 ≤ z35188.toInt ∧ z35188.toInt ≤ 999) → (0 ≤ z35189.toInt ∧ z35189.toInt ≤ 1000) → (0 ≤ z35190.toInt ∧ z35190.toInt ≤ 999) → TH G ttC A s tag L F H locs → (∀ b j : Nat, (tag b ≠ 24 ∨ j ≠ 2) → (tag b ≠ 24 ∨ j ≠ 3) → (tag b ≠ 24 ∨ j ≠ 4) → (tag b ≠ 24 ∨ j ≠ 5) → (tag b ≠ 24 ∨ j ≠ 6) → (tag b ≠ 24 ∨ j ≠ 7) → fld F b j = fld Fo b j) → fld F p0 0 = .ref x0 → fld F p0 5 = .int z35187 → fld F p0 2 = .int z35188 → fld F p0 1 = .int z35189 → fld F p0 4 = .int z35190 → lv_has ls 2 [(0, .ref p0), (1, .int z35184)] → W p l e { frames := 2, cells := 0, slots := 0, locals := 41 } s m args below meth c H locs 0 0 Q (F0 m 121 ls [.int z35185, .ref b35186]) := by
    intro z35184 z35185 b35186 z35187 z35188 z35189 z35190 F H locs ls rz35184 rz35185 mb35186 gb35186 rz35187 rz35188 rz35189 rz35190 hT hfr pf0 qz35187 qz35188 qz35189 qz35190 hl
    refine t_put (C := RX8) (T := TX8) (N := 8) (v := .int z35185) X hT mb35186 gb35186 rfl tyX8 tyX8_ok nmX8 rfl 3 (by decide) qw_202 inlX8 rfl (by first | rfl | decide) (by first | rfl | decide) rfl (⟨_, rfl, (show (-2147483648) ≤ (z35185 : Int32).toInt from (by omega)), (show (z35185 : Int32).toInt ≤ 2147483647 from (by omega))⟩) dX8_advance_121 (fun F H locs hT v35191 h1v35191 h2v35191 => ?_)
    have qz35187 := (h1v35191 _ _ (Or.inr (by decide))).trans qz35187
    have qz35188 := (h1v35191 _ _ (Or.inr (by decide))).trans qz35188
    have qz35189 := (h1v35191 _ _ (Or.inr (by decide))).trans qz35189
    have qz35190 := (h1v35191 _ _ (Or.inr (by decide))).trans qz35190
    have pf0 := (h1v35191 _ _ (Or.inr (by decide))).trans pf0
    have hfr : ∀ b j : Nat, (tag b ≠ 24 ∨ j ≠ 2) → (tag b ≠ 24 ∨ j ≠ 3) → (tag b ≠ 24 ∨ j ≠ 4) → (tag b ≠ 24 ∨ j ≠ 5) → (tag b ≠ 24 ∨ j ≠ 6) → (tag b ≠ 24 ∨ j ≠ 7) → fld F b j = fld Fo b j := fun b j n24_2 n24_3 n24_4 n24_5 n24_6 n24_7 => (h1v35191 b j (fr_ne gb35186 n24_3)).trans (hfr b j n24_2 n24_3 n24_4 n24_5 n24_6 n24_7)
    refine lv_aload_n hx hb dX8_advance_124 rfl (lv_at hl 0 rfl) ?_
    refine lv_iload_n hx hb dX8_advance_125 rfl (lv_at hl 1 rfl) ?_
    refine t_put (C := RX8) (T := TX8) (N := 8) (v := .int z35184) X hT m0 g0 rfl tyX8 tyX8_ok nmX8 rfl 6 (by decide) qw_203 inlX8 rfl (by first | rfl | decide) (by first | rfl | decide) rfl (⟨_, rfl, (show (-2147483648) ≤ (z35184 : Int32).toInt from (by omega)), (show (z35184 : Int32).toInt ≤ 2147483647 from (by omega))⟩) dX8_advance_126 (fun F H locs hT v35192 h1v35192 h2v35192 => ?_)
    have qz35187 := (h1v35192 _ _ (Or.inr (by decide))).trans qz35187
    have qz35188 := (h1v35192 _ _ (Or.inr (by decide))).trans qz35188
    have qz35189 := (h1v35192 _ _ (Or.inr (by decide))).trans qz35189
    have qz35190 := (h1v35192 _ _ (Or.inr (by decide))).trans qz35190
    have pf0 := (h1v35192 _ _ (Or.inr (by decide))).trans pf0
    have v35191 := (h1v35192 _ _ (Or.inr (by decide))).trans v35191
    have hfr : ∀ b j : Nat, (tag b ≠ 24 ∨ j ≠ 2) → (tag b ≠ 24 ∨ j ≠ 3) → (tag b ≠ 24 ∨ j ≠ 4) → (tag b ≠ 24 ∨ j ≠ 5) → (tag b ≠ 24 ∨ j ≠ 6) → (tag b ≠ 24 ∨ j ≠ 7) → fld F b j = fld Fo b j := fun b j n24_2 n24_3 n24_4 n24_5 n24_6 n24_7 => (h1v35192 b j (fr_ne g0 n24_6)).trans (hfr b j n24_2 n24_3 n24_4 n24_5 n24_6 n24_7)
    refine lv_aload_n hx hb dX8_advance_129 rfl (lv_at hl 0 rfl) ?_
    refine lv_dup hx hb dX8_advance_130 rfl ?_
    refine t_get (C := RX8) (T := TX8) (N := 8) X hT m0 g0 rfl rfl 2 (by decide) qw_195 inlX8 rfl dX8_advance_131 (fun v35193 hv35193 ov35193 => ?_)
    obtain rfl : v35193 = .int z35188 := hv35193.symm.trans qz35188
    refine lv_iconst (v := 1) hx hb dX8_advance_134 (by decide) ?_
    refine lv_iadd hx hb dX8_advance_135 ?_
    refine lv_topi (fun z35194 ez35194 => ?_)
    have hz35194 : z35194.toInt = z35188.toInt + 1 := ar_add ez35194 (rfl : z35188.toInt = z35188.toInt) (by decide : (1 : Int32).toInt = 1) (by omega) (by omega)
    have rz35194 : 1 ≤ z35194.toInt ∧ z35194.toInt ≤ 1000 := by omega
    refine t_put (C := RX8) (T := TX8) (N := 8) (v := .int z35194) X hT m0 g0 rfl tyX8 tyX8_ok nmX8 rfl 2 (by decide) qw_195 inlX8 rfl (by first | rfl | decide) (by first | rfl | decide) rfl (⟨_, rfl, (show 0 ≤ (z35194 : Int32).toInt from (by omega)), (show (z35194 : Int32).toInt ≤ 1000 from (by omega))⟩) dX8_advance_136 (fun F H locs hT v35195 h1v35195 h2v35195 => ?_)
    have qz35187 := (h1v35195 _ _ (Or.inr (by decide))).trans qz35187
    have qz35189 := (h1v35195 _ _ (Or.inr (by decide))).trans qz35189
    have qz35190 := (h1v35195 _ _ (Or.inr (by decide))).trans qz35190
    have pf0 := (h1v35195 _ _ (Or.inr (by decide))).trans pf0
    have v35191 := (h1v35195 _ _ (Or.inr (by decide))).trans v35191
    have v35192 := (h1v35195 _ _ (Or.inr (by decide))).trans v35192
    have hfr : ∀ b j : Nat, (tag b ≠ 24 ∨ j ≠ 2) → (tag b ≠ 24 ∨ j ≠ 3) → (tag b ≠ 24 ∨ j ≠ 4) → (tag b ≠ 24 ∨ j ≠ 5) → (tag b ≠ 24 ∨ j ≠ 6) → (tag b ≠ 24 ∨ j ≠ 7) → fld F b j = fld Fo b j := fun b j n24_2 n24_3 n24_4 n24_5 n24_6 n24_7 => (h1v35195 b j (fr_ne g0 n24_2)).trans (hfr b j n24_2 n24_3 n24_4 n24_5 n24_6 n24_7)
    exact t_vret hQ X hT hfr (Nat.le_of_ble_eq_true rfl) (Nat.le_of_ble_eq_true rfl) dX8_advance_139
  have K116 : ∀ (z35196 : Int32) (b35197 : Nat) (z35198 : Int32) (z35199 : Int32) (z35200 : Int32) (z35201 : Int32) (F : Nat → va_E) (H : Heap) (locs : List Loc) (ls : Array Slot), (44 ≤ z35196.toInt ∧ z35196.toInt ≤ 59) → (b35197 ∈ L) → (tag b35197 = 24) → (0 ≤ z35198.toInt ∧ z35198.toInt ≤ 1000) → (0 ≤ z35199.toInt ∧ z35199.toInt ≤ 999) → (0 ≤ z35200.toInt ∧ z35200.toInt ≤ 1000) → (0 ≤ z35201.toInt ∧ z35201.toInt ≤ 999) → TH G ttC A s tag L F H locs → (∀ b j : Nat, (tag b ≠ 24 ∨ j ≠ 2) → (tag b ≠ 24 ∨ j ≠ 3) → (tag b ≠ 24 ∨ j ≠ 4) → (tag b ≠ 24 ∨ j ≠ 5) → (tag b ≠ 24 ∨ j ≠ 6) → (tag b ≠ 24 ∨ j ≠ 7) → fld F b j = fld Fo b j) → fld F p0 0 = .ref x0 → fld F p0 5 = .int z35198 → fld F p0 2 = .int z35199 → fld F p0 1 = .int z35200 → fld F p0 4 = .int z35201 → lv_has ls 2 [(0, .ref p0), (1, .int z35196)] → W p l e { frames := 2, cells := 0, slots := 0, locals := 41 } s m args below meth c H locs 0 0 Q (F0 m 116 ls [.ref b35197]) := by
    intro z35196 b35197 z35198 z35199 z35200 z35201 F H locs ls rz35196 mb35197 gb35197 rz35198 rz35199 rz35200 rz35201 hT hfr pf0 qz35198 qz35199 qz35200 qz35201 hl
    refine lv_iconst (v := 3) hx hb dX8_advance_116 (by decide) ?_
    refine lv_goto (tgt := 121) hx hb dX8_advance_117 (by decide) ?_
    exact K121 z35196 3 b35197 z35198 z35199 z35200 z35201 _ _ _ _ (by omega) (by decide) mb35197 gb35197 (by omega) (by omega) (by omega) (by omega) hT hfr pf0 qz35198 qz35199 qz35200 qz35201 (lv_sub hl [0, 1] rfl)
  have K45 : ∀ (z35202 : Int32) (z35203 : Int32) (z35204 : Int32) (z35205 : Int32) (F : Nat → va_E) (H : Heap) (locs : List Loc) (ls : Array Slot), (0 ≤ z35202.toInt ∧ z35202.toInt ≤ 1000) → (0 ≤ z35203.toInt ∧ z35203.toInt ≤ 1000) → (0 ≤ z35204.toInt ∧ z35204.toInt ≤ 1000) → (0 ≤ z35205.toInt ∧ z35205.toInt ≤ 1000) → TH G ttC A s tag L F H locs → (∀ b j : Nat, (tag b ≠ 24 ∨ j ≠ 2) → (tag b ≠ 24 ∨ j ≠ 3) → (tag b ≠ 24 ∨ j ≠ 4) → (tag b ≠ 24 ∨ j ≠ 5) → (tag b ≠ 24 ∨ j ≠ 6) → (tag b ≠ 24 ∨ j ≠ 7) → fld F b j = fld Fo b j) → fld F p0 0 = .ref x0 → fld F p0 4 = .int z35202 → fld F p0 5 = .int z35203 → fld F p0 2 = .int z35204 → fld F p0 1 = .int z35205 → lv_has ls 2 [(0, .ref p0)] → W p l e { frames := 2, cells := 0, slots := 0, locals := 41 } s m args below meth c H locs 0 0 Q (F0 m 45 ls []) := by
    intro z35202 z35203 z35204 z35205 F H locs ls rz35202 rz35203 rz35204 rz35205 hT hfr pf0 qz35202 qz35203 qz35204 qz35205 hl
    refine lv_aload_n hx hb dX8_advance_45 rfl (lv_at hl 0 rfl) ?_
    refine lv_aload_n hx hb dX8_advance_46 rfl (lv_at hl 0 rfl) ?_
    refine t_get (C := RX8) (T := TX8) (N := 8) X hT m0 g0 rfl rfl 2 (by decide) qw_195 inlX8 rfl dX8_advance_47 (fun v35206 hv35206 ov35206 => ?_)
    obtain rfl : v35206 = .int z35204 := hv35206.symm.trans qz35204
    refine t_put (C := RX8) (T := TX8) (N := 8) (v := .int z35204) X hT m0 g0 rfl tyX8 tyX8_ok nmX8 rfl 4 (by decide) qw_200 inlX8 rfl (by first | rfl | decide) (by first | rfl | decide) rfl (⟨_, rfl, (show 0 ≤ (z35204 : Int32).toInt from (by omega)), (show (z35204 : Int32).toInt ≤ 1000 from (by omega))⟩) dX8_advance_50 (fun F H locs hT v35207 h1v35207 h2v35207 => ?_)
    have qz35203 := (h1v35207 _ _ (Or.inr (by decide))).trans qz35203
    have qz35204 := (h1v35207 _ _ (Or.inr (by decide))).trans qz35204
    have qz35205 := (h1v35207 _ _ (Or.inr (by decide))).trans qz35205
    have pf0 := (h1v35207 _ _ (Or.inr (by decide))).trans pf0
    have hfr : ∀ b j : Nat, (tag b ≠ 24 ∨ j ≠ 2) → (tag b ≠ 24 ∨ j ≠ 3) → (tag b ≠ 24 ∨ j ≠ 4) → (tag b ≠ 24 ∨ j ≠ 5) → (tag b ≠ 24 ∨ j ≠ 6) → (tag b ≠ 24 ∨ j ≠ 7) → fld F b j = fld Fo b j := fun b j n24_2 n24_3 n24_4 n24_5 n24_6 n24_7 => (h1v35207 b j (fr_ne g0 n24_4)).trans (hfr b j n24_2 n24_3 n24_4 n24_5 n24_6 n24_7)
    refine lv_aload_n hx hb dX8_advance_53 rfl (lv_at hl 0 rfl) ?_
    refine lv_aload_n hx hb dX8_advance_54 rfl (lv_at hl 0 rfl) ?_
    refine t_get (C := RX8) (T := TX8) (N := 8) X hT m0 g0 rfl rfl 2 (by decide) qw_195 inlX8 rfl dX8_advance_55 (fun v35208 hv35208 ov35208 => ?_)
    obtain rfl : v35208 = .int z35204 := hv35208.symm.trans qz35204
    refine t_cVi (n := 1) (C := RX8) (T := TX8) (N := 8) (As := [.int z35204]) (rest := []) X hT (kt93_X8_byteAt l G tag L F hT.2.2.2 p0 z35204 x0 m0 g0 mx0 gx0 pf0) m0 g0 rfl rfl qw_204 qw_205 qw_206 qw_72 qw_207 ⟨rfl, by decide +kernel, by decide +kernel, by decide +kernel⟩ ⟨Nat.le_of_ble_eq_true rfl, Nat.le_of_ble_eq_true rfl⟩ hl rfl rfl (Nat.le_of_ble_eq_true rfl) dX8_advance_58 ⟨Nat.le_of_ble_eq_true rfl, Nat.le_of_ble_eq_true rfl⟩ (fun z35209 F9 H locs hT hz35209 => ?_)
    obtain ⟨fz35209, hz35209⟩ := hz35209
    rw [fz35209] at hT
    obtain ⟨hz35209, iz35209⟩ := hz35209
    refine lv_istore_n (lv' := [(1, .int z35209), (0, .ref p0)]) hx hb dX8_advance_61 rfl hl (by decide) rfl (fun ls hl => ?_)
    refine lv_iload_n hx hb dX8_advance_62 rfl (lv_at hl 0 rfl) ?_
    refine lv_iconst (v := (-1)) hx hb dX8_advance_63 (by decide) ?_
    refine lv_icmp_ne (tgt := 75) hx hb dX8_advance_64 (by decide) (fun c35210 => ?_) (fun c35210 => ?_)
    · have w35211 := cv_ne (rfl : z35209.toInt = z35209.toInt) (by decide : ((-1) : Int32).toInt = (-1)) c35210
      have w35212 := (fun h => (iz35209 h)) (by omega)
      refine lv_iload_n hx hb dX8_advance_75 rfl (lv_at hl 0 rfl) ?_
      refine t_cSi (n := 1) (As := [.int z35209]) (rest := []) X hT (kt94_X8_isLetter l G tag L F hT.2.2.2 z35209 ) qw_208 qw_209 qw_72 qw_210 ⟨by decide +kernel, by decide +kernel, by decide +kernel⟩ ⟨Nat.le_of_ble_eq_true rfl, Nat.le_of_ble_eq_true rfl⟩ hl rfl rfl (Nat.le_of_ble_eq_true rfl) dX8_advance_76 ⟨Nat.le_of_ble_eq_true rfl, Nat.le_of_ble_eq_true rfl⟩ (fun z35213 F9 H locs hT hz35213 => ?_)
      obtain ⟨fz35213, hz35213⟩ := hz35213
      rw [fz35213] at hT
      refine lv_if_eq (tgt := 89) hx hb dX8_advance_79 (by decide) (fun c35214 => ?_) (fun c35214 => ?_)
      · have w35215 := cv_eq (rfl : z35213.toInt = z35213.toInt) (by decide : (0 : Int32).toInt = 0) c35214
        refine lv_iload_n hx hb dX8_advance_89 rfl (lv_at hl 0 rfl) ?_
        refine t_cSi (n := 1) (As := [.int z35209]) (rest := []) X hT (kt95_X8_isDigit l G tag L F hT.2.2.2 z35209 ) qw_216 qw_217 qw_72 qw_218 ⟨by decide +kernel, by decide +kernel, by decide +kernel⟩ ⟨Nat.le_of_ble_eq_true rfl, Nat.le_of_ble_eq_true rfl⟩ hl rfl rfl (Nat.le_of_ble_eq_true rfl) dX8_advance_90 ⟨Nat.le_of_ble_eq_true rfl, Nat.le_of_ble_eq_true rfl⟩ (fun z35216 F9 H locs hT hz35216 => ?_)
        obtain ⟨fz35216, hz35216⟩ := hz35216
        rw [fz35216] at hT
        refine lv_if_eq (tgt := 103) hx hb dX8_advance_93 (by decide) (fun c35217 => ?_) (fun c35217 => ?_)
        · have w35218 := cv_eq (rfl : z35216.toInt = z35216.toInt) (by decide : (0 : Int32).toInt = 0) c35217
          refine lv_aload_n hx hb dX8_advance_103 rfl (lv_at hl 1 rfl) ?_
          refine lv_iload_n hx hb dX8_advance_104 rfl (lv_at hl 0 rfl) ?_
          refine lv_bipush (v := 59) hx hb dX8_advance_105 (by decide) ?_
          refine lv_icmp_eq (tgt := 116) hx hb dX8_advance_107 (by decide) (fun c35219 => ?_) (fun c35219 => ?_)
          · have w35220 := cv_eq (rfl : z35209.toInt = z35209.toInt) (by decide : (59 : Int32).toInt = 59) c35219
            have w35221 := (fun h => (iz35209 h)) (by omega)
            exact K116 z35209 p0 z35203 z35204 z35205 z35204 _ _ _ _ (by omega) m0 g0 (by omega) (by omega) (by omega) (by omega) hT hfr pf0 qz35203 qz35204 qz35205 v35207 (lv_sub hl [1, 0] rfl)
          · have w35222 := cv_ne (rfl : z35209.toInt = z35209.toInt) (by decide : (59 : Int32).toInt = 59) c35219
            have w35223 := (fun h => (iz35209 h)) (by omega)
            refine lv_iload_n hx hb dX8_advance_110 rfl (lv_at hl 0 rfl) ?_
            refine lv_bipush (v := 44) hx hb dX8_advance_111 (by decide) ?_
            refine lv_icmp_ne (tgt := 120) hx hb dX8_advance_113 (by decide) (fun c35224 => ?_) (fun c35224 => ?_)
            · have w35225 := cv_ne (rfl : z35209.toInt = z35209.toInt) (by decide : (44 : Int32).toInt = 44) c35224
              have w35226 := (fun h => (iz35209 h)) (by omega)
              refine lv_iconst (v := 4) hx hb dX8_advance_120 (by decide) ?_
              exact K121 z35209 4 p0 z35203 z35204 z35205 z35204 _ _ _ _ (by omega) (by decide) m0 g0 (by omega) (by omega) (by omega) (by omega) hT hfr pf0 qz35203 qz35204 qz35205 v35207 (lv_sub hl [1, 0] rfl)
            · have w35227 := cv_eq (rfl : z35209.toInt = z35209.toInt) (by decide : (44 : Int32).toInt = 44) c35224
              have w35228 := (fun h => (iz35209 h)) (by omega)
              exact K116 z35209 p0 z35203 z35204 z35205 z35204 _ _ _ _ (by omega) m0 g0 (by omega) (by omega) (by omega) (by omega) hT hfr pf0 qz35203 qz35204 qz35205 v35207 (lv_sub hl [1, 0] rfl)
        · have w35229 := cv_ne (rfl : z35216.toInt = z35216.toInt) (by decide : (0 : Int32).toInt = 0) c35217
          refine lv_aload_n hx hb dX8_advance_96 rfl (lv_at hl 1 rfl) ?_
          refine t_cVv (n := 0) (C := RX8) (T := TX8) (N := 8) (As := []) (rest := []) X hT (kt96_X8_takeWhole l G tag L F hT.2.2.2 p0 x0 m0 g0 mx0 gx0 pf0) m0 g0 rfl rfl qw_219 qw_220 qw_221 qw_72 qw_222 ⟨rfl, by decide +kernel, by decide +kernel, by decide +kernel⟩ ⟨Nat.le_of_ble_eq_true rfl, Nat.le_of_ble_eq_true rfl⟩ hl rfl rfl (Nat.le_of_ble_eq_true rfl) dX8_advance_97 ⟨Nat.le_of_ble_eq_true rfl, Nat.le_of_ble_eq_true rfl⟩ (fun F H locs hT hz35230 => ?_)
          have yz35230 := hz35230
          have qz35203 := (yz35230 _ 5 (Or.inr (by decide)) (Or.inr (by decide)) (Or.inr (by decide))).trans qz35203
          have qz35205 := (yz35230 _ 1 (Or.inr (by decide)) (Or.inr (by decide)) (Or.inr (by decide))).trans qz35205
          have pf0 := (yz35230 _ 0 (Or.inr (by decide)) (Or.inr (by decide)) (Or.inr (by decide))).trans pf0
          have v35207 := (yz35230 _ 4 (Or.inr (by decide)) (Or.inr (by decide)) (Or.inr (by decide))).trans v35207
          have hfr : ∀ b j : Nat, (tag b ≠ 24 ∨ j ≠ 2) → (tag b ≠ 24 ∨ j ≠ 3) → (tag b ≠ 24 ∨ j ≠ 4) → (tag b ≠ 24 ∨ j ≠ 5) → (tag b ≠ 24 ∨ j ≠ 6) → (tag b ≠ 24 ∨ j ≠ 7) → fld F b j = fld Fo b j := fun b j n24_2 n24_3 n24_4 n24_5 n24_6 n24_7 => (yz35230 b j n24_2 n24_3 n24_6).trans (hfr b j n24_2 n24_3 n24_4 n24_5 n24_6 n24_7)
          refine lv_goto (tgt := 139) hx hb dX8_advance_100 (by decide) ?_
          exact t_vret hQ X hT hfr (Nat.le_of_ble_eq_true rfl) (Nat.le_of_ble_eq_true rfl) dX8_advance_139
      · have w35231 := cv_ne (rfl : z35213.toInt = z35213.toInt) (by decide : (0 : Int32).toInt = 0) c35214
        refine lv_aload_n hx hb dX8_advance_82 rfl (lv_at hl 1 rfl) ?_
        refine t_cVv (n := 0) (C := RX8) (T := TX8) (N := 8) (As := []) (rest := []) X hT (kt97_X8_takeWord l G tag L F hT.2.2.2 p0 x0 m0 g0 mx0 gx0 pf0) m0 g0 rfl rfl qw_211 qw_212 qw_213 qw_72 qw_214 ⟨rfl, by decide +kernel, by decide +kernel, by decide +kernel⟩ ⟨Nat.le_of_ble_eq_true rfl, Nat.le_of_ble_eq_true rfl⟩ hl rfl rfl (Nat.le_of_ble_eq_true rfl) dX8_advance_83 ⟨Nat.le_of_ble_eq_true rfl, Nat.le_of_ble_eq_true rfl⟩ (fun F H locs hT hz35232 => ?_)
        have yz35232 := hz35232
        have qz35203 := (yz35232 _ 5 (Or.inr (by decide)) (Or.inr (by decide)) (Or.inr (by decide))).trans qz35203
        have qz35205 := (yz35232 _ 1 (Or.inr (by decide)) (Or.inr (by decide)) (Or.inr (by decide))).trans qz35205
        have pf0 := (yz35232 _ 0 (Or.inr (by decide)) (Or.inr (by decide)) (Or.inr (by decide))).trans pf0
        have v35207 := (yz35232 _ 4 (Or.inr (by decide)) (Or.inr (by decide)) (Or.inr (by decide))).trans v35207
        have hfr : ∀ b j : Nat, (tag b ≠ 24 ∨ j ≠ 2) → (tag b ≠ 24 ∨ j ≠ 3) → (tag b ≠ 24 ∨ j ≠ 4) → (tag b ≠ 24 ∨ j ≠ 5) → (tag b ≠ 24 ∨ j ≠ 6) → (tag b ≠ 24 ∨ j ≠ 7) → fld F b j = fld Fo b j := fun b j n24_2 n24_3 n24_4 n24_5 n24_6 n24_7 => (yz35232 b j n24_2 n24_3 n24_7).trans (hfr b j n24_2 n24_3 n24_4 n24_5 n24_6 n24_7)
        refine lv_goto (tgt := 139) hx hb dX8_advance_86 (by decide) ?_
        exact t_vret hQ X hT hfr (Nat.le_of_ble_eq_true rfl) (Nat.le_of_ble_eq_true rfl) dX8_advance_139
    · have w35233 := cv_eq (rfl : z35209.toInt = z35209.toInt) (by decide : ((-1) : Int32).toInt = (-1)) c35210
      refine lv_aload_n hx hb dX8_advance_67 rfl (lv_at hl 1 rfl) ?_
      refine lv_iconst (v := 0) hx hb dX8_advance_68 (by decide) ?_
      refine t_put (C := RX8) (T := TX8) (N := 8) (v := .int 0) X hT m0 g0 rfl tyX8 tyX8_ok nmX8 rfl 3 (by decide) qw_202 inlX8 rfl (by first | rfl | decide) (by first | rfl | decide) rfl (⟨_, rfl, (show (-2147483648) ≤ (0 : Int32).toInt from (by decide)), (show (0 : Int32).toInt ≤ 2147483647 from (by decide))⟩) dX8_advance_69 (fun F H locs hT v35234 h1v35234 h2v35234 => ?_)
      have qz35203 := (h1v35234 _ _ (Or.inr (by decide))).trans qz35203
      have qz35204 := (h1v35234 _ _ (Or.inr (by decide))).trans qz35204
      have qz35205 := (h1v35234 _ _ (Or.inr (by decide))).trans qz35205
      have pf0 := (h1v35234 _ _ (Or.inr (by decide))).trans pf0
      have v35207 := (h1v35234 _ _ (Or.inr (by decide))).trans v35207
      have hfr : ∀ b j : Nat, (tag b ≠ 24 ∨ j ≠ 2) → (tag b ≠ 24 ∨ j ≠ 3) → (tag b ≠ 24 ∨ j ≠ 4) → (tag b ≠ 24 ∨ j ≠ 5) → (tag b ≠ 24 ∨ j ≠ 6) → (tag b ≠ 24 ∨ j ≠ 7) → fld F b j = fld Fo b j := fun b j n24_2 n24_3 n24_4 n24_5 n24_6 n24_7 => (h1v35234 b j (fr_ne g0 n24_3)).trans (hfr b j n24_2 n24_3 n24_4 n24_5 n24_6 n24_7)
      refine lv_goto (tgt := 139) hx hb dX8_advance_72 (by decide) ?_
      exact t_vret hQ X hT hfr (Nat.le_of_ble_eq_true rfl) (Nat.le_of_ble_eq_true rfl) dX8_advance_139
  have K8 : ∀ (n : Nat) (z35235 : Int32) (z35236 : Int32) (z35237 : Int32) (F : Nat → va_E) (H : Heap) (locs : List Loc) (ls : Array Slot), (1000 - z35237.toInt < (n : Int)) → (0 ≤ z35235.toInt ∧ z35235.toInt ≤ 1000) → (0 ≤ z35236.toInt ∧ z35236.toInt ≤ 1000) → (0 ≤ z35237.toInt ∧ z35237.toInt ≤ 1000) → TH G ttC A s tag L F H locs → (∀ b j : Nat, (tag b ≠ 24 ∨ j ≠ 2) → (tag b ≠ 24 ∨ j ≠ 3) → (tag b ≠ 24 ∨ j ≠ 4) → (tag b ≠ 24 ∨ j ≠ 5) → (tag b ≠ 24 ∨ j ≠ 6) → (tag b ≠ 24 ∨ j ≠ 7) → fld F b j = fld Fo b j) → fld F p0 0 = .ref x0 → fld F p0 4 = .int z35235 → fld F p0 5 = .int z35236 → fld F p0 2 = .int z35237 → lv_has ls 2 [(0, .ref p0)] → W p l e { frames := 2, cells := 0, slots := 0, locals := 41 } s m args below meth c H locs 0 0 Q (F0 m 8 ls []) := by
    intro n
    induction n with
    | zero =>
      intro z35235 z35236 z35237 F H locs ls hn rz35235 rz35236 rz35237 hT hfr pf0 qz35235 qz35236 qz35237 hl
      exfalso
      omega
    | succ n ih8 =>
      intro z35235 z35236 z35237 F H locs ls hn rz35235 rz35236 rz35237 hT hfr pf0 qz35235 qz35236 qz35237 hl
      refine lv_aload_n hx hb dX8_advance_8 rfl (lv_at hl 0 rfl) ?_
      refine t_get (C := RX8) (T := TX8) (N := 8) X hT m0 g0 rfl rfl 2 (by decide) qw_195 inlX8 rfl dX8_advance_9 (fun v35238 hv35238 ov35238 => ?_)
      obtain rfl : v35238 = .int z35237 := hv35238.symm.trans qz35237
      refine lv_aload_n hx hb dX8_advance_12 rfl (lv_at hl 0 rfl) ?_
      refine t_get (C := RX8) (T := TX8) (N := 8) X hT m0 g0 rfl rfl 1 (by decide) qw_194 inlX8 rfl dX8_advance_13 (fun v35239 hv35239 ov35239 => ?_)
      obtain ⟨z35240, rfl, rz35240⟩ := okV_i ov35239
      refine lv_icmp_ge (tgt := 45) hx hb dX8_advance_16 (by decide) (fun c35241 => ?_) (fun c35241 => ?_)
      · have w35242 := cv_le (rfl : z35240.toInt = z35240.toInt) (rfl : z35237.toInt = z35237.toInt) c35241
        exact K45 z35235 z35236 z35237 z35240 _ _ _ _ (by omega) (by omega) (by omega) (by omega) hT hfr pf0 qz35235 qz35236 qz35237 hv35239 (lv_sub hl [0] rfl)
      · have w35243 := cv_nle (rfl : z35240.toInt = z35240.toInt) (rfl : z35237.toInt = z35237.toInt) c35241
        refine lv_aload_n hx hb dX8_advance_19 rfl (lv_at hl 0 rfl) ?_
        refine lv_aload_n hx hb dX8_advance_20 rfl (lv_at hl 0 rfl) ?_
        refine t_get (C := RX8) (T := TX8) (N := 8) X hT m0 g0 rfl rfl 2 (by decide) qw_195 inlX8 rfl dX8_advance_21 (fun v35244 hv35244 ov35244 => ?_)
        obtain rfl : v35244 = .int z35237 := hv35244.symm.trans qz35237
        refine t_cVi (n := 1) (C := RX8) (T := TX8) (N := 8) (As := [.int z35237]) (rest := []) X hT (kt93_X8_byteAt l G tag L F hT.2.2.2 p0 z35237 x0 m0 g0 mx0 gx0 pf0) m0 g0 rfl rfl qw_204 qw_205 qw_206 qw_72 qw_207 ⟨rfl, by decide +kernel, by decide +kernel, by decide +kernel⟩ ⟨Nat.le_of_ble_eq_true rfl, Nat.le_of_ble_eq_true rfl⟩ hl rfl rfl (Nat.le_of_ble_eq_true rfl) dX8_advance_24 ⟨Nat.le_of_ble_eq_true rfl, Nat.le_of_ble_eq_true rfl⟩ (fun z35245 F9 H locs hT hz35245 => ?_)
        obtain ⟨fz35245, hz35245⟩ := hz35245
        rw [fz35245] at hT
        obtain ⟨hz35245, iz35245⟩ := hz35245
        refine lv_bipush (v := 32) hx hb dX8_advance_27 (by decide) ?_
        refine lv_icmp_ne (tgt := 45) hx hb dX8_advance_29 (by decide) (fun c35246 => ?_) (fun c35246 => ?_)
        · have w35247 := cv_ne (rfl : z35245.toInt = z35245.toInt) (by decide : (32 : Int32).toInt = 32) c35246
          exact K45 z35235 z35236 z35237 z35240 _ _ _ _ (by omega) (by omega) (by omega) (by omega) hT hfr pf0 qz35235 qz35236 qz35237 hv35239 (lv_sub hl [0] rfl)
        · have w35248 := cv_eq (rfl : z35245.toInt = z35245.toInt) (by decide : (32 : Int32).toInt = 32) c35246
          have w35249 := (fun h => (iz35245 h)) (by omega)
          refine lv_aload_n hx hb dX8_advance_32 rfl (lv_at hl 0 rfl) ?_
          refine lv_dup hx hb dX8_advance_33 rfl ?_
          refine t_get (C := RX8) (T := TX8) (N := 8) X hT m0 g0 rfl rfl 2 (by decide) qw_195 inlX8 rfl dX8_advance_34 (fun v35250 hv35250 ov35250 => ?_)
          obtain rfl : v35250 = .int z35237 := hv35250.symm.trans qz35237
          refine lv_iconst (v := 1) hx hb dX8_advance_37 (by decide) ?_
          refine lv_iadd hx hb dX8_advance_38 ?_
          refine lv_topi (fun z35251 ez35251 => ?_)
          have hz35251 : z35251.toInt = z35237.toInt + 1 := ar_add ez35251 (rfl : z35237.toInt = z35237.toInt) (by decide : (1 : Int32).toInt = 1) (by omega) (by omega)
          have rz35251 : 1 ≤ z35251.toInt ∧ z35251.toInt ≤ 1000 := by omega
          refine t_put (C := RX8) (T := TX8) (N := 8) (v := .int z35251) X hT m0 g0 rfl tyX8 tyX8_ok nmX8 rfl 2 (by decide) qw_195 inlX8 rfl (by first | rfl | decide) (by first | rfl | decide) rfl (⟨_, rfl, (show 0 ≤ (z35251 : Int32).toInt from (by omega)), (show (z35251 : Int32).toInt ≤ 1000 from (by omega))⟩) dX8_advance_39 (fun F H locs hT v35252 h1v35252 h2v35252 => ?_)
          have qz35235 := (h1v35252 _ _ (Or.inr (by decide))).trans qz35235
          have qz35236 := (h1v35252 _ _ (Or.inr (by decide))).trans qz35236
          have pf0 := (h1v35252 _ _ (Or.inr (by decide))).trans pf0
          have hv35239 := (h1v35252 _ _ (Or.inr (by decide))).trans hv35239
          have hfr : ∀ b j : Nat, (tag b ≠ 24 ∨ j ≠ 2) → (tag b ≠ 24 ∨ j ≠ 3) → (tag b ≠ 24 ∨ j ≠ 4) → (tag b ≠ 24 ∨ j ≠ 5) → (tag b ≠ 24 ∨ j ≠ 6) → (tag b ≠ 24 ∨ j ≠ 7) → fld F b j = fld Fo b j := fun b j n24_2 n24_3 n24_4 n24_5 n24_6 n24_7 => (h1v35252 b j (fr_ne g0 n24_2)).trans (hfr b j n24_2 n24_3 n24_4 n24_5 n24_6 n24_7)
          refine lv_goto (tgt := 8) hx hb dX8_advance_42 (by decide) ?_
          exact ih8 z35235 z35236 z35251 _ _ _ _ (by omega) (by omega) (by omega) (by omega) hT hfr pf0 qz35235 qz35236 v35252 (lv_sub hl [0] rfl)
  refine lv_aload_n hx hb dX8_advance_0 rfl (lv_at hl 0 rfl) ?_
  refine lv_aload_n hx hb dX8_advance_1 rfl (lv_at hl 0 rfl) ?_
  refine t_get (C := RX8) (T := TX8) (N := 8) X hT m0 g0 rfl rfl 4 (by decide) qw_200 inlX8 rfl dX8_advance_2 (fun v35253 hv35253 ov35253 => ?_)
  obtain ⟨z35254, rfl, rz35254⟩ := okV_i ov35253
  refine t_put (C := RX8) (T := TX8) (N := 8) (v := .int z35254) X hT m0 g0 rfl tyX8 tyX8_ok nmX8 rfl 5 (by decide) qw_201 inlX8 rfl (by first | rfl | decide) (by first | rfl | decide) rfl (⟨_, rfl, (show (-2147483648) ≤ (z35254 : Int32).toInt from (by omega)), (show (z35254 : Int32).toInt ≤ 2147483647 from (by omega))⟩) dX8_advance_5 (fun F H locs hT v35255 h1v35255 h2v35255 => ?_)
  have pf0 := (h1v35255 _ _ (Or.inr (by decide))).trans pf0
  have hv35253 := (h1v35255 _ _ (Or.inr (by decide))).trans hv35253
  have hfr : ∀ b j : Nat, (tag b ≠ 24 ∨ j ≠ 2) → (tag b ≠ 24 ∨ j ≠ 3) → (tag b ≠ 24 ∨ j ≠ 4) → (tag b ≠ 24 ∨ j ≠ 5) → (tag b ≠ 24 ∨ j ≠ 6) → (tag b ≠ 24 ∨ j ≠ 7) → fld F b j = fld Fo b j := fun b j n24_2 n24_3 n24_4 n24_5 n24_6 n24_7 => (h1v35255 b j (fr_ne g0 n24_5)).trans (hfr b j n24_2 n24_3 n24_4 n24_5 n24_6 n24_7)
  obtain ⟨z35256, qz35256, rz35256⟩ := t_fld hT m0 g0 rfl 2 rfl
  have rz35256 : 0 ≤ z35256.toInt ∧ z35256.toInt ≤ 1000 := rz35256
  exact K8 1001 z35254 z35254 z35256 _ _ _ _ (by omega) (by omega) (by omega) (by omega) hT hfr pf0 hv35253 v35255 qz35256 (lv_sub hl [0] rfl)
set_option maxHeartbeats 4000000 in
set_option maxRecDepth 100000 in
theorem kt99_X5_begin (l : Launch) (G : KG) (tag : Nat → Nat) (L : List Nat) (Fo : Nat → va_E) (ho : okT G ttC tag L Fo) (p0 : Nat) (p1 : Int32) (m0 : p0 ∈ L) (g0 : tag p0 = 11) (h1 : 0 ≤ p1.toInt ∧ p1.toInt ≤ 6) : TMv l yX5_begin cX5_begin 3 { frames := 0, cells := 0, slots := 0, locals := 0 } G ttC tag L Fo [.ref p0, .int p1] (fun F1 => ∀ b j : Nat, fld F1 b j = fld Fo b j) := by
  refine t_bodyv (y := yX5_begin) (cd := cX5_begin) (mL := 3) (rm := { frames := 0, cells := 0, slots := 0, locals := 0 }) (av := [.ref p0, .int p1]) (by decide) (Nat.le_of_ble_eq_true rfl) ho ?_
  intro p e s m args below meth c ls A Q hQ X hT hl
  have hx := X.1.1
  have hb := X.1.2.1
  have hl : lv_has ls 3 [(0, .ref p0), (1, .int p1)] := hl
  obtain ⟨F, hFo⟩ : ∃ F : Nat → va_E, F = Fo := ⟨_, rfl⟩
  rw [← hFo] at hT
  have hfr : ∀ b j : Nat, fld F b j = fld Fo b j := by
    rw [hFo]
    intros
    rfl
  have K2 : ∀ (n : Nat) (z35581 : Int32) (F : Nat → va_E) (H : Heap) (locs : List Loc) (ls : Array Slot), (6 - z35581.toInt < (n : Int)) → (0 ≤ z35581.toInt ∧ z35581.toInt ≤ 6) → TH G ttC A s tag L F H locs → (∀ b j : Nat, fld F b j = fld Fo b j) → lv_has ls 3 [(0, .ref p0), (1, .int p1), (2, .int z35581)] → W p l e { frames := 0, cells := 0, slots := 0, locals := 0 } s m args below meth c H locs 0 0 Q (F0 m 2 ls []) := by
    intro n
    induction n with
    | zero =>
      intro z35581 F H locs ls hn rz35581 hT hfr hl
      exfalso
      omega
    | succ n ih2 =>
      intro z35581 F H locs ls hn rz35581 hT hfr hl
      refine lv_iload_n hx hb dX5_begin_2 rfl (lv_at hl 2 rfl) ?_
      refine lv_iload_n hx hb dX5_begin_3 rfl (lv_at hl 1 rfl) ?_
      refine lv_icmp_ge (tgt := 23) hx hb dX5_begin_4 (by decide) (fun c35582 => ?_) (fun c35582 => ?_)
      · have w35583 := cv_le (rfl : p1.toInt = p1.toInt) (rfl : z35581.toInt = z35581.toInt) c35582
        exact t_vret hQ X hT hfr (Nat.le_of_ble_eq_true rfl) (Nat.le_of_ble_eq_true rfl) dX5_begin_23
      · have w35584 := cv_nle (rfl : p1.toInt = p1.toInt) (rfl : z35581.toInt = z35581.toInt) c35582
        refine lv_iload_n hx hb dX5_begin_7 rfl (lv_at hl 2 rfl) ?_
        refine lv_aload_n hx hb dX5_begin_8 rfl (lv_at hl 0 rfl) ?_
        refine t_alen X hT m0 g0 rfl (by decide) dX5_begin_9 ?_
        refine lv_topi (fun z35585 ez35585 => ?_)
        obtain rfl : z35585 = 6 := ez35585.trans (by rfl)
        refine lv_icmp_ge (tgt := 23) hx hb dX5_begin_10 (by decide) (fun c35586 => ?_) (fun c35586 => ?_)
        · have w35587 := cv_le (by decide : (6 : Int32).toInt = 6) (rfl : z35581.toInt = z35581.toInt) c35586
          exfalso
          omega
        · have w35588 := cv_nle (by decide : (6 : Int32).toInt = 6) (rfl : z35581.toInt = z35581.toInt) c35586
          refine lv_aload_n hx hb dX5_begin_13 rfl (lv_at hl 0 rfl) ?_
          refine lv_iload_n hx hb dX5_begin_14 rfl (lv_at hl 2 rfl) ?_
          refine lv_iload_n hx hb dX5_begin_15 rfl (lv_at hl 2 rfl) ?_
          refine t_ist X hT m0 g0 rfl (by omega) (show 0 ≤ (z35581 : Int32).toInt ∧ (z35581 : Int32).toInt ≤ 5 from (by omega)) dX5_begin_16 (fun F H locs hT v35589 h1v35589 h2v35589 => ?_)
          have hfr : ∀ b j : Nat, fld F b j = fld Fo b j := fun b j  => (h2v35589 b j).trans (hfr b j )
          obtain ⟨z35590, ez35590⟩ : ∃ y : Int32, y = z35581 + 1 := ⟨_, rfl⟩
          have hz35590 : z35590.toInt = z35581.toInt + 1 := ar_add ez35590 rfl (by decide : (1 : Int32).toInt = 1) (by omega) (by omega)
          refine lv_iinc (v := z35590) (lv' := [(2, .int z35590), (0, .ref p0), (1, .int p1)]) hx hb dX5_begin_17 hl (k := 2) rfl (by rw [ez35590]; rfl) (by decide) rfl (fun ls hl => ?_)
          refine lv_goto (tgt := 2) hx hb dX5_begin_20 (by decide) ?_
          exact ih2 z35590 _ _ _ _ (by omega) (by omega) hT hfr  (lv_sub hl [1, 2, 0] rfl)
  refine lv_iconst (v := 0) hx hb dX5_begin_0 (by decide) ?_
  refine lv_istore_n (lv' := [(2, .int 0), (0, .ref p0), (1, .int p1)]) hx hb dX5_begin_1 rfl hl (by decide) rfl (fun ls hl => ?_)
  have kk35591 : (0 : Int32).toInt = 0 := by decide
  exact K2 7 0 _ _ _ _ (by omega) (by decide) hT hfr  (lv_sub hl [1, 2, 0] rfl)
set_option maxHeartbeats 4000000 in
set_option maxRecDepth 100000 in
theorem kt100_X9_lastFor (l : Launch) (G : KG) (tag : Nat → Nat) (L : List Nat) (F : Nat → va_E) (ho : okT G ttC tag L F) (p0 : Nat) (p1 : Int32) (p2 : Int32) (m0 : p0 ∈ L) (g0 : tag p0 = 18) (h2 : 0 ≤ p2.toInt ∧ p2.toInt ≤ 5) : TMi l yX9_lastFor cX9_lastFor 4 (some .int) { frames := 1, cells := 0, slots := 0, locals := 13 } G ttC tag L F [.ref p0, .int p1, .int p2] (fun r F1 => F1 = F ∧ ((-2147483648) ≤ r.toInt ∧ r.toInt ≤ 2147483647)) := by
  refine t_bodyi (y := yX9_lastFor) (cd := cX9_lastFor) (mL := 4) (rt := (some .int)) (rm := { frames := 1, cells := 0, slots := 0, locals := 13 }) (av := [.ref p0, .int p1, .int p2]) (by decide) (Nat.le_of_ble_eq_true rfl) ho ?_
  intro p e s m args below meth c ls A Q hQ X hT hl
  have hx := X.1.1
  have hb := X.1.2.1
  have hl : lv_has ls 4 [(0, .ref p0), (1, .int p1), (2, .int p2)] := hl
  have rp1 := rg_all p1
  refine lv_iload_n hx hb dX9_lastFor_0 rfl (lv_at hl 1 rfl) ?_
  refine lv_iconst (v := 1) hx hb dX9_lastFor_1 (by decide) ?_
  refine lv_isub hx hb dX9_lastFor_2 ?_
  refine lv_topi (fun z35773 ez35773 => ?_)
  have rz35773 := rg_all z35773
  refine lv_istore_n (lv' := [(3, .int z35773), (0, .ref p0), (1, .int p1), (2, .int p2)]) hx hb dX9_lastFor_3 rfl hl (by decide) rfl (fun ls hl => ?_)
  refine lv_aload_n hx hb dX9_lastFor_4 rfl (lv_at hl 1 rfl) ?_
  refine t_get (C := RX1) (T := TX1) (N := 20) X hT m0 g0 rfl rfl 19 (by decide) qw_1350 inlX1 rfl dX9_lastFor_5 (fun v35774 hv35774 ov35774 => ?_)
  obtain ⟨b35775, rfl, mb35775, gb35775⟩ := okV_r ov35774
  have gb35775 : tag b35775 = 7 := tg_of gb35775
  refine lv_iload_n hx hb dX9_lastFor_8 rfl (lv_at hl 3 rfl) ?_
  refine t_ild X hT mb35775 gb35775 rfl (by omega) dX9_lastFor_9 (fun z35776 vz35776 rz35776 => ?_)
  have rz35776 : (-2147483648) ≤ z35776.toInt ∧ z35776.toInt ≤ 2147483647 := rz35776
  refine lv_iconst (v := (-1)) hx hb dX9_lastFor_10 (by decide) ?_
  refine lv_icmp_ne (tgt := 18) hx hb dX9_lastFor_11 (by decide) (fun c35777 => ?_) (fun c35777 => ?_)
  · have w35778 := cv_ne (rfl : z35776.toInt = z35776.toInt) (by decide : ((-1) : Int32).toInt = (-1)) c35777
    refine lv_iload_n hx hb dX9_lastFor_18 rfl (lv_at hl 0 rfl) ?_
    refine lv_aload_n hx hb dX9_lastFor_19 rfl (lv_at hl 1 rfl) ?_
    refine t_get (C := RX1) (T := TX1) (N := 20) X hT m0 g0 rfl rfl 19 (by decide) qw_1350 inlX1 rfl dX9_lastFor_20 (fun v35779 hv35779 ov35779 => ?_)
    obtain rfl : v35779 = .ref b35775 := hv35779.symm.trans hv35774
    refine lv_iload_n hx hb dX9_lastFor_23 rfl (lv_at hl 3 rfl) ?_
    refine t_ild X hT mb35775 gb35775 rfl (by omega) dX9_lastFor_24 (fun z35780 vz35780 rz35780 => ?_)
    obtain rfl : z35776 = z35780 := vz35776.symm.trans vz35780
    refine lv_iconst (v := 1) hx hb dX9_lastFor_25 (by decide) ?_
    refine lv_isub hx hb dX9_lastFor_26 ?_
    refine lv_topi (fun z35781 ez35781 => ?_)
    have rz35781 := rg_all z35781
    refine t_mmin X hl qw_1351 qw_1018 qw_850 qw_1019 (Nat.le_of_ble_eq_true rfl) (Nat.le_of_ble_eq_true rfl) (Nat.le_of_ble_eq_true rfl) (Nat.le_of_ble_eq_true rfl) dX9_lastFor_27 (fun z35782 ez35782 => ?_)
    have hz35782 := mmin_e ez35782 (rfl : z35773.toInt = z35773.toInt) (rfl : z35781.toInt = z35781.toInt)
    exact t_iret hQ X hT (⟨rfl, rg_all _⟩) (Nat.le_of_ble_eq_true rfl) (Nat.le_of_ble_eq_true rfl) dX9_lastFor_30
  · have w35783 := cv_eq (rfl : z35776.toInt = z35776.toInt) (by decide : ((-1) : Int32).toInt = (-1)) c35777
    refine lv_iload_n hx hb dX9_lastFor_14 rfl (lv_at hl 0 rfl) ?_
    refine lv_goto (tgt := 30) hx hb dX9_lastFor_15 (by decide) ?_
    exact t_iret hQ X hT (⟨rfl, rg_all _⟩) (Nat.le_of_ble_eq_true rfl) (Nat.le_of_ble_eq_true rfl) dX9_lastFor_30
set_option maxHeartbeats 4000000 in
set_option maxRecDepth 100000 in
theorem kt101_X9_canBe (l : Launch) (G : KG) (tag : Nat → Nat) (L : List Nat) (Fo : Nat → va_E) (ho : okT G ttC tag L Fo) (p0 : Nat) (p1 : Nat) (p2 : Int32) (m0 : p0 ∈ L) (g0 : tag p0 = 22) (m1 : p1 ∈ L) (g1 : tag p1 = 18) : TMi l yX9_canBe cX9_canBe 8 (some .boolean) { frames := 2, cells := 0, slots := 0, locals := 36 } G ttC tag L Fo [.ref p0, .ref p1, .int p2] (fun r F1 => (0 ≤ r.toInt ∧ r.toInt ≤ 1) ∧ (∀ b j : Nat, fld F1 b j = fld Fo b j)) := by
  refine t_bodyi (y := yX9_canBe) (cd := cX9_canBe) (mL := 8) (rt := (some .boolean)) (rm := { frames := 2, cells := 0, slots := 0, locals := 36 }) (av := [.ref p0, .ref p1, .int p2]) (by decide) (Nat.le_of_ble_eq_true rfl) ho ?_
  intro p e s m args below meth c ls A Q hQ X hT hl
  have hx := X.1.1
  have hb := X.1.2.1
  have hl : lv_has ls 8 [(0, .ref p0), (1, .ref p1), (2, .int p2)] := hl
  have rp2 := rg_all p2
  obtain ⟨F, hFo⟩ : ∃ F : Nat → va_E, F = Fo := ⟨_, rfl⟩
  rw [← hFo] at hT
  have hfr : ∀ b j : Nat, fld F b j = fld Fo b j := by
    rw [hFo]
    intros
    rfl
  have K8 : ∀ (n : Nat) (z36324 : Int32) (z36325 : Int32) (z36326 : Int32) (F : Nat → va_E) (H : Heap) (locs : List Loc) (ls : Array Slot), (6 - z36326.toInt < (n : Int)) → (0 ≤ z36326.toInt ∧ z36326.toInt ≤ 6) → TH G ttC A s tag L F H locs → (∀ b j : Nat, fld F b j = fld Fo b j) → lv_has ls 8 [(0, .ref p0), (1, .ref p1), (2, .int p2), (3, .int z36324), (4, .int z36325), (5, .int z36326)] → W p l e { frames := 2, cells := 0, slots := 0, locals := 36 } s m args below meth c H locs 0 0 Q (F0 m 8 ls []) := by
    intro n
    induction n with
    | zero =>
      intro z36324 z36325 z36326 F H locs ls hn rz36326 hT hfr hl
      have rz36324 := rg_all z36324
      have rz36325 := rg_all z36325
      exfalso
      omega
    | succ n ih8 =>
      intro z36324 z36325 z36326 F H locs ls hn rz36326 hT hfr hl
      have rz36324 := rg_all z36324
      have rz36325 := rg_all z36325
      refine lv_iload hx hb dX9_canBe_8 (lv_at hl 5 rfl) ?_
      refine lv_aload_n hx hb dX9_canBe_10 rfl (lv_at hl 1 rfl) ?_
      refine t_get (C := RX1) (T := TX1) (N := 20) X hT m1 g1 rfl rfl 16 (by decide) qw_1338 inlX1 rfl dX9_canBe_11 (fun v36327 hv36327 ov36327 => ?_)
      obtain ⟨z36328, rfl, rz36328⟩ := okV_i ov36327
      refine lv_icmp_ge (tgt := 98) hx hb dX9_canBe_14 (by decide) (fun c36329 => ?_) (fun c36329 => ?_)
      · have w36330 := cv_le (rfl : z36328.toInt = z36328.toInt) (rfl : z36326.toInt = z36326.toInt) c36329
        refine lv_iconst (v := 1) hx hb dX9_canBe_98 (by decide) ?_
        exact t_zret hQ X hT (by decide) (⟨(by decide), hfr⟩) (Nat.le_of_ble_eq_true rfl) (Nat.le_of_ble_eq_true rfl) dX9_canBe_99
      · have w36331 := cv_nle (rfl : z36328.toInt = z36328.toInt) (rfl : z36326.toInt = z36326.toInt) c36329
        refine lv_aload_n hx hb dX9_canBe_17 rfl (lv_at hl 0 rfl) ?_
        refine t_get (C := RX9) (T := TX9) (N := 6) X hT m0 g0 rfl rfl 0 (by decide) qw_93 inlX9 rfl dX9_canBe_18 (fun v36332 hv36332 ov36332 => ?_)
        obtain ⟨b36333, rfl, mb36333, gb36333⟩ := okV_r ov36332
        have gb36333 : tag b36333 = 11 := tg_of gb36333
        refine lv_iload hx hb dX9_canBe_21 (lv_at hl 5 rfl) ?_
        refine t_ild X hT mb36333 gb36333 rfl (by omega) dX9_canBe_23 (fun z36334 vz36334 rz36334 => ?_)
        have rz36334 : 0 ≤ z36334.toInt ∧ z36334.toInt ≤ 5 := rz36334
        refine lv_istore (lv' := [(6, .int z36334), (0, .ref p0), (1, .ref p1), (2, .int p2), (3, .int z36324), (4, .int z36325), (5, .int z36326)]) hx hb dX9_canBe_24 hl (by decide) rfl (fun ls hl => ?_)
        refine lv_aload_n hx hb dX9_canBe_26 rfl (lv_at hl 2 rfl) ?_
        refine t_get (C := RX1) (T := TX1) (N := 20) X hT m1 g1 rfl rfl 17 (by decide) qw_1344 inlX1 rfl dX9_canBe_27 (fun v36335 hv36335 ov36335 => ?_)
        obtain ⟨b36336, rfl, mb36336, gb36336⟩ := okV_r ov36335
        have gb36336 : tag b36336 = 7 := tg_of gb36336
        refine lv_iload hx hb dX9_canBe_30 (lv_at hl 0 rfl) ?_
        refine t_ild X hT mb36336 gb36336 rfl (by omega) dX9_canBe_32 (fun z36337 vz36337 rz36337 => ?_)
        have rz36337 : (-2147483648) ≤ z36337.toInt ∧ z36337.toInt ≤ 2147483647 := rz36337
        refine lv_iload_n hx hb dX9_canBe_33 rfl (lv_at hl 4 rfl) ?_
        refine lv_iconst (v := (-1)) hx hb dX9_canBe_34 (by decide) ?_
        refine lv_ixor hx hb dX9_canBe_35 ?_
        refine lv_topi (fun z36338 ez36338 => ?_)
        have rz36338 := rg_all z36338
        refine lv_iand hx hb dX9_canBe_36 ?_
        refine lv_topi (fun z36339 ez36339 => ?_)
        have rz36339 := rg_all z36339
        refine lv_if_eq (tgt := 42) hx hb dX9_canBe_37 (by decide) (fun c36340 => ?_) (fun c36340 => ?_)
        · have w36341 := cv_eq (rfl : z36339.toInt = z36339.toInt) (by decide : (0 : Int32).toInt = 0) c36340
          refine lv_iload hx hb dX9_canBe_42 (lv_at hl 5 rfl) ?_
          refine lv_aload_n hx hb dX9_canBe_44 rfl (lv_at hl 2 rfl) ?_
          refine t_get (C := RX1) (T := TX1) (N := 20) X hT m1 g1 rfl rfl 18 (by decide) qw_1345 inlX1 rfl dX9_canBe_45 (fun v36342 hv36342 ov36342 => ?_)
          obtain ⟨b36343, rfl, mb36343, gb36343⟩ := okV_r ov36342
          have gb36343 : tag b36343 = 7 := tg_of gb36343
          refine lv_iload hx hb dX9_canBe_48 (lv_at hl 0 rfl) ?_
          refine t_ild X hT mb36343 gb36343 rfl (by omega) dX9_canBe_50 (fun z36344 vz36344 rz36344 => ?_)
          have rz36344 : (-2147483648) ≤ z36344.toInt ∧ z36344.toInt ≤ 2147483647 := rz36344
          refine t_mmax X hl qw_1346 qw_849 qw_850 qw_851 (Nat.le_of_ble_eq_true rfl) (Nat.le_of_ble_eq_true rfl) (Nat.le_of_ble_eq_true rfl) (Nat.le_of_ble_eq_true rfl) dX9_canBe_51 (fun z36345 ez36345 => ?_)
          have hz36345 := mmax_e ez36345 (rfl : z36325.toInt = z36325.toInt) (rfl : z36344.toInt = z36344.toInt)
          refine lv_istore (lv' := [(7, .int z36345), (6, .int z36334), (0, .ref p0), (1, .ref p1), (2, .int p2), (3, .int z36324), (4, .int z36325), (5, .int z36326)]) hx hb dX9_canBe_54 hl (by decide) rfl (fun ls hl => ?_)
          refine lv_iload hx hb dX9_canBe_56 (lv_at hl 0 rfl) ?_
          refine lv_aload_n hx hb dX9_canBe_58 rfl (lv_at hl 3 rfl) ?_
          refine lv_iload_n hx hb dX9_canBe_59 rfl (lv_at hl 4 rfl) ?_
          refine lv_iload hx hb dX9_canBe_60 (lv_at hl 1 rfl) ?_
          refine t_cSi (n := 3) (As := [.ref p1, .int p2, .int z36334]) (rest := [.int z36345]) X hT (kt100_X9_lastFor l G tag L F hT.2.2.2 p1 p2 z36334 m1 g1 (by omega)) qw_1347 qw_1348 qw_40 qw_1349 ⟨by decide +kernel, by decide +kernel, by decide +kernel⟩ ⟨Nat.le_of_ble_eq_true rfl, Nat.le_of_ble_eq_true rfl⟩ hl rfl rfl (Nat.le_of_ble_eq_true rfl) dX9_canBe_62 ⟨Nat.le_of_ble_eq_true rfl, Nat.le_of_ble_eq_true rfl⟩ (fun z36346 F9 H locs hT hz36346 => ?_)
          obtain ⟨fz36346, hz36346⟩ := hz36346
          rw [fz36346] at hT
          refine lv_icmp_le (tgt := 70) hx hb dX9_canBe_65 (by decide) (fun c36347 => ?_) (fun c36347 => ?_)
          · have w36348 := cv_le (rfl : z36345.toInt = z36345.toInt) (rfl : z36346.toInt = z36346.toInt) c36347
            refine lv_aload_n hx hb dX9_canBe_70 rfl (lv_at hl 2 rfl) ?_
            refine t_get (C := RX9) (T := TX9) (N := 6) X hT m0 g0 rfl rfl 1 (by decide) qw_94 inlX9 rfl dX9_canBe_71 (fun v36349 hv36349 ov36349 => ?_)
            obtain ⟨b36350, rfl, mb36350, gb36350⟩ := okV_r ov36349
            have gb36350 : tag b36350 = 7 := tg_of gb36350
            refine lv_iload hx hb dX9_canBe_74 (lv_at hl 7 rfl) ?_
            refine lv_iload hx hb dX9_canBe_76 (lv_at hl 0 rfl) ?_
            refine t_ist X hT mb36350 gb36350 rfl (by omega) (show (-2147483648) ≤ (z36345 : Int32).toInt ∧ (z36345 : Int32).toInt ≤ 2147483647 from (by omega)) dX9_canBe_78 (fun F H locs hT v36351 h1v36351 h2v36351 => ?_)
            have hv36327 := (h2v36351 _ _).trans hv36327
            have hv36332 := (h2v36351 _ _).trans hv36332
            have hv36335 := (h2v36351 _ _).trans hv36335
            have hv36342 := (h2v36351 _ _).trans hv36342
            have hv36349 := (h2v36351 _ _).trans hv36349
            have hfr : ∀ b j : Nat, fld F b j = fld Fo b j := fun b j  => (h2v36351 b j).trans (hfr b j )
            refine lv_iload hx hb dX9_canBe_79 (lv_at hl 0 rfl) ?_
            refine lv_iconst (v := 1) hx hb dX9_canBe_81 (by decide) ?_
            refine lv_iadd hx hb dX9_canBe_82 ?_
            refine lv_topi (fun z36352 ez36352 => ?_)
            have rz36352 := rg_all z36352
            refine lv_istore (lv' := [(4, .int z36352), (7, .int z36345), (6, .int z36334), (0, .ref p0), (1, .ref p1), (2, .int p2), (3, .int z36324), (5, .int z36326)]) hx hb dX9_canBe_83 hl (by decide) rfl (fun ls hl => ?_)
            refine lv_iload_n hx hb dX9_canBe_85 rfl (lv_at hl 6 rfl) ?_
            refine lv_iconst (v := 1) hx hb dX9_canBe_86 (by decide) ?_
            refine lv_iload hx hb dX9_canBe_87 (lv_at hl 2 rfl) ?_
            refine lv_ishl hx hb dX9_canBe_89 ?_
            refine lv_topi (fun z36353 ez36353 => ?_)
            have rz36353 := rg_all z36353
            refine lv_ior hx hb dX9_canBe_90 ?_
            refine lv_topi (fun z36354 ez36354 => ?_)
            have rz36354 := rg_all z36354
            refine lv_istore_n (lv' := [(3, .int z36354), (4, .int z36352), (7, .int z36345), (6, .int z36334), (0, .ref p0), (1, .ref p1), (2, .int p2), (5, .int z36326)]) hx hb dX9_canBe_91 rfl hl (by decide) rfl (fun ls hl => ?_)
            obtain ⟨z36355, ez36355⟩ : ∃ y : Int32, y = z36326 + 1 := ⟨_, rfl⟩
            have hz36355 : z36355.toInt = z36326.toInt + 1 := ar_add ez36355 rfl (by decide : (1 : Int32).toInt = 1) (by omega) (by omega)
            refine lv_iinc (v := z36355) (lv' := [(5, .int z36355), (3, .int z36354), (4, .int z36352), (7, .int z36345), (6, .int z36334), (0, .ref p0), (1, .ref p1), (2, .int p2)]) hx hb dX9_canBe_92 hl (k := 7) rfl (by rw [ez36355]; rfl) (by decide) rfl (fun ls hl => ?_)
            refine lv_goto (tgt := 8) hx hb dX9_canBe_95 (by decide) ?_
            exact ih8 z36354 z36352 z36355 _ _ _ _ (by omega) (by omega) hT hfr  (lv_sub hl [5, 6, 7, 1, 2, 0] rfl)
          · have w36356 := cv_nle (rfl : z36345.toInt = z36345.toInt) (rfl : z36346.toInt = z36346.toInt) c36347
            refine lv_iconst (v := 0) hx hb dX9_canBe_68 (by decide) ?_
            exact t_zret hQ X hT (by decide) (⟨(by decide), hfr⟩) (Nat.le_of_ble_eq_true rfl) (Nat.le_of_ble_eq_true rfl) dX9_canBe_69
        · have w36357 := cv_ne (rfl : z36339.toInt = z36339.toInt) (by decide : (0 : Int32).toInt = 0) c36340
          refine lv_iconst (v := 0) hx hb dX9_canBe_40 (by decide) ?_
          exact t_zret hQ X hT (by decide) (⟨(by decide), hfr⟩) (Nat.le_of_ble_eq_true rfl) (Nat.le_of_ble_eq_true rfl) dX9_canBe_41
  refine lv_iconst (v := 0) hx hb dX9_canBe_0 (by decide) ?_
  refine lv_istore_n (lv' := [(3, .int 0), (0, .ref p0), (1, .ref p1), (2, .int p2)]) hx hb dX9_canBe_1 rfl hl (by decide) rfl (fun ls hl => ?_)
  refine lv_iconst (v := 0) hx hb dX9_canBe_2 (by decide) ?_
  refine lv_istore (lv' := [(4, .int 0), (3, .int 0), (0, .ref p0), (1, .ref p1), (2, .int p2)]) hx hb dX9_canBe_3 hl (by decide) rfl (fun ls hl => ?_)
  refine lv_iconst (v := 0) hx hb dX9_canBe_5 (by decide) ?_
  refine lv_istore (lv' := [(5, .int 0), (4, .int 0), (3, .int 0), (0, .ref p0), (1, .ref p1), (2, .int p2)]) hx hb dX9_canBe_6 hl (by decide) rfl (fun ls hl => ?_)
  have kk36358 : (0 : Int32).toInt = 0 := by decide
  have kk36359 : (0 : Int32).toInt = 0 := by decide
  have kk36360 : (0 : Int32).toInt = 0 := by decide
  exact K8 7 0 0 0 _ _ _ _ (by omega) (by decide) hT hfr  (lv_sub hl [3, 4, 5, 2, 1, 0] rfl)
