set_option maxHeartbeats 4000000 in
set_option maxRecDepth 100000 in
theorem kt143_X8_takeWord (l : Launch) (G : KG) (tag : Nat → Nat) (L : List Nat) (Fo : Nat → va_E) (ho : okT G ttC tag L Fo) (p0 : Nat) (x0 : Nat) (m0 : p0 ∈ L) (g0 : tag p0 = 24) (mx0 : x0 ∈ L) (gx0 : tag x0 = 1) (pf0 : fld Fo p0 0 = .ref x0) : TMv l yX8_takeWord cX8_takeWord 1 { frames := 1, cells := 0, slots := 0, locals := 21 } G ttC tag L Fo [.ref p0] (fun F1 => ∀ b j : Nat, (tag b ≠ 24 ∨ j ≠ 2) → (tag b ≠ 24 ∨ j ≠ 3) → (tag b ≠ 24 ∨ j ≠ 7) → fld F1 b j = fld Fo b j) := by
  refine t_bodyv (y := yX8_takeWord) (cd := cX8_takeWord) (mL := 1) (rm := { frames := 1, cells := 0, slots := 0, locals := 21 }) (av := [.ref p0]) (by decide) (Nat.le_of_ble_eq_true rfl) ho ?_
  intro p e s m args below meth c ls A Q hQ X hT hl
  have hx := X.1.1
  have hb := X.1.2.1
  have hl : lv_has ls 1 [(0, .ref p0)] := hl
  obtain ⟨F, hFo⟩ : ∃ F : Nat → va_E, F = Fo := ⟨_, rfl⟩
  rw [← hFo] at hT
  have hfr : ∀ b j : Nat, (tag b ≠ 24 ∨ j ≠ 2) → (tag b ≠ 24 ∨ j ≠ 3) → (tag b ≠ 24 ∨ j ≠ 7) → fld F b j = fld Fo b j := by
    rw [hFo]
    intros
    rfl
  have K88 : ∀ (z50005 : Int32) (b50006 : Nat) (z50007 : Int32) (z50008 : Int32) (z50009 : Int32) (F : Nat → va_E) (H : Heap) (locs : List Loc) (ls : Array Slot), (1 ≤ z50005.toInt ∧ z50005.toInt ≤ 4) → (b50006 ∈ L) → (tag b50006 = 24) → (0 ≤ z50007.toInt ∧ z50007.toInt ≤ 1000) → (0 ≤ z50008.toInt ∧ z50008.toInt ≤ 1000) → (0 ≤ z50009.toInt ∧ z50009.toInt ≤ 1000) → TH G ttC A s tag L F H locs → (∀ b j : Nat, (tag b ≠ 24 ∨ j ≠ 2) → (tag b ≠ 24 ∨ j ≠ 3) → (tag b ≠ 24 ∨ j ≠ 7) → fld F b j = fld Fo b j) → fld F p0 0 = .ref x0 → fld F p0 2 = .int z50007 → fld F p0 1 = .int z50008 → fld F p0 4 = .int z50009 → lv_has ls 1 [(0, .ref p0)] → W p l e { frames := 1, cells := 0, slots := 0, locals := 21 } s m args below meth c H locs 0 0 Q (F0 m 88 ls [.int z50005, .ref b50006]) := by
    intro z50005 b50006 z50007 z50008 z50009 F H locs ls rz50005 mb50006 gb50006 rz50007 rz50008 rz50009 hT hfr pf0 qz50007 qz50008 qz50009 hl
    refine t_put (C := RX8) (T := TX8) (N := 8) (v := .int z50005) X hT mb50006 gb50006 rfl tyX8 tyX8_ok nmX8 rfl 3 (by decide) qw_202 inlX8 rfl (by first | rfl | decide) (by first | rfl | decide) rfl (⟨_, rfl, (by omega), (by omega)⟩) dX8_takeWord_88 (fun F H locs hT v50010 h1v50010 h2v50010 => ?_)
    have qz50007 := (h1v50010 _ _ (Or.inr (by decide))).trans qz50007
    have qz50008 := (h1v50010 _ _ (Or.inr (by decide))).trans qz50008
    have qz50009 := (h1v50010 _ _ (Or.inr (by decide))).trans qz50009
    have pf0 := (h1v50010 _ _ (Or.inr (by decide))).trans pf0
    have hfr : ∀ b j : Nat, (tag b ≠ 24 ∨ j ≠ 2) → (tag b ≠ 24 ∨ j ≠ 3) → (tag b ≠ 24 ∨ j ≠ 7) → fld F b j = fld Fo b j := fun b j n24_2 n24_3 n24_7 => (h1v50010 b j (fr_ne gb50006 n24_3)).trans (hfr b j n24_2 n24_3 n24_7)
    exact t_vret hQ X hT hfr (Nat.le_of_ble_eq_true rfl) (Nat.le_of_ble_eq_true rfl) dX8_takeWord_91
  have K68 : ∀ (z50011 : Int32) (z50012 : Int32) (F : Nat → va_E) (H : Heap) (locs : List Loc) (ls : Array Slot), (0 ≤ z50011.toInt ∧ z50011.toInt ≤ 1000) → (0 ≤ z50012.toInt ∧ z50012.toInt ≤ 1000) → TH G ttC A s tag L F H locs → (∀ b j : Nat, (tag b ≠ 24 ∨ j ≠ 2) → (tag b ≠ 24 ∨ j ≠ 3) → (tag b ≠ 24 ∨ j ≠ 7) → fld F b j = fld Fo b j) → fld F p0 0 = .ref x0 → fld F p0 2 = .int z50011 → fld F p0 1 = .int z50012 → lv_has ls 1 [(0, .ref p0)] → W p l e { frames := 1, cells := 0, slots := 0, locals := 21 } s m args below meth c H locs 0 0 Q (F0 m 68 ls []) := by
    intro z50011 z50012 F H locs ls rz50011 rz50012 hT hfr pf0 qz50011 qz50012 hl
    refine lv_aload_n hx hb dX8_takeWord_68 rfl (lv_at hl 0 rfl) ?_
    refine lv_aload_n hx hb dX8_takeWord_69 rfl (lv_at hl 0 rfl) ?_
    refine t_get (C := RX8) (T := TX8) (N := 8) X hT m0 g0 rfl rfl 2 (by decide) qw_195 inlX8 rfl dX8_takeWord_70 (fun v50013 hv50013 ov50013 => ?_)
    obtain rfl : v50013 = .int z50011 := hv50013.symm.trans qz50011
    refine lv_aload_n hx hb dX8_takeWord_73 rfl (lv_at hl 0 rfl) ?_
    refine t_get (C := RX8) (T := TX8) (N := 8) X hT m0 g0 rfl rfl 4 (by decide) qw_200 inlX8 rfl dX8_takeWord_74 (fun v50014 hv50014 ov50014 => ?_)
    obtain ⟨z50015, rfl, rz50015⟩ := okV_i ov50014
    refine lv_isub hx hb dX8_takeWord_77 ?_
    refine lv_topi (fun z50016 ez50016 => ?_)
    have hz50016 : z50016.toInt = z50011.toInt - z50015.toInt := ar_sub ez50016 (rfl : z50011.toInt = z50011.toInt) (rfl : z50015.toInt = z50015.toInt) (by omega) (by omega)
    have rz50016 : (-1000) ≤ z50016.toInt ∧ z50016.toInt ≤ 1000 := by omega
    refine lv_bipush (v := 8) hx hb dX8_takeWord_78 (by decide) ?_
    refine lv_icmp_le (tgt := 87) hx hb dX8_takeWord_80 (by decide) (fun c50017 => ?_) (fun c50017 => ?_)
    · have w50018 := cv_le (rfl : z50016.toInt = z50016.toInt) (by decide : (8 : Int32).toInt = 8) c50017
      refine lv_iconst (v := 1) hx hb dX8_takeWord_87 (by decide) ?_
      exact K88 1 p0 z50011 z50012 z50015 _ _ _ _ (by decide) m0 g0 (by omega) (by omega) (by omega) hT hfr pf0 qz50011 qz50012 hv50014 (lv_sub hl [0] rfl)
    · have w50019 := cv_nle (rfl : z50016.toInt = z50016.toInt) (by decide : (8 : Int32).toInt = 8) c50017
      refine lv_iconst (v := 4) hx hb dX8_takeWord_83 (by decide) ?_
      refine lv_goto (tgt := 88) hx hb dX8_takeWord_84 (by decide) ?_
      exact K88 4 p0 z50011 z50012 z50015 _ _ _ _ (by decide) m0 g0 (by omega) (by omega) (by omega) hT hfr pf0 qz50011 qz50012 hv50014 (lv_sub hl [0] rfl)
  have K5 : ∀ (n : Nat) (z50020 : Int32) (F : Nat → va_E) (H : Heap) (locs : List Loc) (ls : Array Slot), (1000 - z50020.toInt < (n : Int)) → (0 ≤ z50020.toInt ∧ z50020.toInt ≤ 1000) → TH G ttC A s tag L F H locs → (∀ b j : Nat, (tag b ≠ 24 ∨ j ≠ 2) → (tag b ≠ 24 ∨ j ≠ 3) → (tag b ≠ 24 ∨ j ≠ 7) → fld F b j = fld Fo b j) → fld F p0 0 = .ref x0 → fld F p0 2 = .int z50020 → lv_has ls 1 [(0, .ref p0)] → W p l e { frames := 1, cells := 0, slots := 0, locals := 21 } s m args below meth c H locs 0 0 Q (F0 m 5 ls []) := by
    intro n
    induction n with
    | zero =>
      intro z50020 F H locs ls hn rz50020 hT hfr pf0 qz50020 hl
      exfalso
      omega
    | succ n ih5 =>
      intro z50020 F H locs ls hn rz50020 hT hfr pf0 qz50020 hl
      refine lv_aload_n hx hb dX8_takeWord_5 rfl (lv_at hl 0 rfl) ?_
      refine t_get (C := RX8) (T := TX8) (N := 8) X hT m0 g0 rfl rfl 2 (by decide) qw_195 inlX8 rfl dX8_takeWord_6 (fun v50021 hv50021 ov50021 => ?_)
      obtain rfl : v50021 = .int z50020 := hv50021.symm.trans qz50020
      refine lv_aload_n hx hb dX8_takeWord_9 rfl (lv_at hl 0 rfl) ?_
      refine t_get (C := RX8) (T := TX8) (N := 8) X hT m0 g0 rfl rfl 1 (by decide) qw_194 inlX8 rfl dX8_takeWord_10 (fun v50022 hv50022 ov50022 => ?_)
      obtain ⟨z50023, rfl, rz50023⟩ := okV_i ov50022
      refine lv_icmp_ge (tgt := 68) hx hb dX8_takeWord_13 (by decide) (fun c50024 => ?_) (fun c50024 => ?_)
      · have w50025 := cv_le (rfl : z50023.toInt = z50023.toInt) (rfl : z50020.toInt = z50020.toInt) c50024
        exact K68 z50020 z50023 _ _ _ _ (by omega) (by omega) hT hfr pf0 qz50020 hv50022 (lv_sub hl [0] rfl)
      · have w50026 := cv_nle (rfl : z50023.toInt = z50023.toInt) (rfl : z50020.toInt = z50020.toInt) c50024
        refine lv_aload_n hx hb dX8_takeWord_16 rfl (lv_at hl 0 rfl) ?_
        refine lv_aload_n hx hb dX8_takeWord_17 rfl (lv_at hl 0 rfl) ?_
        refine t_get (C := RX8) (T := TX8) (N := 8) X hT m0 g0 rfl rfl 2 (by decide) qw_195 inlX8 rfl dX8_takeWord_18 (fun v50027 hv50027 ov50027 => ?_)
        obtain rfl : v50027 = .int z50020 := hv50027.symm.trans qz50020
        refine t_cVi (n := 1) (C := RX8) (T := TX8) (N := 8) (As := [.int z50020]) (rest := []) X hT (kt139_X8_byteAt l G tag L F hT.2.2.2 p0 z50020 x0 m0 g0 mx0 gx0 pf0) m0 g0 rfl rfl qw_204 qw_205 qw_206 qw_72 qw_207 ⟨rfl, by decide +kernel, by decide +kernel, by decide +kernel⟩ ⟨Nat.le_of_ble_eq_true rfl, Nat.le_of_ble_eq_true rfl⟩ hl rfl rfl (Nat.le_of_ble_eq_true rfl) dX8_takeWord_21 ⟨Nat.le_of_ble_eq_true rfl, Nat.le_of_ble_eq_true rfl⟩ (fun z50028 F9 H locs hT hz50028 => ?_)
        obtain ⟨fz50028, hz50028⟩ := hz50028
        rw [fz50028] at hT
        obtain ⟨hz50028, iz50028⟩ := hz50028
        refine t_cSi (n := 1) (As := [.int z50028]) (rest := []) X hT (kt140_X8_isLetter l G tag L F hT.2.2.2 z50028 ) qw_208 qw_209 qw_72 qw_210 ⟨by decide +kernel, by decide +kernel, by decide +kernel⟩ ⟨Nat.le_of_ble_eq_true rfl, Nat.le_of_ble_eq_true rfl⟩ hl rfl rfl (Nat.le_of_ble_eq_true rfl) dX8_takeWord_24 ⟨Nat.le_of_ble_eq_true rfl, Nat.le_of_ble_eq_true rfl⟩ (fun z50029 F9 H locs hT hz50029 => ?_)
        obtain ⟨fz50029, hz50029⟩ := hz50029
        rw [fz50029] at hT
        refine lv_if_eq (tgt := 68) hx hb dX8_takeWord_27 (by decide) (fun c50030 => ?_) (fun c50030 => ?_)
        · have w50031 := cv_eq (rfl : z50029.toInt = z50029.toInt) (by decide : (0 : Int32).toInt = 0) c50030
          exact K68 z50020 z50023 _ _ _ _ (by omega) (by omega) hT hfr pf0 qz50020 hv50022 (lv_sub hl [0] rfl)
        · have w50032 := cv_ne (rfl : z50029.toInt = z50029.toInt) (by decide : (0 : Int32).toInt = 0) c50030
          refine lv_aload_n hx hb dX8_takeWord_30 rfl (lv_at hl 0 rfl) ?_
          refine lv_aload_n hx hb dX8_takeWord_31 rfl (lv_at hl 0 rfl) ?_
          refine t_get (C := RX8) (T := TX8) (N := 8) X hT m0 g0 rfl rfl 7 (by decide) qw_215 inlX8 rfl dX8_takeWord_32 (fun v50033 hv50033 ov50033 => ?_)
          obtain ⟨z50034, rfl⟩ := ov50033
          refine lv_iconst (v := 5) hx hb dX8_takeWord_35 (by decide) ?_
          refine lv_lshl hx hb dX8_takeWord_36 rfl ?_
          refine lv_topl (fun z50035 ez50035 => ?_)
          refine lv_aload_n hx hb dX8_takeWord_37 rfl (lv_at hl 0 rfl) ?_
          refine lv_aload_n hx hb dX8_takeWord_38 rfl (lv_at hl 0 rfl) ?_
          refine t_get (C := RX8) (T := TX8) (N := 8) X hT m0 g0 rfl rfl 2 (by decide) qw_195 inlX8 rfl dX8_takeWord_39 (fun v50036 hv50036 ov50036 => ?_)
          obtain rfl : v50036 = .int z50020 := hv50036.symm.trans qz50020
          refine t_cVi (n := 1) (C := RX8) (T := TX8) (N := 8) (As := [.int z50020]) (rest := [.long z50035, .ref p0]) X hT (kt139_X8_byteAt l G tag L F hT.2.2.2 p0 z50020 x0 m0 g0 mx0 gx0 pf0) m0 g0 rfl rfl qw_204 qw_205 qw_206 qw_72 qw_207 ⟨rfl, by decide +kernel, by decide +kernel, by decide +kernel⟩ ⟨Nat.le_of_ble_eq_true rfl, Nat.le_of_ble_eq_true rfl⟩ hl rfl rfl (Nat.le_of_ble_eq_true rfl) dX8_takeWord_42 ⟨Nat.le_of_ble_eq_true rfl, Nat.le_of_ble_eq_true rfl⟩ (fun z50037 F9 H locs hT hz50037 => ?_)
          obtain ⟨fz50037, hz50037⟩ := hz50037
          rw [fz50037] at hT
          obtain ⟨hz50037, iz50037⟩ := hz50037
          refine lv_bipush (v := 97) hx hb dX8_takeWord_45 (by decide) ?_
          refine lv_isub hx hb dX8_takeWord_47 ?_
          refine lv_topi (fun z50038 ez50038 => ?_)
          have hz50038 : z50038.toInt = z50037.toInt - 97 := ar_sub ez50038 (rfl : z50037.toInt = z50037.toInt) (by decide : (97 : Int32).toInt = 97) (by omega) (by omega)
          have rz50038 : (-98) ≤ z50038.toInt ∧ z50038.toInt ≤ 158 := by omega
          refine lv_iconst (v := 1) hx hb dX8_takeWord_48 (by decide) ?_
          refine lv_iadd hx hb dX8_takeWord_49 ?_
          refine lv_topi (fun z50039 ez50039 => ?_)
          have hz50039 : z50039.toInt = z50038.toInt + 1 := ar_add ez50039 (rfl : z50038.toInt = z50038.toInt) (by decide : (1 : Int32).toInt = 1) (by omega) (by omega)
          have rz50039 : (-97) ≤ z50039.toInt ∧ z50039.toInt ≤ 159 := by omega
          refine lv_i2l hx hb dX8_takeWord_50 rfl ?_
          refine lv_topl (fun z50040 ez50040 => ?_)
          refine lv_lor hx hb dX8_takeWord_51 ?_
          refine lv_topl (fun z50041 ez50041 => ?_)
          refine t_put (C := RX8) (T := TX8) (N := 8) (v := .long z50041) X hT m0 g0 rfl tyX8 tyX8_ok nmX8 rfl 7 (by decide) qw_215 inlX8 rfl (by first | rfl | decide) (by first | rfl | decide) rfl (⟨_, rfl⟩) dX8_takeWord_52 (fun F H locs hT v50042 h1v50042 h2v50042 => ?_)
          have qz50020 := (h1v50042 _ _ (Or.inr (by decide))).trans qz50020
          have pf0 := (h1v50042 _ _ (Or.inr (by decide))).trans pf0
          have hv50022 := (h1v50042 _ _ (Or.inr (by decide))).trans hv50022
          have hfr : ∀ b j : Nat, (tag b ≠ 24 ∨ j ≠ 2) → (tag b ≠ 24 ∨ j ≠ 3) → (tag b ≠ 24 ∨ j ≠ 7) → fld F b j = fld Fo b j := fun b j n24_2 n24_3 n24_7 => (h1v50042 b j (fr_ne g0 n24_7)).trans (hfr b j n24_2 n24_3 n24_7)
          refine lv_aload_n hx hb dX8_takeWord_55 rfl (lv_at hl 0 rfl) ?_
          refine lv_dup hx hb dX8_takeWord_56 rfl ?_
          refine t_get (C := RX8) (T := TX8) (N := 8) X hT m0 g0 rfl rfl 2 (by decide) qw_195 inlX8 rfl dX8_takeWord_57 (fun v50043 hv50043 ov50043 => ?_)
          obtain rfl : v50043 = .int z50020 := hv50043.symm.trans qz50020
          refine lv_iconst (v := 1) hx hb dX8_takeWord_60 (by decide) ?_
          refine lv_iadd hx hb dX8_takeWord_61 ?_
          refine lv_topi (fun z50044 ez50044 => ?_)
          have hz50044 : z50044.toInt = z50020.toInt + 1 := ar_add ez50044 (rfl : z50020.toInt = z50020.toInt) (by decide : (1 : Int32).toInt = 1) (by omega) (by omega)
          have rz50044 : 1 ≤ z50044.toInt ∧ z50044.toInt ≤ 1000 := by omega
          refine t_put (C := RX8) (T := TX8) (N := 8) (v := .int z50044) X hT m0 g0 rfl tyX8 tyX8_ok nmX8 rfl 2 (by decide) qw_195 inlX8 rfl (by first | rfl | decide) (by first | rfl | decide) rfl (⟨_, rfl, (by omega), (by omega)⟩) dX8_takeWord_62 (fun F H locs hT v50045 h1v50045 h2v50045 => ?_)
          have pf0 := (h1v50045 _ _ (Or.inr (by decide))).trans pf0
          have hv50022 := (h1v50045 _ _ (Or.inr (by decide))).trans hv50022
          have hfr : ∀ b j : Nat, (tag b ≠ 24 ∨ j ≠ 2) → (tag b ≠ 24 ∨ j ≠ 3) → (tag b ≠ 24 ∨ j ≠ 7) → fld F b j = fld Fo b j := fun b j n24_2 n24_3 n24_7 => (h1v50045 b j (fr_ne g0 n24_2)).trans (hfr b j n24_2 n24_3 n24_7)
          refine lv_goto (tgt := 5) hx hb dX8_takeWord_65 (by decide) ?_
          exact ih5 z50044 _ _ _ _ (by omega) (by omega) hT hfr pf0 v50045 (lv_sub hl [0] rfl)
  refine lv_aload_n hx hb dX8_takeWord_0 rfl (lv_at hl 0 rfl) ?_
  refine lv_lconst (v := 0) hx hb dX8_takeWord_1 (by decide) ?_
  refine t_put (C := RX8) (T := TX8) (N := 8) (v := .long (0 : Int64)) X hT m0 g0 rfl tyX8 tyX8_ok nmX8 rfl 7 (by decide) qw_215 inlX8 rfl (by first | rfl | decide) (by first | rfl | decide) rfl (⟨_, rfl⟩) dX8_takeWord_2 (fun F H locs hT v50046 h1v50046 h2v50046 => ?_)
  have pf0 := (h1v50046 _ _ (Or.inr (by decide))).trans pf0
  have hfr : ∀ b j : Nat, (tag b ≠ 24 ∨ j ≠ 2) → (tag b ≠ 24 ∨ j ≠ 3) → (tag b ≠ 24 ∨ j ≠ 7) → fld F b j = fld Fo b j := fun b j n24_2 n24_3 n24_7 => (h1v50046 b j (fr_ne g0 n24_7)).trans (hfr b j n24_2 n24_3 n24_7)
  obtain ⟨z50047, qz50047, rz50047⟩ := t_fld hT m0 g0 rfl 2 rfl
  have rz50047 : 0 ≤ z50047.toInt ∧ z50047.toInt ≤ 1000 := rz50047
  exact K5 1001 z50047 _ _ _ _ (by omega) (by omega) hT hfr pf0 qz50047 (lv_sub hl [0] rfl)
set_option maxHeartbeats 4000000 in
set_option maxRecDepth 100000 in
theorem kt144_X8_advance (l : Launch) (G : KG) (tag : Nat → Nat) (L : List Nat) (Fo : Nat → va_E) (ho : okT G ttC tag L Fo) (p0 : Nat) (x0 : Nat) (m0 : p0 ∈ L) (g0 : tag p0 = 24) (mx0 : x0 ∈ L) (gx0 : tag x0 = 1) (pf0 : fld Fo p0 0 = .ref x0) : TMv l yX8_advance cX8_advance 2 { frames := 2, cells := 0, slots := 0, locals := 41 } G ttC tag L Fo [.ref p0] (fun F1 => ∀ b j : Nat, (tag b ≠ 24 ∨ j ≠ 2) → (tag b ≠ 24 ∨ j ≠ 3) → (tag b ≠ 24 ∨ j ≠ 4) → (tag b ≠ 24 ∨ j ≠ 5) → (tag b ≠ 24 ∨ j ≠ 6) → (tag b ≠ 24 ∨ j ≠ 7) → fld F1 b j = fld Fo b j) := by
  refine t_bodyv (y := yX8_advance) (cd := cX8_advance) (mL := 2) (rm := { frames := 2, cells := 0, slots := 0, locals := 41 }) (av := [.ref p0]) (by decide) (Nat.le_of_ble_eq_true rfl) ho ?_
  intro p e s m args below meth c ls A Q hQ X hT hl
  have hx := X.1.1
  have hb := X.1.2.1
  have hl : lv_has ls 2 [(0, .ref p0)] := hl
  obtain ⟨F, hFo⟩ : ∃ F : Nat → va_E, F = Fo := ⟨_, rfl⟩
  rw [← hFo] at hT
  have hfr : ∀ b j : Nat, (tag b ≠ 24 ∨ j ≠ 2) → (tag b ≠ 24 ∨ j ≠ 3) → (tag b ≠ 24 ∨ j ≠ 4) → (tag b ≠ 24 ∨ j ≠ 5) → (tag b ≠ 24 ∨ j ≠ 6) → (tag b ≠ 24 ∨ j ≠ 7) → fld F b j = fld Fo b j := by
    rw [hFo]
    intros
    rfl
  have K121 : ∀ (z50789 : Int32) (z50790 : Int32) (b50791 : Nat) (z50792 : Int32) (z50793 : Int32) (z50794 : Int32) (z50795 : Int32) (F : Nat → va_E) (H : Heap) (locs : List Loc) (ls : Array Slot), (0 ≤ z50789.toInt ∧ z50789.toInt ≤ 255) → (3 ≤ z50790.toInt ∧ z50790.toInt ≤ 4) → (b50791 ∈ L) → (tag b50791 = 24) → (0 ≤ z50792.toInt ∧ z50792.toInt ≤ 1000) → (0 ≤ z50793.toInt ∧ z50793.toInt ≤ 999) → (0 ≤ z50794.toInt ∧ z50794.toInt ≤ 1000) → (0 ≤ z50795.toInt ∧ z50795.toInt ≤ 999) → TH G ttC A s tag L F H locs → (∀ b j : Nat, (tag b ≠ 24 ∨ j ≠ 2) → (tag b ≠ 24 ∨ j ≠ 3) → (tag b ≠ 24 ∨ j ≠ 4) → (tag b ≠ 24 ∨ j ≠ 5) → (tag b ≠ 24 ∨ j ≠ 6) → (tag b ≠ 24 ∨ j ≠ 7) → fld F b j = fld Fo b j) → fld F p0 0 = .ref x0 → fld F p0 5 = .int z50792 → fld F p0 2 = .int z50793 → fld F p0 1 = .int z50794 → fld F p0 4 = .int z50795 → lv_has ls 2 [(0, .ref p0), (1, .int z50789)] → W p l e { frames := 2, cells := 0, slots := 0, locals := 41 } s m args below meth c H locs 0 0 Q (F0 m 121 ls [.int z50790, .ref b50791]) := by
    intro z50789 z50790 b50791 z50792 z50793 z50794 z50795 F H locs ls rz50789 rz50790 mb50791 gb50791 rz50792 rz50793 rz50794 rz50795 hT hfr pf0 qz50792 qz50793 qz50794 qz50795 hl
    refine t_put (C := RX8) (T := TX8) (N := 8) (v := .int z50790) X hT mb50791 gb50791 rfl tyX8 tyX8_ok nmX8 rfl 3 (by decide) qw_202 inlX8 rfl (by first | rfl | decide) (by first | rfl | decide) rfl (⟨_, rfl, (by omega), (by omega)⟩) dX8_advance_121 (fun F H locs hT v50796 h1v50796 h2v50796 => ?_)
    have qz50792 := (h1v50796 _ _ (Or.inr (by decide))).trans qz50792
    have qz50793 := (h1v50796 _ _ (Or.inr (by decide))).trans qz50793
    have qz50794 := (h1v50796 _ _ (Or.inr (by decide))).trans qz50794
    have qz50795 := (h1v50796 _ _ (Or.inr (by decide))).trans qz50795
    have pf0 := (h1v50796 _ _ (Or.inr (by decide))).trans pf0
    have hfr : ∀ b j : Nat, (tag b ≠ 24 ∨ j ≠ 2) → (tag b ≠ 24 ∨ j ≠ 3) → (tag b ≠ 24 ∨ j ≠ 4) → (tag b ≠ 24 ∨ j ≠ 5) → (tag b ≠ 24 ∨ j ≠ 6) → (tag b ≠ 24 ∨ j ≠ 7) → fld F b j = fld Fo b j := fun b j n24_2 n24_3 n24_4 n24_5 n24_6 n24_7 => (h1v50796 b j (fr_ne gb50791 n24_3)).trans (hfr b j n24_2 n24_3 n24_4 n24_5 n24_6 n24_7)
    refine lv_aload_n hx hb dX8_advance_124 rfl (lv_at hl 0 rfl) ?_
    refine lv_iload_n hx hb dX8_advance_125 rfl (lv_at hl 1 rfl) ?_
    refine t_put (C := RX8) (T := TX8) (N := 8) (v := .int z50789) X hT m0 g0 rfl tyX8 tyX8_ok nmX8 rfl 6 (by decide) qw_203 inlX8 rfl (by first | rfl | decide) (by first | rfl | decide) rfl (⟨_, rfl, (by omega), (by omega)⟩) dX8_advance_126 (fun F H locs hT v50797 h1v50797 h2v50797 => ?_)
    have qz50792 := (h1v50797 _ _ (Or.inr (by decide))).trans qz50792
    have qz50793 := (h1v50797 _ _ (Or.inr (by decide))).trans qz50793
    have qz50794 := (h1v50797 _ _ (Or.inr (by decide))).trans qz50794
    have qz50795 := (h1v50797 _ _ (Or.inr (by decide))).trans qz50795
    have pf0 := (h1v50797 _ _ (Or.inr (by decide))).trans pf0
    have v50796 := (h1v50797 _ _ (Or.inr (by decide))).trans v50796
    have hfr : ∀ b j : Nat, (tag b ≠ 24 ∨ j ≠ 2) → (tag b ≠ 24 ∨ j ≠ 3) → (tag b ≠ 24 ∨ j ≠ 4) → (tag b ≠ 24 ∨ j ≠ 5) → (tag b ≠ 24 ∨ j ≠ 6) → (tag b ≠ 24 ∨ j ≠ 7) → fld F b j = fld Fo b j := fun b j n24_2 n24_3 n24_4 n24_5 n24_6 n24_7 => (h1v50797 b j (fr_ne g0 n24_6)).trans (hfr b j n24_2 n24_3 n24_4 n24_5 n24_6 n24_7)
    refine lv_aload_n hx hb dX8_advance_129 rfl (lv_at hl 0 rfl) ?_
    refine lv_dup hx hb dX8_advance_130 rfl ?_
    refine t_get (C := RX8) (T := TX8) (N := 8) X hT m0 g0 rfl rfl 2 (by decide) qw_195 inlX8 rfl dX8_advance_131 (fun v50798 hv50798 ov50798 => ?_)
    obtain rfl : v50798 = .int z50793 := hv50798.symm.trans qz50793
    refine lv_iconst (v := 1) hx hb dX8_advance_134 (by decide) ?_
    refine lv_iadd hx hb dX8_advance_135 ?_
    refine lv_topi (fun z50799 ez50799 => ?_)
    have hz50799 : z50799.toInt = z50793.toInt + 1 := ar_add ez50799 (rfl : z50793.toInt = z50793.toInt) (by decide : (1 : Int32).toInt = 1) (by omega) (by omega)
    have rz50799 : 1 ≤ z50799.toInt ∧ z50799.toInt ≤ 1000 := by omega
    refine t_put (C := RX8) (T := TX8) (N := 8) (v := .int z50799) X hT m0 g0 rfl tyX8 tyX8_ok nmX8 rfl 2 (by decide) qw_195 inlX8 rfl (by first | rfl | decide) (by first | rfl | decide) rfl (⟨_, rfl, (by omega), (by omega)⟩) dX8_advance_136 (fun F H locs hT v50800 h1v50800 h2v50800 => ?_)
    have qz50792 := (h1v50800 _ _ (Or.inr (by decide))).trans qz50792
    have qz50794 := (h1v50800 _ _ (Or.inr (by decide))).trans qz50794
    have qz50795 := (h1v50800 _ _ (Or.inr (by decide))).trans qz50795
    have pf0 := (h1v50800 _ _ (Or.inr (by decide))).trans pf0
    have v50796 := (h1v50800 _ _ (Or.inr (by decide))).trans v50796
    have v50797 := (h1v50800 _ _ (Or.inr (by decide))).trans v50797
    have hfr : ∀ b j : Nat, (tag b ≠ 24 ∨ j ≠ 2) → (tag b ≠ 24 ∨ j ≠ 3) → (tag b ≠ 24 ∨ j ≠ 4) → (tag b ≠ 24 ∨ j ≠ 5) → (tag b ≠ 24 ∨ j ≠ 6) → (tag b ≠ 24 ∨ j ≠ 7) → fld F b j = fld Fo b j := fun b j n24_2 n24_3 n24_4 n24_5 n24_6 n24_7 => (h1v50800 b j (fr_ne g0 n24_2)).trans (hfr b j n24_2 n24_3 n24_4 n24_5 n24_6 n24_7)
    exact t_vret hQ X hT hfr (Nat.le_of_ble_eq_true rfl) (Nat.le_of_ble_eq_true rfl) dX8_advance_139
  have K116 : ∀ (z50801 : Int32) (b50802 : Nat) (z50803 : Int32) (z50804 : Int32) (z50805 : Int32) (z50806 : Int32) (F : Nat → va_E) (H : Heap) (locs : List Loc) (ls : Array Slot), (44 ≤ z50801.toInt ∧ z50801.toInt ≤ 59) → (b50802 ∈ L) → (tag b50802 = 24) → (0 ≤ z50803.toInt ∧ z50803.toInt ≤ 1000) → (0 ≤ z50804.toInt ∧ z50804.toInt ≤ 999) → (0 ≤ z50805.toInt ∧ z50805.toInt ≤ 1000) → (0 ≤ z50806.toInt ∧ z50806.toInt ≤ 999) → TH G ttC A s tag L F H locs → (∀ b j : Nat, (tag b ≠ 24 ∨ j ≠ 2) → (tag b ≠ 24 ∨ j ≠ 3) → (tag b ≠ 24 ∨ j ≠ 4) → (tag b ≠ 24 ∨ j ≠ 5) → (tag b ≠ 24 ∨ j ≠ 6) → (tag b ≠ 24 ∨ j ≠ 7) → fld F b j = fld Fo b j) → fld F p0 0 = .ref x0 → fld F p0 5 = .int z50803 → fld F p0 2 = .int z50804 → fld F p0 1 = .int z50805 → fld F p0 4 = .int z50806 → lv_has ls 2 [(0, .ref p0), (1, .int z50801)] → W p l e { frames := 2, cells := 0, slots := 0, locals := 41 } s m args below meth c H locs 0 0 Q (F0 m 116 ls [.ref b50802]) := by
    intro z50801 b50802 z50803 z50804 z50805 z50806 F H locs ls rz50801 mb50802 gb50802 rz50803 rz50804 rz50805 rz50806 hT hfr pf0 qz50803 qz50804 qz50805 qz50806 hl
    refine lv_iconst (v := 3) hx hb dX8_advance_116 (by decide) ?_
    refine lv_goto (tgt := 121) hx hb dX8_advance_117 (by decide) ?_
    exact K121 z50801 3 b50802 z50803 z50804 z50805 z50806 _ _ _ _ (by omega) (by decide) mb50802 gb50802 (by omega) (by omega) (by omega) (by omega) hT hfr pf0 qz50803 qz50804 qz50805 qz50806 (lv_sub hl [0, 1] rfl)
  have K45 : ∀ (z50807 : Int32) (z50808 : Int32) (z50809 : Int32) (z50810 : Int32) (F : Nat → va_E) (H : Heap) (locs : List Loc) (ls : Array Slot), (0 ≤ z50807.toInt ∧ z50807.toInt ≤ 1000) → (0 ≤ z50808.toInt ∧ z50808.toInt ≤ 1000) → (0 ≤ z50809.toInt ∧ z50809.toInt ≤ 1000) → (0 ≤ z50810.toInt ∧ z50810.toInt ≤ 1000) → TH G ttC A s tag L F H locs → (∀ b j : Nat, (tag b ≠ 24 ∨ j ≠ 2) → (tag b ≠ 24 ∨ j ≠ 3) → (tag b ≠ 24 ∨ j ≠ 4) → (tag b ≠ 24 ∨ j ≠ 5) → (tag b ≠ 24 ∨ j ≠ 6) → (tag b ≠ 24 ∨ j ≠ 7) → fld F b j = fld Fo b j) → fld F p0 0 = .ref x0 → fld F p0 4 = .int z50807 → fld F p0 5 = .int z50808 → fld F p0 2 = .int z50809 → fld F p0 1 = .int z50810 → lv_has ls 2 [(0, .ref p0)] → W p l e { frames := 2, cells := 0, slots := 0, locals := 41 } s m args below meth c H locs 0 0 Q (F0 m 45 ls []) := by
    intro z50807 z50808 z50809 z50810 F H locs ls rz50807 rz50808 rz50809 rz50810 hT hfr pf0 qz50807 qz50808 qz50809 qz50810 hl
    refine lv_aload_n hx hb dX8_advance_45 rfl (lv_at hl 0 rfl) ?_
    refine lv_aload_n hx hb dX8_advance_46 rfl (lv_at hl 0 rfl) ?_
    refine t_get (C := RX8) (T := TX8) (N := 8) X hT m0 g0 rfl rfl 2 (by decide) qw_195 inlX8 rfl dX8_advance_47 (fun v50811 hv50811 ov50811 => ?_)
    obtain rfl : v50811 = .int z50809 := hv50811.symm.trans qz50809
    refine t_put (C := RX8) (T := TX8) (N := 8) (v := .int z50809) X hT m0 g0 rfl tyX8 tyX8_ok nmX8 rfl 4 (by decide) qw_200 inlX8 rfl (by first | rfl | decide) (by first | rfl | decide) rfl (⟨_, rfl, (by omega), (by omega)⟩) dX8_advance_50 (fun F H locs hT v50812 h1v50812 h2v50812 => ?_)
    have qz50808 := (h1v50812 _ _ (Or.inr (by decide))).trans qz50808
    have qz50809 := (h1v50812 _ _ (Or.inr (by decide))).trans qz50809
    have qz50810 := (h1v50812 _ _ (Or.inr (by decide))).trans qz50810
    have pf0 := (h1v50812 _ _ (Or.inr (by decide))).trans pf0
    have hfr : ∀ b j : Nat, (tag b ≠ 24 ∨ j ≠ 2) → (tag b ≠ 24 ∨ j ≠ 3) → (tag b ≠ 24 ∨ j ≠ 4) → (tag b ≠ 24 ∨ j ≠ 5) → (tag b ≠ 24 ∨ j ≠ 6) → (tag b ≠ 24 ∨ j ≠ 7) → fld F b j = fld Fo b j := fun b j n24_2 n24_3 n24_4 n24_5 n24_6 n24_7 => (h1v50812 b j (fr_ne g0 n24_4)).trans (hfr b j n24_2 n24_3 n24_4 n24_5 n24_6 n24_7)
    refine lv_aload_n hx hb dX8_advance_53 rfl (lv_at hl 0 rfl) ?_
    refine lv_aload_n hx hb dX8_advance_54 rfl (lv_at hl 0 rfl) ?_
    refine t_get (C := RX8) (T := TX8) (N := 8) X hT m0 g0 rfl rfl 2 (by decide) qw_195 inlX8 rfl dX8_advance_55 (fun v50813 hv50813 ov50813 => ?_)
    obtain rfl : v50813 = .int z50809 := hv50813.symm.trans qz50809
    refine t_cVi (n := 1) (C := RX8) (T := TX8) (N := 8) (As := [.int z50809]) (rest := []) X hT (kt139_X8_byteAt l G tag L F hT.2.2.2 p0 z50809 x0 m0 g0 mx0 gx0 pf0) m0 g0 rfl rfl qw_204 qw_205 qw_206 qw_72 qw_207 ⟨rfl, by decide +kernel, by decide +kernel, by decide +kernel⟩ ⟨Nat.le_of_ble_eq_true rfl, Nat.le_of_ble_eq_true rfl⟩ hl rfl rfl (Nat.le_of_ble_eq_true rfl) dX8_advance_58 ⟨Nat.le_of_ble_eq_true rfl, Nat.le_of_ble_eq_true rfl⟩ (fun z50814 F9 H locs hT hz50814 => ?_)
    obtain ⟨fz50814, hz50814⟩ := hz50814
    rw [fz50814] at hT
    obtain ⟨hz50814, iz50814⟩ := hz50814
    refine lv_istore_n (lv' := [(1, .int z50814), (0, .ref p0)]) hx hb dX8_advance_61 rfl hl (by decide) rfl (fun ls hl => ?_)
    refine lv_iload_n hx hb dX8_advance_62 rfl (lv_at hl 0 rfl) ?_
    refine lv_iconst (v := (-1)) hx hb dX8_advance_63 (by decide) ?_
    refine lv_icmp_ne (tgt := 75) hx hb dX8_advance_64 (by decide) (fun c50815 => ?_) (fun c50815 => ?_)
    · have w50816 := cv_ne (rfl : z50814.toInt = z50814.toInt) (by decide : ((-1) : Int32).toInt = (-1)) c50815
      have w50817 := (fun h => (iz50814 h)) (by omega)
      refine lv_iload_n hx hb dX8_advance_75 rfl (lv_at hl 0 rfl) ?_
      refine t_cSi (n := 1) (As := [.int z50814]) (rest := []) X hT (kt140_X8_isLetter l G tag L F hT.2.2.2 z50814 ) qw_208 qw_209 qw_72 qw_210 ⟨by decide +kernel, by decide +kernel, by decide +kernel⟩ ⟨Nat.le_of_ble_eq_true rfl, Nat.le_of_ble_eq_true rfl⟩ hl rfl rfl (Nat.le_of_ble_eq_true rfl) dX8_advance_76 ⟨Nat.le_of_ble_eq_true rfl, Nat.le_of_ble_eq_true rfl⟩ (fun z50818 F9 H locs hT hz50818 => ?_)
      obtain ⟨fz50818, hz50818⟩ := hz50818
      rw [fz50818] at hT
      refine lv_if_eq (tgt := 89) hx hb dX8_advance_79 (by decide) (fun c50819 => ?_) (fun c50819 => ?_)
      · have w50820 := cv_eq (rfl : z50818.toInt = z50818.toInt) (by decide : (0 : Int32).toInt = 0) c50819
        refine lv_iload_n hx hb dX8_advance_89 rfl (lv_at hl 0 rfl) ?_
        refine t_cSi (n := 1) (As := [.int z50814]) (rest := []) X hT (kt141_X8_isDigit l G tag L F hT.2.2.2 z50814 ) qw_216 qw_217 qw_72 qw_218 ⟨by decide +kernel, by decide +kernel, by decide +kernel⟩ ⟨Nat.le_of_ble_eq_true rfl, Nat.le_of_ble_eq_true rfl⟩ hl rfl rfl (Nat.le_of_ble_eq_true rfl) dX8_advance_90 ⟨Nat.le_of_ble_eq_true rfl, Nat.le_of_ble_eq_true rfl⟩ (fun z50821 F9 H locs hT hz50821 => ?_)
        obtain ⟨fz50821, hz50821⟩ := hz50821
        rw [fz50821] at hT
        refine lv_if_eq (tgt := 103) hx hb dX8_advance_93 (by decide) (fun c50822 => ?_) (fun c50822 => ?_)
        · have w50823 := cv_eq (rfl : z50821.toInt = z50821.toInt) (by decide : (0 : Int32).toInt = 0) c50822
          refine lv_aload_n hx hb dX8_advance_103 rfl (lv_at hl 1 rfl) ?_
          refine lv_iload_n hx hb dX8_advance_104 rfl (lv_at hl 0 rfl) ?_
          refine lv_bipush (v := 59) hx hb dX8_advance_105 (by decide) ?_
          refine lv_icmp_eq (tgt := 116) hx hb dX8_advance_107 (by decide) (fun c50824 => ?_) (fun c50824 => ?_)
          · have w50825 := cv_eq (rfl : z50814.toInt = z50814.toInt) (by decide : (59 : Int32).toInt = 59) c50824
            have w50826 := (fun h => (iz50814 h)) (by omega)
            exact K116 z50814 p0 z50808 z50809 z50810 z50809 _ _ _ _ (by omega) m0 g0 (by omega) (by omega) (by omega) (by omega) hT hfr pf0 qz50808 qz50809 qz50810 v50812 (lv_sub hl [1, 0] rfl)
          · have w50827 := cv_ne (rfl : z50814.toInt = z50814.toInt) (by decide : (59 : Int32).toInt = 59) c50824
            have w50828 := (fun h => (iz50814 h)) (by omega)
            refine lv_iload_n hx hb dX8_advance_110 rfl (lv_at hl 0 rfl) ?_
            refine lv_bipush (v := 44) hx hb dX8_advance_111 (by decide) ?_
            refine lv_icmp_ne (tgt := 120) hx hb dX8_advance_113 (by decide) (fun c50829 => ?_) (fun c50829 => ?_)
            · have w50830 := cv_ne (rfl : z50814.toInt = z50814.toInt) (by decide : (44 : Int32).toInt = 44) c50829
              have w50831 := (fun h => (iz50814 h)) (by omega)
              refine lv_iconst (v := 4) hx hb dX8_advance_120 (by decide) ?_
              exact K121 z50814 4 p0 z50808 z50809 z50810 z50809 _ _ _ _ (by omega) (by decide) m0 g0 (by omega) (by omega) (by omega) (by omega) hT hfr pf0 qz50808 qz50809 qz50810 v50812 (lv_sub hl [1, 0] rfl)
            · have w50832 := cv_eq (rfl : z50814.toInt = z50814.toInt) (by decide : (44 : Int32).toInt = 44) c50829
              have w50833 := (fun h => (iz50814 h)) (by omega)
              exact K116 z50814 p0 z50808 z50809 z50810 z50809 _ _ _ _ (by omega) m0 g0 (by omega) (by omega) (by omega) (by omega) hT hfr pf0 qz50808 qz50809 qz50810 v50812 (lv_sub hl [1, 0] rfl)
        · have w50834 := cv_ne (rfl : z50821.toInt = z50821.toInt) (by decide : (0 : Int32).toInt = 0) c50822
          refine lv_aload_n hx hb dX8_advance_96 rfl (lv_at hl 1 rfl) ?_
          refine t_cVv (n := 0) (C := RX8) (T := TX8) (N := 8) (As := []) (rest := []) X hT (kt142_X8_takeWhole l G tag L F hT.2.2.2 p0 x0 m0 g0 mx0 gx0 pf0) m0 g0 rfl rfl qw_219 qw_220 qw_221 qw_72 qw_222 ⟨rfl, by decide +kernel, by decide +kernel, by decide +kernel⟩ ⟨Nat.le_of_ble_eq_true rfl, Nat.le_of_ble_eq_true rfl⟩ hl rfl rfl (Nat.le_of_ble_eq_true rfl) dX8_advance_97 ⟨Nat.le_of_ble_eq_true rfl, Nat.le_of_ble_eq_true rfl⟩ (fun F H locs hT hz50835 => ?_)
          have yz50835 := hz50835
          have qz50808 := (yz50835 _ 5 (Or.inr (by decide)) (Or.inr (by decide)) (Or.inr (by decide))).trans qz50808
          have qz50810 := (yz50835 _ 1 (Or.inr (by decide)) (Or.inr (by decide)) (Or.inr (by decide))).trans qz50810
          have pf0 := (yz50835 _ 0 (Or.inr (by decide)) (Or.inr (by decide)) (Or.inr (by decide))).trans pf0
          have v50812 := (yz50835 _ 4 (Or.inr (by decide)) (Or.inr (by decide)) (Or.inr (by decide))).trans v50812
          have hfr : ∀ b j : Nat, (tag b ≠ 24 ∨ j ≠ 2) → (tag b ≠ 24 ∨ j ≠ 3) → (tag b ≠ 24 ∨ j ≠ 4) → (tag b ≠ 24 ∨ j ≠ 5) → (tag b ≠ 24 ∨ j ≠ 6) → (tag b ≠ 24 ∨ j ≠ 7) → fld F b j = fld Fo b j := fun b j n24_2 n24_3 n24_4 n24_5 n24_6 n24_7 => (yz50835 b j n24_2 n24_3 n24_6).trans (hfr b j n24_2 n24_3 n24_4 n24_5 n24_6 n24_7)
          refine lv_goto (tgt := 139) hx hb dX8_advance_100 (by decide) ?_
          exact t_vret hQ X hT hfr (Nat.le_of_ble_eq_true rfl) (Nat.le_of_ble_eq_true rfl) dX8_advance_139
      · have w50836 := cv_ne (rfl : z50818.toInt = z50818.toInt) (by decide : (0 : Int32).toInt = 0) c50819
        refine lv_aload_n hx hb dX8_advance_82 rfl (lv_at hl 1 rfl) ?_
        refine t_cVv (n := 0) (C := RX8) (T := TX8) (N := 8) (As := []) (rest := []) X hT (kt143_X8_takeWord l G tag L F hT.2.2.2 p0 x0 m0 g0 mx0 gx0 pf0) m0 g0 rfl rfl qw_211 qw_212 qw_213 qw_72 qw_214 ⟨rfl, by decide +kernel, by decide +kernel, by decide +kernel⟩ ⟨Nat.le_of_ble_eq_true rfl, Nat.le_of_ble_eq_true rfl⟩ hl rfl rfl (Nat.le_of_ble_eq_true rfl) dX8_advance_83 ⟨Nat.le_of_ble_eq_true rfl, Nat.le_of_ble_eq_true rfl⟩ (fun F H locs hT hz50837 => ?_)
        have yz50837 := hz50837
        have qz50808 := (yz50837 _ 5 (Or.inr (by decide)) (Or.inr (by decide)) (Or.inr (by decide))).trans qz50808
        have qz50810 := (yz50837 _ 1 (Or.inr (by decide)) (Or.inr (by decide)) (Or.inr (by decide))).trans qz50810
        have pf0 := (yz50837 _ 0 (Or.inr (by decide)) (Or.inr (by decide)) (Or.inr (by decide))).trans pf0
        have v50812 := (yz50837 _ 4 (Or.inr (by decide)) (Or.inr (by decide)) (Or.inr (by decide))).trans v50812
        have hfr : ∀ b j : Nat, (tag b ≠ 24 ∨ j ≠ 2) → (tag b ≠ 24 ∨ j ≠ 3) → (tag b ≠ 24 ∨ j ≠ 4) → (tag b ≠ 24 ∨ j ≠ 5) → (tag b ≠ 24 ∨ j ≠ 6) → (tag b ≠ 24 ∨ j ≠ 7) → fld F b j = fld Fo b j := fun b j n24_2 n24_3 n24_4 n24_5 n24_6 n24_7 => (yz50837 b j n24_2 n24_3 n24_7).trans (hfr b j n24_2 n24_3 n24_4 n24_5 n24_6 n24_7)
        refine lv_goto (tgt := 139) hx hb dX8_advance_86 (by decide) ?_
        exact t_vret hQ X hT hfr (Nat.le_of_ble_eq_true rfl) (Nat.le_of_ble_eq_true rfl) dX8_advance_139
    · have w50838 := cv_eq (rfl : z50814.toInt = z50814.toInt) (by decide : ((-1) : Int32).toInt = (-1)) c50815
      refine lv_aload_n hx hb dX8_advance_67 rfl (lv_at hl 1 rfl) ?_
      refine lv_iconst (v := 0) hx hb dX8_advance_68 (by decide) ?_
      refine t_put (C := RX8) (T := TX8) (N := 8) (v := .int 0) X hT m0 g0 rfl tyX8 tyX8_ok nmX8 rfl 3 (by decide) qw_202 inlX8 rfl (by first | rfl | decide) (by first | rfl | decide) rfl (⟨_, rfl, (by decide), (by decide)⟩) dX8_advance_69 (fun F H locs hT v50839 h1v50839 h2v50839 => ?_)
      have qz50808 := (h1v50839 _ _ (Or.inr (by decide))).trans qz50808
      have qz50809 := (h1v50839 _ _ (Or.inr (by decide))).trans qz50809
      have qz50810 := (h1v50839 _ _ (Or.inr (by decide))).trans qz50810
      have pf0 := (h1v50839 _ _ (Or.inr (by decide))).trans pf0
      have v50812 := (h1v50839 _ _ (Or.inr (by decide))).trans v50812
      have hfr : ∀ b j : Nat, (tag b ≠ 24 ∨ j ≠ 2) → (tag b ≠ 24 ∨ j ≠ 3) → (tag b ≠ 24 ∨ j ≠ 4) → (tag b ≠ 24 ∨ j ≠ 5) → (tag b ≠ 24 ∨ j ≠ 6) → (tag b ≠ 24 ∨ j ≠ 7) → fld F b j = fld Fo b j := fun b j n24_2 n24_3 n24_4 n24_5 n24_6 n24_7 => (h1v50839 b j (fr_ne g0 n24_3)).trans (hfr b j n24_2 n24_3 n24_4 n24_5 n24_6 n24_7)
      refine lv_goto (tgt := 139) hx hb dX8_advance_72 (by decide) ?_
      exact t_vret hQ X hT hfr (Nat.le_of_ble_eq_true rfl) (Nat.le_of_ble_eq_true rfl) dX8_advance_139
  have K8 : ∀ (n : Nat) (z50840 : Int32) (z50841 : Int32) (z50842 : Int32) (F : Nat → va_E) (H : Heap) (locs : List Loc) (ls : Array Slot), (1000 - z50842.toInt < (n : Int)) → (0 ≤ z50840.toInt ∧ z50840.toInt ≤ 1000) → (0 ≤ z50841.toInt ∧ z50841.toInt ≤ 1000) → (0 ≤ z50842.toInt ∧ z50842.toInt ≤ 1000) → TH G ttC A s tag L F H locs → (∀ b j : Nat, (tag b ≠ 24 ∨ j ≠ 2) → (tag b ≠ 24 ∨ j ≠ 3) → (tag b ≠ 24 ∨ j ≠ 4) → (tag b ≠ 24 ∨ j ≠ 5) → (tag b ≠ 24 ∨ j ≠ 6) → (tag b ≠ 24 ∨ j ≠ 7) → fld F b j = fld Fo b j) → fld F p0 0 = .ref x0 → fld F p0 4 = .int z50840 → fld F p0 5 = .int z50841 → fld F p0 2 = .int z50842 → lv_has ls 2 [(0, .ref p0)] → W p l e { frames := 2, cells := 0, slots := 0, locals := 41 } s m args below meth c H locs 0 0 Q (F0 m 8 ls []) := by
    intro n
    induction n with
    | zero =>
      intro z50840 z50841 z50842 F H locs ls hn rz50840 rz50841 rz50842 hT hfr pf0 qz50840 qz50841 qz50842 hl
      exfalso
      omega
    | succ n ih8 =>
      intro z50840 z50841 z50842 F H locs ls hn rz50840 rz50841 rz50842 hT hfr pf0 qz50840 qz50841 qz50842 hl
      refine lv_aload_n hx hb dX8_advance_8 rfl (lv_at hl 0 rfl) ?_
      refine t_get (C := RX8) (T := TX8) (N := 8) X hT m0 g0 rfl rfl 2 (by decide) qw_195 inlX8 rfl dX8_advance_9 (fun v50843 hv50843 ov50843 => ?_)
      obtain rfl : v50843 = .int z50842 := hv50843.symm.trans qz50842
      refine lv_aload_n hx hb dX8_advance_12 rfl (lv_at hl 0 rfl) ?_
      refine t_get (C := RX8) (T := TX8) (N := 8) X hT m0 g0 rfl rfl 1 (by decide) qw_194 inlX8 rfl dX8_advance_13 (fun v50844 hv50844 ov50844 => ?_)
      obtain ⟨z50845, rfl, rz50845⟩ := okV_i ov50844
      refine lv_icmp_ge (tgt := 45) hx hb dX8_advance_16 (by decide) (fun c50846 => ?_) (fun c50846 => ?_)
      · have w50847 := cv_le (rfl : z50845.toInt = z50845.toInt) (rfl : z50842.toInt = z50842.toInt) c50846
        exact K45 z50840 z50841 z50842 z50845 _ _ _ _ (by omega) (by omega) (by omega) (by omega) hT hfr pf0 qz50840 qz50841 qz50842 hv50844 (lv_sub hl [0] rfl)
      · have w50848 := cv_nle (rfl : z50845.toInt = z50845.toInt) (rfl : z50842.toInt = z50842.toInt) c50846
        refine lv_aload_n hx hb dX8_advance_19 rfl (lv_at hl 0 rfl) ?_
        refine lv_aload_n hx hb dX8_advance_20 rfl (lv_at hl 0 rfl) ?_
        refine t_get (C := RX8) (T := TX8) (N := 8) X hT m0 g0 rfl rfl 2 (by decide) qw_195 inlX8 rfl dX8_advance_21 (fun v50849 hv50849 ov50849 => ?_)
        obtain rfl : v50849 = .int z50842 := hv50849.symm.trans qz50842
        refine t_cVi (n := 1) (C := RX8) (T := TX8) (N := 8) (As := [.int z50842]) (rest := []) X hT (kt139_X8_byteAt l G tag L F hT.2.2.2 p0 z50842 x0 m0 g0 mx0 gx0 pf0) m0 g0 rfl rfl qw_204 qw_205 qw_206 qw_72 qw_207 ⟨rfl, by decide +kernel, by decide +kernel, by decide +kernel⟩ ⟨Nat.le_of_ble_eq_true rfl, Nat.le_of_ble_eq_true rfl⟩ hl rfl rfl (Nat.le_of_ble_eq_true rfl) dX8_advance_24 ⟨Nat.le_of_ble_eq_true rfl, Nat.le_of_ble_eq_true rfl⟩ (fun z50850 F9 H locs hT hz50850 => ?_)
        obtain ⟨fz50850, hz50850⟩ := hz50850
        rw [fz50850] at hT
        obtain ⟨hz50850, iz50850⟩ := hz50850
        refine lv_bipush (v := 32) hx hb dX8_advance_27 (by decide) ?_
        refine lv_icmp_ne (tgt := 45) hx hb dX8_advance_29 (by decide) (fun c50851 => ?_) (fun c50851 => ?_)
        · have w50852 := cv_ne (rfl : z50850.toInt = z50850.toInt) (by decide : (32 : Int32).toInt = 32) c50851
          exact K45 z50840 z50841 z50842 z50845 _ _ _ _ (by omega) (by omega) (by omega) (by omega) hT hfr pf0 qz50840 qz50841 qz50842 hv50844 (lv_sub hl [0] rfl)
        · have w50853 := cv_eq (rfl : z50850.toInt = z50850.toInt) (by decide : (32 : Int32).toInt = 32) c50851
          have w50854 := (fun h => (iz50850 h)) (by omega)
          refine lv_aload_n hx hb dX8_advance_32 rfl (lv_at hl 0 rfl) ?_
          refine lv_dup hx hb dX8_advance_33 rfl ?_
          refine t_get (C := RX8) (T := TX8) (N := 8) X hT m0 g0 rfl rfl 2 (by decide) qw_195 inlX8 rfl dX8_advance_34 (fun v50855 hv50855 ov50855 => ?_)
          obtain rfl : v50855 = .int z50842 := hv50855.symm.trans qz50842
          refine lv_iconst (v := 1) hx hb dX8_advance_37 (by decide) ?_
          refine lv_iadd hx hb dX8_advance_38 ?_
          refine lv_topi (fun z50856 ez50856 => ?_)
          have hz50856 : z50856.toInt = z50842.toInt + 1 := ar_add ez50856 (rfl : z50842.toInt = z50842.toInt) (by decide : (1 : Int32).toInt = 1) (by omega) (by omega)
          have rz50856 : 1 ≤ z50856.toInt ∧ z50856.toInt ≤ 1000 := by omega
          refine t_put (C := RX8) (T := TX8) (N := 8) (v := .int z50856) X hT m0 g0 rfl tyX8 tyX8_ok nmX8 rfl 2 (by decide) qw_195 inlX8 rfl (by first | rfl | decide) (by first | rfl | decide) rfl (⟨_, rfl, (by omega), (by omega)⟩) dX8_advance_39 (fun F H locs hT v50857 h1v50857 h2v50857 => ?_)
          have qz50840 := (h1v50857 _ _ (Or.inr (by decide))).trans qz50840
          have qz50841 := (h1v50857 _ _ (Or.inr (by decide))).trans qz50841
          have pf0 := (h1v50857 _ _ (Or.inr (by decide))).trans pf0
          have hv50844 := (h1v50857 _ _ (Or.inr (by decide))).trans hv50844
          have hfr : ∀ b j : Nat, (tag b ≠ 24 ∨ j ≠ 2) → (tag b ≠ 24 ∨ j ≠ 3) → (tag b ≠ 24 ∨ j ≠ 4) → (tag b ≠ 24 ∨ j ≠ 5) → (tag b ≠ 24 ∨ j ≠ 6) → (tag b ≠ 24 ∨ j ≠ 7) → fld F b j = fld Fo b j := fun b j n24_2 n24_3 n24_4 n24_5 n24_6 n24_7 => (h1v50857 b j (fr_ne g0 n24_2)).trans (hfr b j n24_2 n24_3 n24_4 n24_5 n24_6 n24_7)
          refine lv_goto (tgt := 8) hx hb dX8_advance_42 (by decide) ?_
          exact ih8 z50840 z50841 z50856 _ _ _ _ (by omega) (by omega) (by omega) (by omega) hT hfr pf0 qz50840 qz50841 v50857 (lv_sub hl [0] rfl)
  refine lv_aload_n hx hb dX8_advance_0 rfl (lv_at hl 0 rfl) ?_
  refine lv_aload_n hx hb dX8_advance_1 rfl (lv_at hl 0 rfl) ?_
  refine t_get (C := RX8) (T := TX8) (N := 8) X hT m0 g0 rfl rfl 4 (by decide) qw_200 inlX8 rfl dX8_advance_2 (fun v50858 hv50858 ov50858 => ?_)
  obtain ⟨z50859, rfl, rz50859⟩ := okV_i ov50858
  refine t_put (C := RX8) (T := TX8) (N := 8) (v := .int z50859) X hT m0 g0 rfl tyX8 tyX8_ok nmX8 rfl 5 (by decide) qw_201 inlX8 rfl (by first | rfl | decide) (by first | rfl | decide) rfl (⟨_, rfl, (by omega), (by omega)⟩) dX8_advance_5 (fun F H locs hT v50860 h1v50860 h2v50860 => ?_)
  have pf0 := (h1v50860 _ _ (Or.inr (by decide))).trans pf0
  have hv50858 := (h1v50860 _ _ (Or.inr (by decide))).trans hv50858
  have hfr : ∀ b j : Nat, (tag b ≠ 24 ∨ j ≠ 2) → (tag b ≠ 24 ∨ j ≠ 3) → (tag b ≠ 24 ∨ j ≠ 4) → (tag b ≠ 24 ∨ j ≠ 5) → (tag b ≠ 24 ∨ j ≠ 6) → (tag b ≠ 24 ∨ j ≠ 7) → fld F b j = fld Fo b j := fun b j n24_2 n24_3 n24_4 n24_5 n24_6 n24_7 => (h1v50860 b j (fr_ne g0 n24_5)).trans (hfr b j n24_2 n24_3 n24_4 n24_5 n24_6 n24_7)
  obtain ⟨z50861, qz50861, rz50861⟩ := t_fld hT m0 g0 rfl 2 rfl
  have rz50861 : 0 ≤ z50861.toInt ∧ z50861.toInt ≤ 1000 := rz50861
  exact K8 1001 z50859 z50859 z50861 _ _ _ _ (by omega) (by omega) (by omega) (by omega) hT hfr pf0 hv50858 v50860 qz50861 (lv_sub hl [0] rfl)
set_option maxHeartbeats 4000000 in
set_option maxRecDepth 100000 in
theorem kt145_X11_isWall (l : Launch) (G : KG) (tag : Nat → Nat) (L : List Nat) (F : Nat → va_E) (ho : okT G ttC tag L F) (p0 : Nat) (p1 : Int32) (m0 : p0 ∈ L) (g0 : tag p0 = 26) : TMi l yX11_isWall cX11_isWall 2 (some .boolean) { frames := 0, cells := 0, slots := 0, locals := 0 } G ttC tag L F [.ref p0, .int p1] (fun r F1 => F1 = F ∧ ((0 ≤ r.toInt ∧ r.toInt ≤ 1) ∧ (r.toInt ≠ 0 → (0 ≤ p1.toInt ∧ p1.toInt ≤ 5)))) := by
  refine t_bodyi (y := yX11_isWall) (cd := cX11_isWall) (mL := 2) (rt := (some .boolean)) (rm := { frames := 0, cells := 0, slots := 0, locals := 0 }) (av := [.ref p0, .int p1]) (by decide) (Nat.le_of_ble_eq_true rfl) ho ?_
  intro p e s m args below meth c ls A Q hQ X hT hl
  have hx := X.1.1
  have hb := X.1.2.1
  have hl : lv_has ls 2 [(0, .ref p0), (1, .int p1)] := hl
  have rp1 := rg_all p1
  refine lv_aload_n hx hb dX11_isWall_0 rfl (lv_at hl 0 rfl) ?_
  refine t_get (C := RX11) (T := TX11) (N := 16) X hT m0 g0 rfl rfl 2 (by decide) qw_150 inlX11 rfl dX11_isWall_1 (fun v51070 hv51070 ov51070 => ?_)
  obtain ⟨z51071, rfl, rz51071⟩ := okV_i ov51070
  refine lv_if_eq (tgt := 26) hx hb dX11_isWall_4 (by decide) (fun c51072 => ?_) (fun c51072 => ?_)
  · have w51073 := cv_eq (rfl : z51071.toInt = z51071.toInt) (by decide : (0 : Int32).toInt = 0) c51072
    refine lv_iconst (v := 0) hx hb dX11_isWall_26 (by decide) ?_
    exact t_zret hQ X hT (by decide) (⟨rfl, ⟨(by decide), fun h => absurd (by decide) h⟩⟩) (Nat.le_of_ble_eq_true rfl) (Nat.le_of_ble_eq_true rfl) dX11_isWall_27
  · have w51074 := cv_ne (rfl : z51071.toInt = z51071.toInt) (by decide : (0 : Int32).toInt = 0) c51072
    refine lv_iload_n hx hb dX11_isWall_7 rfl (lv_at hl 1 rfl) ?_
    refine lv_if_lt (tgt := 26) hx hb dX11_isWall_8 (by decide) (fun c51075 => ?_) (fun c51075 => ?_)
    · have w51076 := cv_lt (rfl : p1.toInt = p1.toInt) (by decide : (0 : Int32).toInt = 0) c51075
      refine lv_iconst (v := 0) hx hb dX11_isWall_26 (by decide) ?_
      exact t_zret hQ X hT (by decide) (⟨rfl, ⟨(by decide), fun h => absurd (by decide) h⟩⟩) (Nat.le_of_ble_eq_true rfl) (Nat.le_of_ble_eq_true rfl) dX11_isWall_27
    · have w51077 := cv_nlt (rfl : p1.toInt = p1.toInt) (by decide : (0 : Int32).toInt = 0) c51075
      refine lv_iload_n hx hb dX11_isWall_11 rfl (lv_at hl 1 rfl) ?_
      refine lv_aload_n hx hb dX11_isWall_12 rfl (lv_at hl 0 rfl) ?_
      refine t_get (C := RX11) (T := TX11) (N := 16) X hT m0 g0 rfl rfl 3 (by decide) qw_18 inlX11 rfl dX11_isWall_13 (fun v51078 hv51078 ov51078 => ?_)
      obtain ⟨b51079, rfl, mb51079, gb51079⟩ := okV_r ov51078
      have gb51079 : tag b51079 = 18 := tg_of gb51079
      refine t_get (C := RX1) (T := TX1) (N := 20) X hT mb51079 gb51079 rfl rfl 16 (by decide) qw_1383 inlX1 rfl dX11_isWall_16 (fun v51080 hv51080 ov51080 => ?_)
      obtain ⟨z51081, rfl, rz51081⟩ := okV_i ov51080
      refine lv_icmp_ge (tgt := 26) hx hb dX11_isWall_19 (by decide) (fun c51082 => ?_) (fun c51082 => ?_)
      · have w51083 := cv_le (rfl : z51081.toInt = z51081.toInt) (rfl : p1.toInt = p1.toInt) c51082
        refine lv_iconst (v := 0) hx hb dX11_isWall_26 (by decide) ?_
        exact t_zret hQ X hT (by decide) (⟨rfl, ⟨(by decide), fun h => absurd (by decide) h⟩⟩) (Nat.le_of_ble_eq_true rfl) (Nat.le_of_ble_eq_true rfl) dX11_isWall_27
      · have w51084 := cv_nle (rfl : z51081.toInt = z51081.toInt) (rfl : p1.toInt = p1.toInt) c51082
        refine lv_iconst (v := 1) hx hb dX11_isWall_22 (by decide) ?_
        refine lv_goto (tgt := 27) hx hb dX11_isWall_23 (by decide) ?_
        exact t_zret hQ X hT (by decide) (⟨rfl, ⟨(by decide), fun _ => by omega⟩⟩) (Nat.le_of_ble_eq_true rfl) (Nat.le_of_ble_eq_true rfl) dX11_isWall_27
set_option maxHeartbeats 4000000 in
set_option maxRecDepth 100000 in
theorem kt146_X5_begin (l : Launch) (G : KG) (tag : Nat → Nat) (L : List Nat) (Fo : Nat → va_E) (ho : okT G ttC tag L Fo) (p0 : Nat) (p1 : Int32) (m0 : p0 ∈ L) (g0 : tag p0 = 11) (h1 : 0 ≤ p1.toInt ∧ p1.toInt ≤ 6) : TMv l yX5_begin cX5_begin 3 { frames := 0, cells := 0, slots := 0, locals := 0 } G ttC tag L Fo [.ref p0, .int p1] (fun F1 => ∀ b j : Nat, fld F1 b j = fld Fo b j) := by
  refine t_bodyv (y := yX5_begin) (cd := cX5_begin) (mL := 3) (rm := { frames := 0, cells := 0, slots := 0, locals := 0 }) (av := [.ref p0, .int p1]) (by decide) (Nat.le_of_ble_eq_true rfl) ho ?_
  intro p e s m args below meth c ls A Q hQ X hT hl
  have hx := X.1.1
  have hb := X.1.2.1
  have hl : lv_has ls 3 [(0, .ref p0), (1, .int p1)] := hl
  obtain ⟨F, hFo⟩ : ∃ F : Nat → va_E, F = Fo := ⟨_, rfl⟩
  rw [← hFo] at hT
  have hfr : ∀ b j : Nat, fld F b j = fld Fo b j := by
    rw [hFo]
    intros
    rfl
  have K2 : ∀ (n : Nat) (z51366 : Int32) (F : Nat → va_E) (H : Heap) (locs : List Loc) (ls : Array Slot), (6 - z51366.toInt < (n : Int)) → (0 ≤ z51366.toInt ∧ z51366.toInt ≤ 6) → TH G ttC A s tag L F H locs → (∀ b j : Nat, fld F b j = fld Fo b j) → lv_has ls 3 [(0, .ref p0), (1, .int p1), (2, .int z51366)] → W p l e { frames := 0, cells := 0, slots := 0, locals := 0 } s m args below meth c H locs 0 0 Q (F0 m 2 ls []) := by
    intro n
    induction n with
    | zero =>
      intro z51366 F H locs ls hn rz51366 hT hfr hl
      exfalso
      omega
    | succ n ih2 =>
      intro z51366 F H locs ls hn rz51366 hT hfr hl
      refine lv_iload_n hx hb dX5_begin_2 rfl (lv_at hl 2 rfl) ?_
      refine lv_iload_n hx hb dX5_begin_3 rfl (lv_at hl 1 rfl) ?_
      refine lv_icmp_ge (tgt := 23) hx hb dX5_begin_4 (by decide) (fun c51367 => ?_) (fun c51367 => ?_)
      · have w51368 := cv_le (rfl : p1.toInt = p1.toInt) (rfl : z51366.toInt = z51366.toInt) c51367
        exact t_vret hQ X hT hfr (Nat.le_of_ble_eq_true rfl) (Nat.le_of_ble_eq_true rfl) dX5_begin_23
      · have w51369 := cv_nle (rfl : p1.toInt = p1.toInt) (rfl : z51366.toInt = z51366.toInt) c51367
        refine lv_iload_n hx hb dX5_begin_7 rfl (lv_at hl 2 rfl) ?_
        refine lv_aload_n hx hb dX5_begin_8 rfl (lv_at hl 0 rfl) ?_
        refine t_alen X hT m0 g0 rfl (by decide) dX5_begin_9 ?_
        refine lv_topi (fun z51370 ez51370 => ?_)
        obtain rfl : z51370 = 6 := ez51370.trans (by rfl)
        refine lv_icmp_ge (tgt := 23) hx hb dX5_begin_10 (by decide) (fun c51371 => ?_) (fun c51371 => ?_)
        · have w51372 := cv_le (by decide : (6 : Int32).toInt = 6) (rfl : z51366.toInt = z51366.toInt) c51371
          exfalso
          omega
        · have w51373 := cv_nle (by decide : (6 : Int32).toInt = 6) (rfl : z51366.toInt = z51366.toInt) c51371
          refine lv_aload_n hx hb dX5_begin_13 rfl (lv_at hl 0 rfl) ?_
          refine lv_iload_n hx hb dX5_begin_14 rfl (lv_at hl 2 rfl) ?_
          refine lv_iload_n hx hb dX5_begin_15 rfl (lv_at hl 2 rfl) ?_
          refine t_ist X hT m0 g0 rfl (by omega) (show 0 ≤ (z51366 : Int32).toInt ∧ (z51366 : Int32).toInt ≤ 5 from (by omega)) dX5_begin_16 (fun F H locs hT v51374 h1v51374 h2v51374 => ?_)
          have hfr : ∀ b j : Nat, fld F b j = fld Fo b j := fun b j  => (h2v51374 b j).trans (hfr b j )
          obtain ⟨z51375, ez51375⟩ : ∃ y : Int32, y = z51366 + 1 := ⟨_, rfl⟩
          have hz51375 : z51375.toInt = z51366.toInt + 1 := ar_add ez51375 rfl (by decide : (1 : Int32).toInt = 1) (by omega) (by omega)
          refine lv_iinc (v := z51375) (lv' := [(2, .int z51375), (0, .ref p0), (1, .int p1)]) hx hb dX5_begin_17 hl (k := 2) rfl (by rw [ez51375]; rfl) (by decide) rfl (fun ls hl => ?_)
          refine lv_goto (tgt := 2) hx hb dX5_begin_20 (by decide) ?_
          exact ih2 z51375 _ _ _ _ (by omega) (by omega) hT hfr  (lv_sub hl [1, 2, 0] rfl)
  refine lv_iconst (v := 0) hx hb dX5_begin_0 (by decide) ?_
  refine lv_istore_n (lv' := [(2, .int 0), (0, .ref p0), (1, .int p1)]) hx hb dX5_begin_1 rfl hl (by decide) rfl (fun ls hl => ?_)
  have kk51376 : (0 : Int32).toInt = 0 := by decide
  exact K2 7 0 _ _ _ _ (by omega) (by decide) hT hfr  (lv_sub hl [1, 2, 0] rfl)
set_option maxHeartbeats 4000000 in
set_option maxRecDepth 100000 in
theorem kt147_X9_lastFor (l : Launch) (G : KG) (tag : Nat → Nat) (L : List Nat) (F : Nat → va_E) (ho : okT G ttC tag L F) (p0 : Nat) (p1 : Int32) (p2 : Int32) (m0 : p0 ∈ L) (g0 : tag p0 = 18) (h2 : 0 ≤ p2.toInt ∧ p2.toInt ≤ 5) : TMi l yX9_lastFor cX9_lastFor 4 (some .int) { frames := 1, cells := 0, slots := 0, locals := 13 } G ttC tag L F [.ref p0, .int p1, .int p2] (fun r F1 => F1 = F ∧ ((-2147483648) ≤ r.toInt ∧ r.toInt ≤ 2147483647)) := by
  refine t_bodyi (y := yX9_lastFor) (cd := cX9_lastFor) (mL := 4) (rt := (some .int)) (rm := { frames := 1, cells := 0, slots := 0, locals := 13 }) (av := [.ref p0, .int p1, .int p2]) (by decide) (Nat.le_of_ble_eq_true rfl) ho ?_
  intro p e s m args below meth c ls A Q hQ X hT hl
  have hx := X.1.1
  have hb := X.1.2.1
  have hl : lv_has ls 4 [(0, .ref p0), (1, .int p1), (2, .int p2)] := hl
  have rp1 := rg_all p1
  refine lv_iload_n hx hb dX9_lastFor_0 rfl (lv_at hl 1 rfl) ?_
  refine lv_iconst (v := 1) hx hb dX9_lastFor_1 (by decide) ?_
  refine lv_isub hx hb dX9_lastFor_2 ?_
  refine lv_topi (fun z51558 ez51558 => ?_)
  have rz51558 := rg_all z51558
  refine lv_istore_n (lv' := [(3, .int z51558), (0, .ref p0), (1, .int p1), (2, .int p2)]) hx hb dX9_lastFor_3 rfl hl (by decide) rfl (fun ls hl => ?_)
  refine lv_aload_n hx hb dX9_lastFor_4 rfl (lv_at hl 1 rfl) ?_
  refine t_get (C := RX1) (T := TX1) (N := 20) X hT m0 g0 rfl rfl 19 (by decide) qw_1350 inlX1 rfl dX9_lastFor_5 (fun v51559 hv51559 ov51559 => ?_)
  obtain ⟨b51560, rfl, mb51560, gb51560⟩ := okV_r ov51559
  have gb51560 : tag b51560 = 7 := tg_of gb51560
  refine lv_iload_n hx hb dX9_lastFor_8 rfl (lv_at hl 3 rfl) ?_
  refine t_ild X hT mb51560 gb51560 rfl (by omega) dX9_lastFor_9 (fun z51561 vz51561 rz51561 => ?_)
  have rz51561 : (-2147483648) ≤ z51561.toInt ∧ z51561.toInt ≤ 2147483647 := rz51561
  refine lv_iconst (v := (-1)) hx hb dX9_lastFor_10 (by decide) ?_
  refine lv_icmp_ne (tgt := 18) hx hb dX9_lastFor_11 (by decide) (fun c51562 => ?_) (fun c51562 => ?_)
  · have w51563 := cv_ne (rfl : z51561.toInt = z51561.toInt) (by decide : ((-1) : Int32).toInt = (-1)) c51562
    refine lv_iload_n hx hb dX9_lastFor_18 rfl (lv_at hl 0 rfl) ?_
    refine lv_aload_n hx hb dX9_lastFor_19 rfl (lv_at hl 1 rfl) ?_
    refine t_get (C := RX1) (T := TX1) (N := 20) X hT m0 g0 rfl rfl 19 (by decide) qw_1350 inlX1 rfl dX9_lastFor_20 (fun v51564 hv51564 ov51564 => ?_)
    obtain rfl : v51564 = .ref b51560 := hv51564.symm.trans hv51559
    refine lv_iload_n hx hb dX9_lastFor_23 rfl (lv_at hl 3 rfl) ?_
    refine t_ild X hT mb51560 gb51560 rfl (by omega) dX9_lastFor_24 (fun z51565 vz51565 rz51565 => ?_)
    obtain rfl : z51561 = z51565 := vz51561.symm.trans vz51565
    refine lv_iconst (v := 1) hx hb dX9_lastFor_25 (by decide) ?_
    refine lv_isub hx hb dX9_lastFor_26 ?_
    refine lv_topi (fun z51566 ez51566 => ?_)
    have rz51566 := rg_all z51566
    refine t_mmin X hl qw_1351 qw_1018 qw_850 qw_1019 (Nat.le_of_ble_eq_true rfl) (Nat.le_of_ble_eq_true rfl) (Nat.le_of_ble_eq_true rfl) (Nat.le_of_ble_eq_true rfl) dX9_lastFor_27 (fun z51567 ez51567 => ?_)
    have hz51567 := mmin_e ez51567 (rfl : z51558.toInt = z51558.toInt) (rfl : z51566.toInt = z51566.toInt)
    exact t_iret hQ X hT (⟨rfl, rg_all _⟩) (Nat.le_of_ble_eq_true rfl) (Nat.le_of_ble_eq_true rfl) dX9_lastFor_30
  · have w51568 := cv_eq (rfl : z51561.toInt = z51561.toInt) (by decide : ((-1) : Int32).toInt = (-1)) c51562
    refine lv_iload_n hx hb dX9_lastFor_14 rfl (lv_at hl 0 rfl) ?_
    refine lv_goto (tgt := 30) hx hb dX9_lastFor_15 (by decide) ?_
    exact t_iret hQ X hT (⟨rfl, rg_all _⟩) (Nat.le_of_ble_eq_true rfl) (Nat.le_of_ble_eq_true rfl) dX9_lastFor_30
set_option maxHeartbeats 4000000 in
set_option maxRecDepth 100000 in
theorem kt148_X9_canBe (l : Launch) (G : KG) (tag : Nat → Nat) (L : List Nat) (Fo : Nat → va_E) (ho : okT G ttC tag L Fo) (p0 : Nat) (p1 : Nat) (p2 : Int32) (m0 : p0 ∈ L) (g0 : tag p0 = 22) (m1 : p1 ∈ L) (g1 : tag p1 = 18) : TMi l yX9_canBe cX9_canBe 8 (some .boolean) { frames := 2, cells := 0, slots := 0, locals := 36 } G ttC tag L Fo [.ref p0, .ref p1, .int p2] (fun r F1 => (0 ≤ r.toInt ∧ r.toInt ≤ 1) ∧ (∀ b j : Nat, fld F1 b j = fld Fo b j)) := by
  refine t_bodyi (y := yX9_canBe) (cd := cX9_canBe) (mL := 8) (rt := (some .boolean)) (rm := { frames := 2, cells := 0, slots := 0, locals := 36 }) (av := [.ref p0, .ref p1, .int p2]) (by decide) (Nat.le_of_ble_eq_true rfl) ho ?_
  intro p e s m args below meth c ls A Q hQ X hT hl
  have hx := X.1.1
  have hb := X.1.2.1
  have hl : lv_has ls 8 [(0, .ref p0), (1, .ref p1), (2, .int p2)] := hl
  have rp2 := rg_all p2
  obtain ⟨F, hFo⟩ : ∃ F : Nat → va_E, F = Fo := ⟨_, rfl⟩
  rw [← hFo] at hT
  have hfr : ∀ b j : Nat, fld F b j = fld Fo b j := by
    rw [hFo]
    intros
    rfl
  have K8 : ∀ (n : Nat) (z52109 : Int32) (z52110 : Int32) (z52111 : Int32) (F : Nat → va_E) (H : Heap) (locs : List Loc) (ls : Array Slot), (6 - z52111.toInt < (n : Int)) → (0 ≤ z52111.toInt ∧ z52111.toInt ≤ 6) → TH G ttC A s tag L F H locs → (∀ b j : Nat, fld F b j = fld Fo b j) → lv_has ls 8 [(0, .ref p0), (1, .ref p1), (2, .int p2), (3, .int z52109), (4, .int z52110), (5, .int z52111)] → W p l e { frames := 2, cells := 0, slots := 0, locals := 36 } s m args below meth c H locs 0 0 Q (F0 m 8 ls []) := by
    intro n
    induction n with
    | zero =>
      intro z52109 z52110 z52111 F H locs ls hn rz52111 hT hfr hl
      have rz52109 := rg_all z52109
      have rz52110 := rg_all z52110
      exfalso
      omega
    | succ n ih8 =>
      intro z52109 z52110 z52111 F H locs ls hn rz52111 hT hfr hl
      have rz52109 := rg_all z52109
      have rz52110 := rg_all z52110
      refine lv_iload hx hb dX9_canBe_8 (lv_at hl 5 rfl) ?_
      refine lv_aload_n hx hb dX9_canBe_10 rfl (lv_at hl 1 rfl) ?_
      refine t_get (C := RX1) (T := TX1) (N := 20) X hT m1 g1 rfl rfl 16 (by decide) qw_1338 inlX1 rfl dX9_canBe_11 (fun v52112 hv52112 ov52112 => ?_)
      obtain ⟨z52113, rfl, rz52113⟩ := okV_i ov52112
      refine lv_icmp_ge (tgt := 98) hx hb dX9_canBe_14 (by decide) (fun c52114 => ?_) (fun c52114 => ?_)
      · have w52115 := cv_le (rfl : z52113.toInt = z52113.toInt) (rfl : z52111.toInt = z52111.toInt) c52114
        refine lv_iconst (v := 1) hx hb dX9_canBe_98 (by decide) ?_
        exact t_zret hQ X hT (by decide) (⟨(by decide), hfr⟩) (Nat.le_of_ble_eq_true rfl) (Nat.le_of_ble_eq_true rfl) dX9_canBe_99
      · have w52116 := cv_nle (rfl : z52113.toInt = z52113.toInt) (rfl : z52111.toInt = z52111.toInt) c52114
        refine lv_aload_n hx hb dX9_canBe_17 rfl (lv_at hl 0 rfl) ?_
        refine t_get (C := RX9) (T := TX9) (N := 6) X hT m0 g0 rfl rfl 0 (by decide) qw_93 inlX9 rfl dX9_canBe_18 (fun v52117 hv52117 ov52117 => ?_)
        obtain ⟨b52118, rfl, mb52118, gb52118⟩ := okV_r ov52117
        have gb52118 : tag b52118 = 11 := tg_of gb52118
        refine lv_iload hx hb dX9_canBe_21 (lv_at hl 5 rfl) ?_
        refine t_ild X hT mb52118 gb52118 rfl (by omega) dX9_canBe_23 (fun z52119 vz52119 rz52119 => ?_)
        have rz52119 : 0 ≤ z52119.toInt ∧ z52119.toInt ≤ 5 := rz52119
        refine lv_istore (lv' := [(6, .int z52119), (0, .ref p0), (1, .ref p1), (2, .int p2), (3, .int z52109), (4, .int z52110), (5, .int z52111)]) hx hb dX9_canBe_24 hl (by decide) rfl (fun ls hl => ?_)
        refine lv_aload_n hx hb dX9_canBe_26 rfl (lv_at hl 2 rfl) ?_
        refine t_get (C := RX1) (T := TX1) (N := 20) X hT m1 g1 rfl rfl 17 (by decide) qw_1344 inlX1 rfl dX9_canBe_27 (fun v52120 hv52120 ov52120 => ?_)
        obtain ⟨b52121, rfl, mb52121, gb52121⟩ := okV_r ov52120
        have gb52121 : tag b52121 = 7 := tg_of gb52121
        refine lv_iload hx hb dX9_canBe_30 (lv_at hl 0 rfl) ?_
        refine t_ild X hT mb52121 gb52121 rfl (by omega) dX9_canBe_32 (fun z52122 vz52122 rz52122 => ?_)
        have rz52122 : (-2147483648) ≤ z52122.toInt ∧ z52122.toInt ≤ 2147483647 := rz52122
        refine lv_iload_n hx hb dX9_canBe_33 rfl (lv_at hl 4 rfl) ?_
        refine lv_iconst (v := (-1)) hx hb dX9_canBe_34 (by decide) ?_
        refine lv_ixor hx hb dX9_canBe_35 ?_
        refine lv_topi (fun z52123 ez52123 => ?_)
        have rz52123 := rg_all z52123
        refine lv_iand hx hb dX9_canBe_36 ?_
        refine lv_topi (fun z52124 ez52124 => ?_)
        have rz52124 := rg_all z52124
        refine lv_if_eq (tgt := 42) hx hb dX9_canBe_37 (by decide) (fun c52125 => ?_) (fun c52125 => ?_)
        · have w52126 := cv_eq (rfl : z52124.toInt = z52124.toInt) (by decide : (0 : Int32).toInt = 0) c52125
          refine lv_iload hx hb dX9_canBe_42 (lv_at hl 5 rfl) ?_
          refine lv_aload_n hx hb dX9_canBe_44 rfl (lv_at hl 2 rfl) ?_
          refine t_get (C := RX1) (T := TX1) (N := 20) X hT m1 g1 rfl rfl 18 (by decide) qw_1345 inlX1 rfl dX9_canBe_45 (fun v52127 hv52127 ov52127 => ?_)
          obtain ⟨b52128, rfl, mb52128, gb52128⟩ := okV_r ov52127
          have gb52128 : tag b52128 = 7 := tg_of gb52128
          refine lv_iload hx hb dX9_canBe_48 (lv_at hl 0 rfl) ?_
          refine t_ild X hT mb52128 gb52128 rfl (by omega) dX9_canBe_50 (fun z52129 vz52129 rz52129 => ?_)
          have rz52129 : (-2147483648) ≤ z52129.toInt ∧ z52129.toInt ≤ 2147483647 := rz52129
          refine t_mmax X hl qw_1346 qw_849 qw_850 qw_851 (Nat.le_of_ble_eq_true rfl) (Nat.le_of_ble_eq_true rfl) (Nat.le_of_ble_eq_true rfl) (Nat.le_of_ble_eq_true rfl) dX9_canBe_51 (fun z52130 ez52130 => ?_)
          have hz52130 := mmax_e ez52130 (rfl : z52110.toInt = z52110.toInt) (rfl : z52129.toInt = z52129.toInt)
          refine lv_istore (lv' := [(7, .int z52130), (6, .int z52119), (0, .ref p0), (1, .ref p1), (2, .int p2), (3, .int z52109), (4, .int z52110), (5, .int z52111)]) hx hb dX9_canBe_54 hl (by decide) rfl (fun ls hl => ?_)
          refine lv_iload hx hb dX9_canBe_56 (lv_at hl 0 rfl) ?_
          refine lv_aload_n hx hb dX9_canBe_58 rfl (lv_at hl 3 rfl) ?_
          refine lv_iload_n hx hb dX9_canBe_59 rfl (lv_at hl 4 rfl) ?_
          refine lv_iload hx hb dX9_canBe_60 (lv_at hl 1 rfl) ?_
          refine t_cSi (n := 3) (As := [.ref p1, .int p2, .int z52119]) (rest := [.int z52130]) X hT (kt147_X9_lastFor l G tag L F hT.2.2.2 p1 p2 z52119 m1 g1 (by omega)) qw_1347 qw_1348 qw_40 qw_1349 ⟨by decide +kernel, by decide +kernel, by decide +kernel⟩ ⟨Nat.le_of_ble_eq_true rfl, Nat.le_of_ble_eq_true rfl⟩ hl rfl rfl (Nat.le_of_ble_eq_true rfl) dX9_canBe_62 ⟨Nat.le_of_ble_eq_true rfl, Nat.le_of_ble_eq_true rfl⟩ (fun z52131 F9 H locs hT hz52131 => ?_)
          obtain ⟨fz52131, hz52131⟩ := hz52131
          rw [fz52131] at hT
          refine lv_icmp_le (tgt := 70) hx hb dX9_canBe_65 (by decide) (fun c52132 => ?_) (fun c52132 => ?_)
          · have w52133 := cv_le (rfl : z52130.toInt = z52130.toInt) (rfl : z52131.toInt = z52131.toInt) c52132
            refine lv_aload_n hx hb dX9_canBe_70 rfl (lv_at hl 2 rfl) ?_
            refine t_get (C := RX9) (T := TX9) (N := 6) X hT m0 g0 rfl rfl 1 (by decide) qw_94 inlX9 rfl dX9_canBe_71 (fun v52134 hv52134 ov52134 => ?_)
            obtain ⟨b52135, rfl, mb52135, gb52135⟩ := okV_r ov52134
            have gb52135 : tag b52135 = 7 := tg_of gb52135
            refine lv_iload hx hb dX9_canBe_74 (lv_at hl 7 rfl) ?_
            refine lv_iload hx hb dX9_canBe_76 (lv_at hl 0 rfl) ?_
            refine t_ist X hT mb52135 gb52135 rfl (by omega) (show (-2147483648) ≤ (z52130 : Int32).toInt ∧ (z52130 : Int32).toInt ≤ 2147483647 from (by omega)) dX9_canBe_78 (fun F H locs hT v52136 h1v52136 h2v52136 => ?_)
            have hv52112 := (h2v52136 _ _).trans hv52112
            have hv52117 := (h2v52136 _ _).trans hv52117
            have hv52120 := (h2v52136 _ _).trans hv52120
            have hv52127 := (h2v52136 _ _).trans hv52127
            have hv52134 := (h2v52136 _ _).trans hv52134
            have hfr : ∀ b j : Nat, fld F b j = fld Fo b j := fun b j  => (h2v52136 b j).trans (hfr b j )
            refine lv_iload hx hb dX9_canBe_79 (lv_at hl 0 rfl) ?_
            refine lv_iconst (v := 1) hx hb dX9_canBe_81 (by decide) ?_
            refine lv_iadd hx hb dX9_canBe_82 ?_
            refine lv_topi (fun z52137 ez52137 => ?_)
            have rz52137 := rg_all z52137
            refine lv_istore (lv' := [(4, .int z52137), (7, .int z52130), (6, .int z52119), (0, .ref p0), (1, .ref p1), (2, .int p2), (3, .int z52109), (5, .int z52111)]) hx hb dX9_canBe_83 hl (by decide) rfl (fun ls hl => ?_)
            refine lv_iload_n hx hb dX9_canBe_85 rfl (lv_at hl 6 rfl) ?_
            refine lv_iconst (v := 1) hx hb dX9_canBe_86 (by decide) ?_
            refine lv_iload hx hb dX9_canBe_87 (lv_at hl 2 rfl) ?_
            refine lv_ishl hx hb dX9_canBe_89 ?_
            refine lv_topi (fun z52138 ez52138 => ?_)
            have rz52138 := rg_all z52138
            refine lv_ior hx hb dX9_canBe_90 ?_
            refine lv_topi (fun z52139 ez52139 => ?_)
            have rz52139 := rg_all z52139
            refine lv_istore_n (lv' := [(3, .int z52139), (4, .int z52137), (7, .int z52130), (6, .int z52119), (0, .ref p0), (1, .ref p1), (2, .int p2), (5, .int z52111)]) hx hb dX9_canBe_91 rfl hl (by decide) rfl (fun ls hl => ?_)
            obtain ⟨z52140, ez52140⟩ : ∃ y : Int32, y = z52111 + 1 := ⟨_, rfl⟩
            have hz52140 : z52140.toInt = z52111.toInt + 1 := ar_add ez52140 rfl (by decide : (1 : Int32).toInt = 1) (by omega) (by omega)
            refine lv_iinc (v := z52140) (lv' := [(5, .int z52140), (3, .int z52139), (4, .int z52137), (7, .int z52130), (6, .int z52119), (0, .ref p0), (1, .ref p1), (2, .int p2)]) hx hb dX9_canBe_92 hl (k := 7) rfl (by rw [ez52140]; rfl) (by decide) rfl (fun ls hl => ?_)
            refine lv_goto (tgt := 8) hx hb dX9_canBe_95 (by decide) ?_
            exact ih8 z52139 z52137 z52140 _ _ _ _ (by omega) (by omega) hT hfr  (lv_sub hl [5, 6, 7, 1, 2, 0] rfl)
          · have w52141 := cv_nle (rfl : z52130.toInt = z52130.toInt) (rfl : z52131.toInt = z52131.toInt) c52132
            refine lv_iconst (v := 0) hx hb dX9_canBe_68 (by decide) ?_
            exact t_zret hQ X hT (by decide) (⟨(by decide), hfr⟩) (Nat.le_of_ble_eq_true rfl) (Nat.le_of_ble_eq_true rfl) dX9_canBe_69
        · have w52142 := cv_ne (rfl : z52124.toInt = z52124.toInt) (by decide : (0 : Int32).toInt = 0) c52125
          refine lv_iconst (v := 0) hx hb dX9_canBe_40 (by decide) ?_
          exact t_zret hQ X hT (by decide) (⟨(by decide), hfr⟩) (Nat.le_of_ble_eq_true rfl) (Nat.le_of_ble_eq_true rfl) dX9_canBe_41
  refine lv_iconst (v := 0) hx hb dX9_canBe_0 (by decide) ?_
  refine lv_istore_n (lv' := [(3, .int 0), (0, .ref p0), (1, .ref p1), (2, .int p2)]) hx hb dX9_canBe_1 rfl hl (by decide) rfl (fun ls hl => ?_)
  refine lv_iconst (v := 0) hx hb dX9_canBe_2 (by decide) ?_
  refine lv_istore (lv' := [(4, .int 0), (3, .int 0), (0, .ref p0), (1, .ref p1), (2, .int p2)]) hx hb dX9_canBe_3 hl (by decide) rfl (fun ls hl => ?_)
  refine lv_iconst (v := 0) hx hb dX9_canBe_5 (by decide) ?_
  refine lv_istore (lv' := [(5, .int 0), (4, .int 0), (3, .int 0), (0, .ref p0), (1, .ref p1), (2, .int p2)]) hx hb dX9_canBe_6 hl (by decide) rfl (fun ls hl => ?_)
  have kk52143 : (0 : Int32).toInt = 0 := by decide
  have kk52144 : (0 : Int32).toInt = 0 := by decide
  have kk52145 : (0 : Int32).toInt = 0 := by decide
  exact K8 7 0 0 0 _ _ _ _ (by omega) (by decide) hT hfr  (lv_sub hl [3, 4, 5, 2, 1, 0] rfl)
