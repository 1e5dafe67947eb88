set_option maxHeartbeats 4000000 in
set_option maxRecDepth 100000 in
theorem kt441_X3_choice (l : Launch) (G : KG) (tag : Nat → Nat) (L : List Nat) (Fo : Nat → va_E) (ho : okT G ttC tag L Fo) (p0 : Nat) (p1 : Nat) (p2 : Nat) (p3 : Nat) (p4 : Nat) (x0 : Nat) (x1 : Nat) (x2 : Nat) (x3 : Nat) (x4 : Nat) (x5 : Nat) (m0 : p0 ∈ L) (g0 : tag p0 = 25) (h1 : p1 < 77) (h2 : p2 < 77) (h3 : p3 < 77) (h4 : p4 < 77) (mx0 : x0 ∈ L) (gx0 : tag x0 = 24) (pf0 : fld Fo p0 0 = .ref x0) (mx1 : x1 ∈ L) (gx1 : tag x1 = 18) (pf1 : fld Fo p0 1 = .ref x1) (mx2 : x2 ∈ L) (gx2 : tag x2 = 19) (pf2 : fld Fo p0 2 = .ref x2) (mx3 : x3 ∈ L) (gx3 : tag x3 = 1) (pf3 : fld Fo x0 0 = .ref x3) (mx4 : x4 ∈ L) (gx4 : tag x4 = 14) (pf4 : fld Fo p0 10 = .ref x4) (mx5 : x5 ∈ L) (gx5 : tag x5 = 15) (pf5 : fld Fo p0 11 = .ref x5) : TMi l yX3_choice cX3_choice 6 (some .int) { frames := 5, cells := 0, slots := 0, locals := 108 } G ttC tag L Fo [.ref p0, .ref (G.2 (100 + p1)), .ref (G.2 (100 + p2)), .ref (G.2 (100 + p3)), .ref (G.2 (100 + p4))] (fun r F1 => ((-1) ≤ r.toInt ∧ r.toInt ≤ 3) ∧ ((∀ b j : Nat, (tag b ≠ 24 ∨ j ≠ 2) → (tag b ≠ 24 ∨ j ≠ 3) → (tag b ≠ 24 ∨ j ≠ 4) → (tag b ≠ 24 ∨ j ≠ 5) → (tag b ≠ 24 ∨ j ≠ 6) → (tag b ≠ 24 ∨ j ≠ 7) → (tag b ≠ 25 ∨ j ≠ 3) → (tag b ≠ 25 ∨ j ≠ 4) → fld F1 b j = fld Fo b j) ∧ EF tag F1 Fo)) := by
  refine t_bodyi (y := yX3_choice) (cd := cX3_choice) (mL := 6) (rt := (some .int)) (rm := { frames := 5, cells := 0, slots := 0, locals := 108 }) (av := [.ref p0, .ref (G.2 (100 + p1)), .ref (G.2 (100 + p2)), .ref (G.2 (100 + p3)), .ref (G.2 (100 + p4))]) (by decide) (Nat.le_of_ble_eq_true rfl) ho ?_
  intro p e s m args below meth c ls A Q hQ X hT hl
  have hx := X.1.1
  have hb := X.1.2.1
  have hl : lv_has ls 6 [(0, .ref p0), (1, .ref (G.2 (100 + p1))), (2, .ref (G.2 (100 + p2))), (3, .ref (G.2 (100 + p3))), (4, .ref (G.2 (100 + p4)))] := hl
  obtain ⟨F, hFo⟩ : ∃ F : Nat → va_E, F = Fo := ⟨_, rfl⟩
  rw [← hFo] at hT pf0 pf1 pf2 pf3 pf4 pf5
  have hfr : (∀ b j : Nat, (tag b ≠ 24 ∨ j ≠ 2) → (tag b ≠ 24 ∨ j ≠ 3) → (tag b ≠ 24 ∨ j ≠ 4) → (tag b ≠ 24 ∨ j ≠ 5) → (tag b ≠ 24 ∨ j ≠ 6) → (tag b ≠ 24 ∨ j ≠ 7) → (tag b ≠ 25 ∨ j ≠ 3) → (tag b ≠ 25 ∨ j ≠ 4) → fld F b j = fld Fo b j) ∧ EF tag F Fo := by
    rw [hFo]
    exact ⟨by intros; rfl, fun _ _ _ => rfl⟩
  have K82 : ∀ (z141312 : Int32) (F : Nat → va_E) (H : Heap) (locs : List Loc) (ls : Array Slot), ((-1) ≤ z141312.toInt ∧ z141312.toInt ≤ 3) → TH G ttC A s tag L F H locs → ((∀ b j : Nat, (tag b ≠ 24 ∨ j ≠ 2) → (tag b ≠ 24 ∨ j ≠ 3) → (tag b ≠ 24 ∨ j ≠ 4) → (tag b ≠ 24 ∨ j ≠ 5) → (tag b ≠ 24 ∨ j ≠ 6) → (tag b ≠ 24 ∨ j ≠ 7) → (tag b ≠ 25 ∨ j ≠ 3) → (tag b ≠ 25 ∨ j ≠ 4) → fld F b j = fld Fo b j) ∧ EF tag F Fo) → fld F p0 0 = .ref x0 → fld F p0 1 = .ref x1 → fld F p0 2 = .ref x2 → fld F x0 0 = .ref x3 → fld F p0 10 = .ref x4 → fld F p0 11 = .ref x5 → lv_has ls 6 [(0, .ref p0), (1, .ref (G.2 (100 + p1))), (2, .ref (G.2 (100 + p2))), (3, .ref (G.2 (100 + p3))), (4, .ref (G.2 (100 + p4))), (5, .int z141312)] → W p l e { frames := 5, cells := 0, slots := 0, locals := 108 } s m args below meth c H locs 0 0 Q (F0 m 82 ls []) := by
    intro z141312 F H locs ls rz141312 hT hfr pf0 pf1 pf2 pf3 pf4 pf5 hl
    refine lv_aload_n hx hb dX3_choice_82 rfl (lv_at hl 0 rfl) ?_
    refine t_get (C := RX3) (T := TX3) (N := 13) X hT m0 g0 rfl rfl 3 (by decide) qw_163 inlX3 rfl dX3_choice_83 (fun v141313 hv141313 ov141313 => ?_)
    obtain ⟨z141314, rfl, rz141314⟩ := okV_i ov141313
    refine lv_if_eq (tgt := 91) hx hb dX3_choice_86 (by decide) (fun c141315 => ?_) (fun c141315 => ?_)
    · have w141316 := cv_eq (rfl : z141314.toInt = z141314.toInt) (by decide : (0 : Int32).toInt = 0) c141315
      refine lv_aload_n hx hb dX3_choice_91 rfl (lv_at hl 0 rfl) ?_
      refine t_get (C := RX3) (T := TX3) (N := 13) X hT m0 g0 rfl rfl 0 (by decide) qw_73 inlX3 rfl dX3_choice_92 (fun v141317 hv141317 ov141317 => ?_)
      obtain rfl : v141317 = .ref x0 := hv141317.symm.trans pf0
      refine t_cVv (n := 0) (C := RX8) (T := TX8) (N := 8) (As := []) (rest := []) X hT (kt440_X8_advance l G tag L F hT.2.2.2 x0 x3 mx0 gx0 mx3 gx3 pf3) mx0 gx0 rfl rfl qw_305 qw_197 qw_198 qw_72 qw_199 ⟨rfl, by decide +kernel, by decide +kernel, by decide +kernel⟩ ⟨Nat.le_of_ble_eq_true rfl, Nat.le_of_ble_eq_true rfl⟩ hl rfl rfl (Nat.le_of_ble_eq_true rfl) dX3_choice_95 ⟨Nat.le_of_ble_eq_true rfl, Nat.le_of_ble_eq_true rfl⟩ (fun F H locs hT hz141318 => ?_)
      have yz141318 := hz141318
      have pf0 := (yz141318.1 _ 0 (Or.inr (by decide)) (Or.inr (by decide)) (Or.inr (by decide)) (Or.inr (by decide)) (Or.inr (by decide)) (Or.inr (by decide))).trans pf0
      have pf1 := (yz141318.1 _ 1 (Or.inr (by decide)) (Or.inr (by decide)) (Or.inr (by decide)) (Or.inr (by decide)) (Or.inr (by decide)) (Or.inr (by decide))).trans pf1
      have pf2 := (yz141318.1 _ 2 (Or.inl (by rw [g0]; decide)) (Or.inr (by decide)) (Or.inr (by decide)) (Or.inr (by decide)) (Or.inr (by decide)) (Or.inr (by decide))).trans pf2
      have pf3 := (yz141318.1 _ 0 (Or.inr (by decide)) (Or.inr (by decide)) (Or.inr (by decide)) (Or.inr (by decide)) (Or.inr (by decide)) (Or.inr (by decide))).trans pf3
      have pf4 := (yz141318.1 _ 10 (Or.inr (by decide)) (Or.inr (by decide)) (Or.inr (by decide)) (Or.inr (by decide)) (Or.inr (by decide)) (Or.inr (by decide))).trans pf4
      have pf5 := (yz141318.1 _ 11 (Or.inr (by decide)) (Or.inr (by decide)) (Or.inr (by decide)) (Or.inr (by decide)) (Or.inr (by decide)) (Or.inr (by decide))).trans pf5
      have hv141313 := (yz141318.1 _ 3 (Or.inr (by decide)) (Or.inl (by rw [g0]; decide)) (Or.inr (by decide)) (Or.inr (by decide)) (Or.inr (by decide)) (Or.inr (by decide))).trans hv141313
      have hfr : (∀ b j : Nat, (tag b ≠ 24 ∨ j ≠ 2) → (tag b ≠ 24 ∨ j ≠ 3) → (tag b ≠ 24 ∨ j ≠ 4) → (tag b ≠ 24 ∨ j ≠ 5) → (tag b ≠ 24 ∨ j ≠ 6) → (tag b ≠ 24 ∨ j ≠ 7) → (tag b ≠ 25 ∨ j ≠ 3) → (tag b ≠ 25 ∨ j ≠ 4) → fld F b j = fld Fo b j) ∧ EF tag F Fo := ⟨fun b j n24_2 n24_3 n24_4 n24_5 n24_6 n24_7 n25_3 n25_4 => (yz141318.1 b j n24_2 n24_3 n24_4 n24_5 n24_6 n24_7).trans (hfr.1 b j n24_2 n24_3 n24_4 n24_5 n24_6 n24_7 n25_3 n25_4), fun b j hb => (yz141318.2 b j hb).trans (hfr.2 b j hb)⟩
      refine lv_iload hx hb dX3_choice_98 (lv_at hl 5 rfl) ?_
      exact t_iret hQ X hT (⟨(by omega), hfr⟩) (Nat.le_of_ble_eq_true rfl) (Nat.le_of_ble_eq_true rfl) dX3_choice_100
    · have w141319 := cv_ne (rfl : z141314.toInt = z141314.toInt) (by decide : (0 : Int32).toInt = 0) c141315
      refine lv_iconst (v := 0) hx hb dX3_choice_89 (by decide) ?_
      exact t_iret hQ X hT (⟨(by decide), hfr⟩) (Nat.le_of_ble_eq_true rfl) (Nat.le_of_ble_eq_true rfl) dX3_choice_90
  have K62 : ∀ (z141320 : Int32) (F : Nat → va_E) (H : Heap) (locs : List Loc) (ls : Array Slot), ((-1) ≤ z141320.toInt ∧ z141320.toInt ≤ 3) → TH G ttC A s tag L F H locs → ((∀ b j : Nat, (tag b ≠ 24 ∨ j ≠ 2) → (tag b ≠ 24 ∨ j ≠ 3) → (tag b ≠ 24 ∨ j ≠ 4) → (tag b ≠ 24 ∨ j ≠ 5) → (tag b ≠ 24 ∨ j ≠ 6) → (tag b ≠ 24 ∨ j ≠ 7) → (tag b ≠ 25 ∨ j ≠ 3) → (tag b ≠ 25 ∨ j ≠ 4) → fld F b j = fld Fo b j) ∧ EF tag F Fo) → fld F p0 0 = .ref x0 → fld F p0 1 = .ref x1 → fld F p0 2 = .ref x2 → fld F x0 0 = .ref x3 → fld F p0 10 = .ref x4 → fld F p0 11 = .ref x5 → lv_has ls 6 [(0, .ref p0), (1, .ref (G.2 (100 + p1))), (2, .ref (G.2 (100 + p2))), (3, .ref (G.2 (100 + p3))), (4, .ref (G.2 (100 + p4)))] → W p l e { frames := 5, cells := 0, slots := 0, locals := 108 } s m args below meth c H locs 0 0 Q (F0 m 62 ls [.int z141320]) := by
    intro z141320 F H locs ls rz141320 hT hfr pf0 pf1 pf2 pf3 pf4 pf5 hl
    refine lv_istore (lv' := [(5, .int z141320), (0, .ref p0), (1, .ref (G.2 (100 + p1))), (2, .ref (G.2 (100 + p2))), (3, .ref (G.2 (100 + p3))), (4, .ref (G.2 (100 + p4)))]) hx hb dX3_choice_62 hl (by decide) rfl (fun ls hl => ?_)
    refine lv_iload hx hb dX3_choice_64 (lv_at hl 0 rfl) ?_
    refine lv_iconst (v := (-1)) hx hb dX3_choice_66 (by decide) ?_
    refine lv_icmp_ne (tgt := 82) hx hb dX3_choice_67 (by decide) (fun c141321 => ?_) (fun c141321 => ?_)
    · have w141322 := cv_ne (rfl : z141320.toInt = z141320.toInt) (by decide : ((-1) : Int32).toInt = (-1)) c141321
      exact K82 z141320 _ _ _ _ (by omega) hT hfr pf0 pf1 pf2 pf3 pf4 pf5 (lv_sub hl [1, 2, 3, 4, 5, 0] rfl)
    · have w141323 := cv_eq (rfl : z141320.toInt = z141320.toInt) (by decide : ((-1) : Int32).toInt = (-1)) c141321
      refine lv_aload_n hx hb dX3_choice_70 rfl (lv_at hl 1 rfl) ?_
      refine lv_iconst (v := 1) hx hb dX3_choice_71 (by decide) ?_
      refine lv_aload_n hx hb dX3_choice_72 rfl (lv_at hl 1 rfl) ?_
      refine t_get (C := RX3) (T := TX3) (N := 13) X hT m0 g0 rfl rfl 0 (by decide) qw_73 inlX3 rfl dX3_choice_73 (fun v141324 hv141324 ov141324 => ?_)
      obtain rfl : v141324 = .ref x0 := hv141324.symm.trans pf0
      refine t_get (C := RX8) (T := TX8) (N := 8) X hT mx0 gx0 rfl rfl 4 (by decide) qw_227 inlX8 rfl dX3_choice_76 (fun v141325 hv141325 ov141325 => ?_)
      obtain ⟨z141326, rfl, rz141326⟩ := okV_i ov141325
      refine t_cVv (n := 2) (C := RX3) (T := TX3) (N := 13) (As := [.int 1, .int z141326]) (rest := []) X hT (kt432_X3_fail l G tag L F hT.2.2.2 p0 1 z141326 m0 g0 (by decide)) m0 g0 rfl rfl qw_287 qw_288 qw_289 qw_28 qw_290 ⟨rfl, by decide +kernel, by decide +kernel, by decide +kernel⟩ ⟨Nat.le_of_ble_eq_true rfl, Nat.le_of_ble_eq_true rfl⟩ hl rfl rfl (Nat.le_of_ble_eq_true rfl) dX3_choice_79 ⟨Nat.le_of_ble_eq_true rfl, Nat.le_of_ble_eq_true rfl⟩ (fun F H locs hT hz141327 => ?_)
      obtain ⟨yz141327, xz141327_0⟩ := hz141327
      have pf0 := (yz141327.1 _ 0 (Or.inr (by decide)) (Or.inr (by decide))).trans pf0
      have pf1 := (yz141327.1 _ 1 (Or.inr (by decide)) (Or.inr (by decide))).trans pf1
      have pf2 := (yz141327.1 _ 2 (Or.inr (by decide)) (Or.inr (by decide))).trans pf2
      have pf3 := (yz141327.1 _ 0 (Or.inr (by decide)) (Or.inr (by decide))).trans pf3
      have pf4 := (yz141327.1 _ 10 (Or.inr (by decide)) (Or.inr (by decide))).trans pf4
      have pf5 := (yz141327.1 _ 11 (Or.inr (by decide)) (Or.inr (by decide))).trans pf5
      have hv141325 := (yz141327.1 _ 4 (Or.inr (by decide)) (Or.inl (by rw [gx0]; decide))).trans hv141325
      have hfr : (∀ b j : Nat, (tag b ≠ 24 ∨ j ≠ 2) → (tag b ≠ 24 ∨ j ≠ 3) → (tag b ≠ 24 ∨ j ≠ 4) → (tag b ≠ 24 ∨ j ≠ 5) → (tag b ≠ 24 ∨ j ≠ 6) → (tag b ≠ 24 ∨ j ≠ 7) → (tag b ≠ 25 ∨ j ≠ 3) → (tag b ≠ 25 ∨ j ≠ 4) → fld F b j = fld Fo b j) ∧ EF tag F Fo := ⟨fun b j n24_2 n24_3 n24_4 n24_5 n24_6 n24_7 n25_3 n25_4 => (yz141327.1 b j n25_3 n25_4).trans (hfr.1 b j n24_2 n24_3 n24_4 n24_5 n24_6 n24_7 n25_3 n25_4), fun b j hb => (yz141327.2 b j hb).trans (hfr.2 b j hb)⟩
      obtain ⟨z141328, qz141328, rz141328⟩ := xz141327_0
      exact K82 z141320 _ _ _ _ (by omega) hT hfr pf0 pf1 pf2 pf3 pf4 pf5 (lv_sub hl [1, 2, 3, 4, 5, 0] rfl)
  refine lv_aload_n hx hb dX3_choice_0 rfl (lv_at hl 0 rfl) ?_
  refine t_get (C := RX3) (T := TX3) (N := 13) X hT m0 g0 rfl rfl 0 (by decide) qw_73 inlX3 rfl dX3_choice_1 (fun v141329 hv141329 ov141329 => ?_)
  obtain rfl : v141329 = .ref x0 := hv141329.symm.trans pf0
  refine lv_aload_n hx hb dX3_choice_4 rfl (lv_at hl 1 rfl) ?_
  refine t_cVi (n := 1) (C := RX8) (T := TX8) (N := 8) (As := [.ref (G.2 (100 + p1))]) (rest := []) X hT (kt434_X8_isWord l G tag L F hT.2.2.2 x0 p1 x3 mx0 gx0 h1 mx3 gx3 pf3) mx0 gx0 rfl rfl qw_234 qw_235 qw_236 qw_72 qw_237 ⟨rfl, by decide +kernel, by decide +kernel, by decide +kernel⟩ ⟨Nat.le_of_ble_eq_true rfl, Nat.le_of_ble_eq_true rfl⟩ hl rfl rfl (Nat.le_of_ble_eq_true rfl) dX3_choice_5 ⟨Nat.le_of_ble_eq_true rfl, Nat.le_of_ble_eq_true rfl⟩ (fun z141330 F9 H locs hT hz141330 => ?_)
  obtain ⟨fz141330, hz141330⟩ := hz141330
  rw [fz141330] at hT
  refine lv_if_eq (tgt := 15) hx hb dX3_choice_8 (by decide) (fun c141331 => ?_) (fun c141331 => ?_)
  · have w141332 := cv_eq (rfl : z141330.toInt = z141330.toInt) (by decide : (0 : Int32).toInt = 0) c141331
    refine lv_aload_n hx hb dX3_choice_15 rfl (lv_at hl 0 rfl) ?_
    refine t_get (C := RX3) (T := TX3) (N := 13) X hT m0 g0 rfl rfl 0 (by decide) qw_73 inlX3 rfl dX3_choice_16 (fun v141333 hv141333 ov141333 => ?_)
    obtain rfl : v141333 = .ref x0 := hv141333.symm.trans pf0
    refine lv_aload_n hx hb dX3_choice_19 rfl (lv_at hl 2 rfl) ?_
    refine t_cVi (n := 1) (C := RX8) (T := TX8) (N := 8) (As := [.ref (G.2 (100 + p2))]) (rest := []) X hT (kt434_X8_isWord l G tag L F hT.2.2.2 x0 p2 x3 mx0 gx0 h2 mx3 gx3 pf3) mx0 gx0 rfl rfl qw_234 qw_235 qw_236 qw_72 qw_237 ⟨rfl, by decide +kernel, by decide +kernel, by decide +kernel⟩ ⟨Nat.le_of_ble_eq_true rfl, Nat.le_of_ble_eq_true rfl⟩ hl rfl rfl (Nat.le_of_ble_eq_true rfl) dX3_choice_20 ⟨Nat.le_of_ble_eq_true rfl, Nat.le_of_ble_eq_true rfl⟩ (fun z141334 F9 H locs hT hz141334 => ?_)
    obtain ⟨fz141334, hz141334⟩ := hz141334
    rw [fz141334] at hT
    refine lv_if_eq (tgt := 30) hx hb dX3_choice_23 (by decide) (fun c141335 => ?_) (fun c141335 => ?_)
    · have w141336 := cv_eq (rfl : z141334.toInt = z141334.toInt) (by decide : (0 : Int32).toInt = 0) c141335
      refine lv_aload_n hx hb dX3_choice_30 rfl (lv_at hl 0 rfl) ?_
      refine t_get (C := RX3) (T := TX3) (N := 13) X hT m0 g0 rfl rfl 0 (by decide) qw_73 inlX3 rfl dX3_choice_31 (fun v141337 hv141337 ov141337 => ?_)
      obtain rfl : v141337 = .ref x0 := hv141337.symm.trans pf0
      refine lv_aload_n hx hb dX3_choice_34 rfl (lv_at hl 3 rfl) ?_
      refine t_cVi (n := 1) (C := RX8) (T := TX8) (N := 8) (As := [.ref (G.2 (100 + p3))]) (rest := []) X hT (kt434_X8_isWord l G tag L F hT.2.2.2 x0 p3 x3 mx0 gx0 h3 mx3 gx3 pf3) mx0 gx0 rfl rfl qw_234 qw_235 qw_236 qw_72 qw_237 ⟨rfl, by decide +kernel, by decide +kernel, by decide +kernel⟩ ⟨Nat.le_of_ble_eq_true rfl, Nat.le_of_ble_eq_true rfl⟩ hl rfl rfl (Nat.le_of_ble_eq_true rfl) dX3_choice_35 ⟨Nat.le_of_ble_eq_true rfl, Nat.le_of_ble_eq_true rfl⟩ (fun z141338 F9 H locs hT hz141338 => ?_)
      obtain ⟨fz141338, hz141338⟩ := hz141338
      rw [fz141338] at hT
      refine lv_if_eq (tgt := 45) hx hb dX3_choice_38 (by decide) (fun c141339 => ?_) (fun c141339 => ?_)
      · have w141340 := cv_eq (rfl : z141338.toInt = z141338.toInt) (by decide : (0 : Int32).toInt = 0) c141339
        refine lv_aload_n hx hb dX3_choice_45 rfl (lv_at hl 0 rfl) ?_
        refine t_get (C := RX3) (T := TX3) (N := 13) X hT m0 g0 rfl rfl 0 (by decide) qw_73 inlX3 rfl dX3_choice_46 (fun v141341 hv141341 ov141341 => ?_)
        obtain rfl : v141341 = .ref x0 := hv141341.symm.trans pf0
        refine lv_aload hx hb dX3_choice_49 (lv_at hl 4 rfl) ?_
        refine t_cVi (n := 1) (C := RX8) (T := TX8) (N := 8) (As := [.ref (G.2 (100 + p4))]) (rest := []) X hT (kt434_X8_isWord l G tag L F hT.2.2.2 x0 p4 x3 mx0 gx0 h4 mx3 gx3 pf3) mx0 gx0 rfl rfl qw_234 qw_235 qw_236 qw_72 qw_237 ⟨rfl, by decide +kernel, by decide +kernel, by decide +kernel⟩ ⟨Nat.le_of_ble_eq_true rfl, Nat.le_of_ble_eq_true rfl⟩ hl rfl rfl (Nat.le_of_ble_eq_true rfl) dX3_choice_51 ⟨Nat.le_of_ble_eq_true rfl, Nat.le_of_ble_eq_true rfl⟩ (fun z141342 F9 H locs hT hz141342 => ?_)
        obtain ⟨fz141342, hz141342⟩ := hz141342
        rw [fz141342] at hT
        refine lv_if_eq (tgt := 61) hx hb dX3_choice_54 (by decide) (fun c141343 => ?_) (fun c141343 => ?_)
        · have w141344 := cv_eq (rfl : z141342.toInt = z141342.toInt) (by decide : (0 : Int32).toInt = 0) c141343
          refine lv_iconst (v := (-1)) hx hb dX3_choice_61 (by decide) ?_
          exact K62 (-1) _ _ _ _ (by decide) hT hfr pf0 pf1 pf2 pf3 pf4 pf5 (lv_sub hl [0, 1, 2, 3, 4] rfl)
        · have w141345 := cv_ne (rfl : z141342.toInt = z141342.toInt) (by decide : (0 : Int32).toInt = 0) c141343
          refine lv_iconst (v := 3) hx hb dX3_choice_57 (by decide) ?_
          refine lv_goto (tgt := 62) hx hb dX3_choice_58 (by decide) ?_
          exact K62 3 _ _ _ _ (by decide) hT hfr pf0 pf1 pf2 pf3 pf4 pf5 (lv_sub hl [0, 1, 2, 3, 4] rfl)
      · have w141346 := cv_ne (rfl : z141338.toInt = z141338.toInt) (by decide : (0 : Int32).toInt = 0) c141339
        refine lv_iconst (v := 2) hx hb dX3_choice_41 (by decide) ?_
        refine lv_goto (tgt := 62) hx hb dX3_choice_42 (by decide) ?_
        exact K62 2 _ _ _ _ (by decide) hT hfr pf0 pf1 pf2 pf3 pf4 pf5 (lv_sub hl [0, 1, 2, 3, 4] rfl)
    · have w141347 := cv_ne (rfl : z141334.toInt = z141334.toInt) (by decide : (0 : Int32).toInt = 0) c141335
      refine lv_iconst (v := 1) hx hb dX3_choice_26 (by decide) ?_
      refine lv_goto (tgt := 62) hx hb dX3_choice_27 (by decide) ?_
      exact K62 1 _ _ _ _ (by decide) hT hfr pf0 pf1 pf2 pf3 pf4 pf5 (lv_sub hl [0, 1, 2, 3, 4] rfl)
  · have w141348 := cv_ne (rfl : z141330.toInt = z141330.toInt) (by decide : (0 : Int32).toInt = 0) c141331
    refine lv_iconst (v := 0) hx hb dX3_choice_11 (by decide) ?_
    refine lv_goto (tgt := 62) hx hb dX3_choice_12 (by decide) ?_
    exact K62 0 _ _ _ _ (by decide) hT hfr pf0 pf1 pf2 pf3 pf4 pf5 (lv_sub hl [0, 1, 2, 3, 4] rfl)
set_option maxHeartbeats 4000000 in
set_option maxRecDepth 100000 in
theorem kt442_X3_findName (l : Launch) (G : KG) (tag : Nat → Nat) (L : List Nat) (F : Nat → va_E) (ho : okT G ttC tag L F) (p0 : Nat) (x0 : Nat) (x1 : Nat) (x2 : Nat) (x3 : Nat) (x4 : Nat) (x5 : Nat) (m0 : p0 ∈ L) (g0 : tag p0 = 25) (mx0 : x0 ∈ L) (gx0 : tag x0 = 24) (pf0 : fld F p0 0 = .ref x0) (mx1 : x1 ∈ L) (gx1 : tag x1 = 18) (pf1 : fld F p0 1 = .ref x1) (mx2 : x2 ∈ L) (gx2 : tag x2 = 19) (pf2 : fld F p0 2 = .ref x2) (mx3 : x3 ∈ L) (gx3 : tag x3 = 1) (pf3 : fld F x0 0 = .ref x3) (mx4 : x4 ∈ L) (gx4 : tag x4 = 14) (pf4 : fld F p0 10 = .ref x4) (mx5 : x5 ∈ L) (gx5 : tag x5 = 15) (pf5 : fld F p0 11 = .ref x5) : TMi l yX3_findName cX3_findName 2 (some .int) { frames := 0, cells := 0, slots := 0, locals := 0 } G ttC tag L F [.ref p0] (fun r F1 => F1 = F ∧ ((-1) ≤ r.toInt ∧ r.toInt ≤ 19)) := by
  refine t_bodyi (y := yX3_findName) (cd := cX3_findName) (mL := 2) (rt := (some .int)) (rm := { frames := 0, cells := 0, slots := 0, locals := 0 }) (av := [.ref p0]) (by decide) (Nat.le_of_ble_eq_true rfl) ho ?_
  intro p e s m args below meth c ls A Q hQ X hT hl
  have hx := X.1.1
  have hb := X.1.2.1
  have hl : lv_has ls 2 [(0, .ref p0)] := hl
  have K2 : ∀ (n : Nat) (z142241 : Int32) (H : Heap) (locs : List Loc) (ls : Array Slot), (20 - z142241.toInt < (n : Int)) → (0 ≤ z142241.toInt ∧ z142241.toInt ≤ 20) → TH G ttC A s tag L F H locs → lv_has ls 2 [(0, .ref p0), (1, .int z142241)] → W p l e { frames := 0, cells := 0, slots := 0, locals := 0 } s m args below meth c H locs 0 0 Q (F0 m 2 ls []) := by
    intro n
    induction n with
    | zero =>
      intro z142241 H locs ls hn rz142241 hT hl
      exfalso
      omega
    | succ n ih2 =>
      intro z142241 H locs ls hn rz142241 hT hl
      have K40 : ∀ (z142243 : Int32) (H : Heap) (locs : List Loc) (ls : Array Slot), (1 ≤ z142243.toInt ∧ z142243.toInt ≤ 20) → (0 ≤ z142241.toInt ∧ z142241.toInt ≤ 19) → TH G ttC A s tag L F H locs → fld F p0 12 = .int z142243 → lv_has ls 2 [(0, .ref p0), (1, .int z142241)] → W p l e { frames := 0, cells := 0, slots := 0, locals := 0 } s m args below meth c H locs 0 0 Q (F0 m 40 ls []) := by
        intro z142243 H locs ls rz142243 r9s142242 hT qz142243 hl
        obtain ⟨z142244, ez142244⟩ : ∃ y : Int32, y = z142241 + 1 := ⟨_, rfl⟩
        have hz142244 : z142244.toInt = z142241.toInt + 1 := ar_add ez142244 rfl (by decide : (1 : Int32).toInt = 1) (by omega) (by omega)
        refine lv_iinc (v := z142244) (lv' := [(1, .int z142244), (0, .ref p0)]) hx hb dX3_findName_40 hl (k := 1) rfl (by rw [ez142244]; rfl) (by decide) rfl (fun ls hl => ?_)
        refine lv_goto (tgt := 2) hx hb dX3_findName_43 (by decide) ?_
        exact ih2 z142244 _ _ _ (by omega) (by omega) hT  (lv_sub hl [1, 0] rfl)
      refine lv_iload_n hx hb dX3_findName_2 rfl (lv_at hl 1 rfl) ?_
      refine lv_aload_n hx hb dX3_findName_3 rfl (lv_at hl 0 rfl) ?_
      refine t_get (C := RX3) (T := TX3) (N := 13) X hT m0 g0 rfl rfl 12 (by decide) qw_169 inlX3 rfl dX3_findName_4 (fun v142245 hv142245 ov142245 => ?_)
      obtain ⟨z142246, rfl, rz142246⟩ := okV_i ov142245
      refine lv_icmp_ge (tgt := 46) hx hb dX3_findName_7 (by decide) (fun c142247 => ?_) (fun c142247 => ?_)
      · have w142248 := cv_le (rfl : z142246.toInt = z142246.toInt) (rfl : z142241.toInt = z142241.toInt) c142247
        refine lv_iconst (v := (-1)) hx hb dX3_findName_46 (by decide) ?_
        exact t_iret hQ X hT (⟨rfl, (by decide)⟩) (Nat.le_of_ble_eq_true rfl) (Nat.le_of_ble_eq_true rfl) dX3_findName_47
      · have w142249 := cv_nle (rfl : z142246.toInt = z142246.toInt) (rfl : z142241.toInt = z142241.toInt) c142247
        refine lv_aload_n hx hb dX3_findName_10 rfl (lv_at hl 0 rfl) ?_
        refine t_get (C := RX3) (T := TX3) (N := 13) X hT m0 g0 rfl rfl 0 (by decide) qw_73 inlX3 rfl dX3_findName_11 (fun v142250 hv142250 ov142250 => ?_)
        obtain rfl : v142250 = .ref x0 := hv142250.symm.trans pf0
        refine t_get (C := RX8) (T := TX8) (N := 8) X hT mx0 gx0 rfl rfl 3 (by decide) qw_170 inlX8 rfl dX3_findName_14 (fun v142251 hv142251 ov142251 => ?_)
        obtain ⟨z142252, rfl, rz142252⟩ := okV_i ov142251
        refine lv_iconst (v := 1) hx hb dX3_findName_17 (by decide) ?_
        refine lv_icmp_ne (tgt := 40) hx hb dX3_findName_18 (by decide) (fun c142253 => ?_) (fun c142253 => ?_)
        · have w142254 := cv_ne (rfl : z142252.toInt = z142252.toInt) (by decide : (1 : Int32).toInt = 1) c142253
          exact K40 z142246 _ _ _ (by omega) (by omega) hT hv142245 (lv_sub hl [0, 1] rfl)
        · have w142255 := cv_eq (rfl : z142252.toInt = z142252.toInt) (by decide : (1 : Int32).toInt = 1) c142253
          refine lv_aload_n hx hb dX3_findName_21 rfl (lv_at hl 0 rfl) ?_
          refine t_get (C := RX3) (T := TX3) (N := 13) X hT m0 g0 rfl rfl 9 (by decide) qw_74 inlX3 rfl dX3_findName_22 (fun v142256 hv142256 ov142256 => ?_)
          obtain ⟨b142257, rfl, mb142257, gb142257⟩ := okV_r ov142256
          have gb142257 : tag b142257 = 13 := tg_of gb142257
          refine lv_iload_n hx hb dX3_findName_25 rfl (lv_at hl 1 rfl) ?_
          refine t_lld X hT mb142257 gb142257 rfl (by omega) dX3_findName_26 (fun z142258 => ?_)
          refine lv_aload_n hx hb dX3_findName_27 rfl (lv_at hl 0 rfl) ?_
          refine t_get (C := RX3) (T := TX3) (N := 13) X hT m0 g0 rfl rfl 0 (by decide) qw_73 inlX3 rfl dX3_findName_28 (fun v142259 hv142259 ov142259 => ?_)
          obtain rfl : v142259 = .ref x0 := hv142259.symm.trans pf0
          refine t_get (C := RX8) (T := TX8) (N := 8) X hT mx0 gx0 rfl rfl 7 (by decide) qw_360 inlX8 rfl dX3_findName_31 (fun v142260 hv142260 ov142260 => ?_)
          obtain ⟨z142261, rfl⟩ := ov142260
          refine m_lcmp X dX3_findName_34 (fun z142262 rz142262 => ?_)
          refine lv_if_ne (tgt := 40) hx hb dX3_findName_35 (by decide) (fun c142263 => ?_) (fun c142263 => ?_)
          · have w142264 := cv_ne (rfl : z142262.toInt = z142262.toInt) (by decide : (0 : Int32).toInt = 0) c142263
            exact K40 z142246 _ _ _ (by omega) (by omega) hT hv142245 (lv_sub hl [0, 1] rfl)
          · have w142265 := cv_eq (rfl : z142262.toInt = z142262.toInt) (by decide : (0 : Int32).toInt = 0) c142263
            refine lv_iload_n hx hb dX3_findName_38 rfl (lv_at hl 1 rfl) ?_
            exact t_iret hQ X hT (⟨rfl, (by omega)⟩) (Nat.le_of_ble_eq_true rfl) (Nat.le_of_ble_eq_true rfl) dX3_findName_39
  refine lv_iconst (v := 0) hx hb dX3_findName_0 (by decide) ?_
  refine lv_istore_n (lv' := [(1, .int 0), (0, .ref p0)]) hx hb dX3_findName_1 rfl hl (by decide) rfl (fun ls hl => ?_)
  have kk142266 : (0 : Int32).toInt = 0 := by decide
  exact K2 21 0 _ _ _ (by omega) (by decide) hT  (lv_sub hl [1, 0] rfl)
set_option maxHeartbeats 4000000 in
set_option maxRecDepth 100000 in
theorem kt443_X3_lineSort (l : Launch) (G : KG) (tag : Nat → Nat) (L : List Nat) (F : Nat → va_E) (ho : okT G ttC tag L F) (p0 : Nat) (x0 : Nat) (x1 : Nat) (x2 : Nat) (x3 : Nat) (x4 : Nat) (x5 : Nat) (m0 : p0 ∈ L) (g0 : tag p0 = 25) (mx0 : x0 ∈ L) (gx0 : tag x0 = 24) (pf0 : fld F p0 0 = .ref x0) (mx1 : x1 ∈ L) (gx1 : tag x1 = 18) (pf1 : fld F p0 1 = .ref x1) (mx2 : x2 ∈ L) (gx2 : tag x2 = 19) (pf2 : fld F p0 2 = .ref x2) (mx3 : x3 ∈ L) (gx3 : tag x3 = 1) (pf3 : fld F x0 0 = .ref x3) (mx4 : x4 ∈ L) (gx4 : tag x4 = 14) (pf4 : fld F p0 10 = .ref x4) (mx5 : x5 ∈ L) (gx5 : tag x5 = 15) (pf5 : fld F p0 11 = .ref x5) : TMi l yX3_lineSort cX3_lineSort 1 (some .int) { frames := 5, cells := 0, slots := 0, locals := 108 } G ttC tag L F [.ref p0] (fun r F1 => F1 = F ∧ ((-1) ≤ r.toInt ∧ r.toInt ≤ 10)) := by
  refine t_bodyi (y := yX3_lineSort) (cd := cX3_lineSort) (mL := 1) (rt := (some .int)) (rm := { frames := 5, cells := 0, slots := 0, locals := 108 }) (av := [.ref p0]) (by decide) (Nat.le_of_ble_eq_true rfl) ho ?_
  intro p e s m args below meth c ls A Q hQ X hT hl
  have hx := X.1.1
  have hb := X.1.2.1
  have hl : lv_has ls 1 [(0, .ref p0)] := hl
  refine lv_aload_n hx hb dX3_lineSort_0 rfl (lv_at hl 0 rfl) ?_
  refine t_get (C := RX3) (T := TX3) (N := 13) X hT m0 g0 rfl rfl 0 (by decide) qw_73 inlX3 rfl dX3_lineSort_1 (fun v142872 hv142872 ov142872 => ?_)
  obtain rfl : v142872 = .ref x0 := hv142872.symm.trans pf0
  refine m_ldcK X 0 rfl dX3_lineSort_4 ?_
  refine t_cVi (n := 1) (C := RX8) (T := TX8) (N := 8) (As := [.ref (G.2 (100 + 0))]) (rest := []) X hT (kt434_X8_isWord l G tag L F hT.2.2.2 x0 0 x3 mx0 gx0 (by decide) mx3 gx3 pf3) mx0 gx0 rfl rfl qw_234 qw_235 qw_236 qw_72 qw_237 ⟨rfl, by decide +kernel, by decide +kernel, by decide +kernel⟩ ⟨Nat.le_of_ble_eq_true rfl, Nat.le_of_ble_eq_true rfl⟩ hl rfl rfl (Nat.le_of_ble_eq_true rfl) dX3_lineSort_6 ⟨Nat.le_of_ble_eq_true rfl, Nat.le_of_ble_eq_true rfl⟩ (fun z142873 F9 H locs hT hz142873 => ?_)
  obtain ⟨fz142873, hz142873⟩ := hz142873
  rw [fz142873] at hT
  refine lv_if_eq (tgt := 14) hx hb dX3_lineSort_9 (by decide) (fun c142874 => ?_) (fun c142874 => ?_)
  · have w142875 := cv_eq (rfl : z142873.toInt = z142873.toInt) (by decide : (0 : Int32).toInt = 0) c142874
    refine lv_aload_n hx hb dX3_lineSort_14 rfl (lv_at hl 0 rfl) ?_
    refine t_get (C := RX3) (T := TX3) (N := 13) X hT m0 g0 rfl rfl 0 (by decide) qw_73 inlX3 rfl dX3_lineSort_15 (fun v142876 hv142876 ov142876 => ?_)
    obtain rfl : v142876 = .ref x0 := hv142876.symm.trans pf0
    refine m_ldcK X 1 rfl dX3_lineSort_18 ?_
    refine t_cVi (n := 1) (C := RX8) (T := TX8) (N := 8) (As := [.ref (G.2 (100 + 1))]) (rest := []) X hT (kt434_X8_isWord l G tag L F hT.2.2.2 x0 1 x3 mx0 gx0 (by decide) mx3 gx3 pf3) mx0 gx0 rfl rfl qw_234 qw_235 qw_236 qw_72 qw_237 ⟨rfl, by decide +kernel, by decide +kernel, by decide +kernel⟩ ⟨Nat.le_of_ble_eq_true rfl, Nat.le_of_ble_eq_true rfl⟩ hl rfl rfl (Nat.le_of_ble_eq_true rfl) dX3_lineSort_20 ⟨Nat.le_of_ble_eq_true rfl, Nat.le_of_ble_eq_true rfl⟩ (fun z142877 F9 H locs hT hz142877 => ?_)
    obtain ⟨fz142877, hz142877⟩ := hz142877
    rw [fz142877] at hT
    refine lv_if_eq (tgt := 28) hx hb dX3_lineSort_23 (by decide) (fun c142878 => ?_) (fun c142878 => ?_)
    · have w142879 := cv_eq (rfl : z142877.toInt = z142877.toInt) (by decide : (0 : Int32).toInt = 0) c142878
      refine lv_aload_n hx hb dX3_lineSort_28 rfl (lv_at hl 0 rfl) ?_
      refine t_get (C := RX3) (T := TX3) (N := 13) X hT m0 g0 rfl rfl 0 (by decide) qw_73 inlX3 rfl dX3_lineSort_29 (fun v142880 hv142880 ov142880 => ?_)
      obtain rfl : v142880 = .ref x0 := hv142880.symm.trans pf0
      refine m_ldcK X 2 rfl dX3_lineSort_32 ?_
      refine t_cVi (n := 1) (C := RX8) (T := TX8) (N := 8) (As := [.ref (G.2 (100 + 2))]) (rest := []) X hT (kt434_X8_isWord l G tag L F hT.2.2.2 x0 2 x3 mx0 gx0 (by decide) mx3 gx3 pf3) mx0 gx0 rfl rfl qw_234 qw_235 qw_236 qw_72 qw_237 ⟨rfl, by decide +kernel, by decide +kernel, by decide +kernel⟩ ⟨Nat.le_of_ble_eq_true rfl, Nat.le_of_ble_eq_true rfl⟩ hl rfl rfl (Nat.le_of_ble_eq_true rfl) dX3_lineSort_34 ⟨Nat.le_of_ble_eq_true rfl, Nat.le_of_ble_eq_true rfl⟩ (fun z142881 F9 H locs hT hz142881 => ?_)
      obtain ⟨fz142881, hz142881⟩ := hz142881
      rw [fz142881] at hT
      refine lv_if_eq (tgt := 42) hx hb dX3_lineSort_37 (by decide) (fun c142882 => ?_) (fun c142882 => ?_)
      · have w142883 := cv_eq (rfl : z142881.toInt = z142881.toInt) (by decide : (0 : Int32).toInt = 0) c142882
        refine lv_aload_n hx hb dX3_lineSort_42 rfl (lv_at hl 0 rfl) ?_
        refine t_get (C := RX3) (T := TX3) (N := 13) X hT m0 g0 rfl rfl 0 (by decide) qw_73 inlX3 rfl dX3_lineSort_43 (fun v142884 hv142884 ov142884 => ?_)
        obtain rfl : v142884 = .ref x0 := hv142884.symm.trans pf0
        refine m_ldcK X 3 rfl dX3_lineSort_46 ?_
        refine t_cVi (n := 1) (C := RX8) (T := TX8) (N := 8) (As := [.ref (G.2 (100 + 3))]) (rest := []) X hT (kt434_X8_isWord l G tag L F hT.2.2.2 x0 3 x3 mx0 gx0 (by decide) mx3 gx3 pf3) mx0 gx0 rfl rfl qw_234 qw_235 qw_236 qw_72 qw_237 ⟨rfl, by decide +kernel, by decide +kernel, by decide +kernel⟩ ⟨Nat.le_of_ble_eq_true rfl, Nat.le_of_ble_eq_true rfl⟩ hl rfl rfl (Nat.le_of_ble_eq_true rfl) dX3_lineSort_48 ⟨Nat.le_of_ble_eq_true rfl, Nat.le_of_ble_eq_true rfl⟩ (fun z142885 F9 H locs hT hz142885 => ?_)
        obtain ⟨fz142885, hz142885⟩ := hz142885
        rw [fz142885] at hT
        refine lv_if_eq (tgt := 56) hx hb dX3_lineSort_51 (by decide) (fun c142886 => ?_) (fun c142886 => ?_)
        · have w142887 := cv_eq (rfl : z142885.toInt = z142885.toInt) (by decide : (0 : Int32).toInt = 0) c142886
          refine lv_aload_n hx hb dX3_lineSort_56 rfl (lv_at hl 0 rfl) ?_
          refine t_get (C := RX3) (T := TX3) (N := 13) X hT m0 g0 rfl rfl 0 (by decide) qw_73 inlX3 rfl dX3_lineSort_57 (fun v142888 hv142888 ov142888 => ?_)
          obtain rfl : v142888 = .ref x0 := hv142888.symm.trans pf0
          refine m_ldcK X 4 rfl dX3_lineSort_60 ?_
          refine t_cVi (n := 1) (C := RX8) (T := TX8) (N := 8) (As := [.ref (G.2 (100 + 4))]) (rest := []) X hT (kt434_X8_isWord l G tag L F hT.2.2.2 x0 4 x3 mx0 gx0 (by decide) mx3 gx3 pf3) mx0 gx0 rfl rfl qw_234 qw_235 qw_236 qw_72 qw_237 ⟨rfl, by decide +kernel, by decide +kernel, by decide +kernel⟩ ⟨Nat.le_of_ble_eq_true rfl, Nat.le_of_ble_eq_true rfl⟩ hl rfl rfl (Nat.le_of_ble_eq_true rfl) dX3_lineSort_62 ⟨Nat.le_of_ble_eq_true rfl, Nat.le_of_ble_eq_true rfl⟩ (fun z142889 F9 H locs hT hz142889 => ?_)
          obtain ⟨fz142889, hz142889⟩ := hz142889
          rw [fz142889] at hT
          refine lv_if_eq (tgt := 70) hx hb dX3_lineSort_65 (by decide) (fun c142890 => ?_) (fun c142890 => ?_)
          · have w142891 := cv_eq (rfl : z142889.toInt = z142889.toInt) (by decide : (0 : Int32).toInt = 0) c142890
            refine lv_aload_n hx hb dX3_lineSort_70 rfl (lv_at hl 0 rfl) ?_
            refine t_get (C := RX3) (T := TX3) (N := 13) X hT m0 g0 rfl rfl 0 (by decide) qw_73 inlX3 rfl dX3_lineSort_71 (fun v142892 hv142892 ov142892 => ?_)
            obtain rfl : v142892 = .ref x0 := hv142892.symm.trans pf0
            refine m_ldcK X 5 rfl dX3_lineSort_74 ?_
            refine t_cVi (n := 1) (C := RX8) (T := TX8) (N := 8) (As := [.ref (G.2 (100 + 5))]) (rest := []) X hT (kt434_X8_isWord l G tag L F hT.2.2.2 x0 5 x3 mx0 gx0 (by decide) mx3 gx3 pf3) mx0 gx0 rfl rfl qw_234 qw_235 qw_236 qw_72 qw_237 ⟨rfl, by decide +kernel, by decide +kernel, by decide +kernel⟩ ⟨Nat.le_of_ble_eq_true rfl, Nat.le_of_ble_eq_true rfl⟩ hl rfl rfl (Nat.le_of_ble_eq_true rfl) dX3_lineSort_76 ⟨Nat.le_of_ble_eq_true rfl, Nat.le_of_ble_eq_true rfl⟩ (fun z142893 F9 H locs hT hz142893 => ?_)
            obtain ⟨fz142893, hz142893⟩ := hz142893
            rw [fz142893] at hT
            refine lv_if_eq (tgt := 84) hx hb dX3_lineSort_79 (by decide) (fun c142894 => ?_) (fun c142894 => ?_)
            · have w142895 := cv_eq (rfl : z142893.toInt = z142893.toInt) (by decide : (0 : Int32).toInt = 0) c142894
              refine lv_aload_n hx hb dX3_lineSort_84 rfl (lv_at hl 0 rfl) ?_
              refine t_get (C := RX3) (T := TX3) (N := 13) X hT m0 g0 rfl rfl 0 (by decide) qw_73 inlX3 rfl dX3_lineSort_85 (fun v142896 hv142896 ov142896 => ?_)
              obtain rfl : v142896 = .ref x0 := hv142896.symm.trans pf0
              refine m_ldcK X 6 rfl dX3_lineSort_88 ?_
              refine t_cVi (n := 1) (C := RX8) (T := TX8) (N := 8) (As := [.ref (G.2 (100 + 6))]) (rest := []) X hT (kt434_X8_isWord l G tag L F hT.2.2.2 x0 6 x3 mx0 gx0 (by decide) mx3 gx3 pf3) mx0 gx0 rfl rfl qw_234 qw_235 qw_236 qw_72 qw_237 ⟨rfl, by decide +kernel, by decide +kernel, by decide +kernel⟩ ⟨Nat.le_of_ble_eq_true rfl, Nat.le_of_ble_eq_true rfl⟩ hl rfl rfl (Nat.le_of_ble_eq_true rfl) dX3_lineSort_90 ⟨Nat.le_of_ble_eq_true rfl, Nat.le_of_ble_eq_true rfl⟩ (fun z142897 F9 H locs hT hz142897 => ?_)
              obtain ⟨fz142897, hz142897⟩ := hz142897
              rw [fz142897] at hT
              refine lv_if_eq (tgt := 99) hx hb dX3_lineSort_93 (by decide) (fun c142898 => ?_) (fun c142898 => ?_)
              · have w142899 := cv_eq (rfl : z142897.toInt = z142897.toInt) (by decide : (0 : Int32).toInt = 0) c142898
                refine lv_aload_n hx hb dX3_lineSort_99 rfl (lv_at hl 0 rfl) ?_
                refine t_get (C := RX3) (T := TX3) (N := 13) X hT m0 g0 rfl rfl 0 (by decide) qw_73 inlX3 rfl dX3_lineSort_100 (fun v142900 hv142900 ov142900 => ?_)
                obtain rfl : v142900 = .ref x0 := hv142900.symm.trans pf0
                refine m_ldcK X 7 rfl dX3_lineSort_103 ?_
                refine t_cVi (n := 1) (C := RX8) (T := TX8) (N := 8) (As := [.ref (G.2 (100 + 7))]) (rest := []) X hT (kt434_X8_isWord l G tag L F hT.2.2.2 x0 7 x3 mx0 gx0 (by decide) mx3 gx3 pf3) mx0 gx0 rfl rfl qw_234 qw_235 qw_236 qw_72 qw_237 ⟨rfl, by decide +kernel, by decide +kernel, by decide +kernel⟩ ⟨Nat.le_of_ble_eq_true rfl, Nat.le_of_ble_eq_true rfl⟩ hl rfl rfl (Nat.le_of_ble_eq_true rfl) dX3_lineSort_105 ⟨Nat.le_of_ble_eq_true rfl, Nat.le_of_ble_eq_true rfl⟩ (fun z142901 F9 H locs hT hz142901 => ?_)
                obtain ⟨fz142901, hz142901⟩ := hz142901
                rw [fz142901] at hT
                refine lv_if_eq (tgt := 114) hx hb dX3_lineSort_108 (by decide) (fun c142902 => ?_) (fun c142902 => ?_)
                · have w142903 := cv_eq (rfl : z142901.toInt = z142901.toInt) (by decide : (0 : Int32).toInt = 0) c142902
                  refine lv_aload_n hx hb dX3_lineSort_114 rfl (lv_at hl 0 rfl) ?_
                  refine t_get (C := RX3) (T := TX3) (N := 13) X hT m0 g0 rfl rfl 0 (by decide) qw_73 inlX3 rfl dX3_lineSort_115 (fun v142904 hv142904 ov142904 => ?_)
                  obtain rfl : v142904 = .ref x0 := hv142904.symm.trans pf0
                  refine m_ldcK X 8 rfl dX3_lineSort_118 ?_
                  refine t_cVi (n := 1) (C := RX8) (T := TX8) (N := 8) (As := [.ref (G.2 (100 + 8))]) (rest := []) X hT (kt434_X8_isWord l G tag L F hT.2.2.2 x0 8 x3 mx0 gx0 (by decide) mx3 gx3 pf3) mx0 gx0 rfl rfl qw_234 qw_235 qw_236 qw_72 qw_237 ⟨rfl, by decide +kernel, by decide +kernel, by decide +kernel⟩ ⟨Nat.le_of_ble_eq_true rfl, Nat.le_of_ble_eq_true rfl⟩ hl rfl rfl (Nat.le_of_ble_eq_true rfl) dX3_lineSort_120 ⟨Nat.le_of_ble_eq_true rfl, Nat.le_of_ble_eq_true rfl⟩ (fun z142905 F9 H locs hT hz142905 => ?_)
                  obtain ⟨fz142905, hz142905⟩ := hz142905
                  rw [fz142905] at hT
                  refine lv_if_eq (tgt := 129) hx hb dX3_lineSort_123 (by decide) (fun c142906 => ?_) (fun c142906 => ?_)
                  · have w142907 := cv_eq (rfl : z142905.toInt = z142905.toInt) (by decide : (0 : Int32).toInt = 0) c142906
                    refine lv_aload_n hx hb dX3_lineSort_129 rfl (lv_at hl 0 rfl) ?_
                    refine t_get (C := RX3) (T := TX3) (N := 13) X hT m0 g0 rfl rfl 0 (by decide) qw_73 inlX3 rfl dX3_lineSort_130 (fun v142908 hv142908 ov142908 => ?_)
                    obtain rfl : v142908 = .ref x0 := hv142908.symm.trans pf0
                    refine m_ldcK X 9 rfl dX3_lineSort_133 ?_
                    refine t_cVi (n := 1) (C := RX8) (T := TX8) (N := 8) (As := [.ref (G.2 (100 + 9))]) (rest := []) X hT (kt434_X8_isWord l G tag L F hT.2.2.2 x0 9 x3 mx0 gx0 (by decide) mx3 gx3 pf3) mx0 gx0 rfl rfl qw_234 qw_235 qw_236 qw_72 qw_237 ⟨rfl, by decide +kernel, by decide +kernel, by decide +kernel⟩ ⟨Nat.le_of_ble_eq_true rfl, Nat.le_of_ble_eq_true rfl⟩ hl rfl rfl (Nat.le_of_ble_eq_true rfl) dX3_lineSort_135 ⟨Nat.le_of_ble_eq_true rfl, Nat.le_of_ble_eq_true rfl⟩ (fun z142909 F9 H locs hT hz142909 => ?_)
                    obtain ⟨fz142909, hz142909⟩ := hz142909
                    rw [fz142909] at hT
                    refine lv_if_eq (tgt := 144) hx hb dX3_lineSort_138 (by decide) (fun c142910 => ?_) (fun c142910 => ?_)
                    · have w142911 := cv_eq (rfl : z142909.toInt = z142909.toInt) (by decide : (0 : Int32).toInt = 0) c142910
                      refine lv_aload_n hx hb dX3_lineSort_144 rfl (lv_at hl 0 rfl) ?_
                      refine t_get (C := RX3) (T := TX3) (N := 13) X hT m0 g0 rfl rfl 0 (by decide) qw_73 inlX3 rfl dX3_lineSort_145 (fun v142912 hv142912 ov142912 => ?_)
                      obtain rfl : v142912 = .ref x0 := hv142912.symm.trans pf0
                      refine m_ldcK X 10 rfl dX3_lineSort_148 ?_
                      refine t_cVi (n := 1) (C := RX8) (T := TX8) (N := 8) (As := [.ref (G.2 (100 + 10))]) (rest := []) X hT (kt434_X8_isWord l G tag L F hT.2.2.2 x0 10 x3 mx0 gx0 (by decide) mx3 gx3 pf3) mx0 gx0 rfl rfl qw_234 qw_235 qw_236 qw_72 qw_237 ⟨rfl, by decide +kernel, by decide +kernel, by decide +kernel⟩ ⟨Nat.le_of_ble_eq_true rfl, Nat.le_of_ble_eq_true rfl⟩ hl rfl rfl (Nat.le_of_ble_eq_true rfl) dX3_lineSort_150 ⟨Nat.le_of_ble_eq_true rfl, Nat.le_of_ble_eq_true rfl⟩ (fun z142913 F9 H locs hT hz142913 => ?_)
                      obtain ⟨fz142913, hz142913⟩ := hz142913
                      rw [fz142913] at hT
                      refine lv_if_eq (tgt := 161) hx hb dX3_lineSort_153 (by decide) (fun c142914 => ?_) (fun c142914 => ?_)
                      · have w142915 := cv_eq (rfl : z142913.toInt = z142913.toInt) (by decide : (0 : Int32).toInt = 0) c142914
                        refine lv_iconst (v := (-1)) hx hb dX3_lineSort_161 (by decide) ?_
                        exact t_iret hQ X hT (⟨rfl, (by decide)⟩) (Nat.le_of_ble_eq_true rfl) (Nat.le_of_ble_eq_true rfl) dX3_lineSort_162
                      · have w142916 := cv_ne (rfl : z142913.toInt = z142913.toInt) (by decide : (0 : Int32).toInt = 0) c142914
                        refine lv_bipush (v := 10) hx hb dX3_lineSort_156 (by decide) ?_
                        refine lv_goto (tgt := 162) hx hb dX3_lineSort_158 (by decide) ?_
                        exact t_iret hQ X hT (⟨rfl, (by decide)⟩) (Nat.le_of_ble_eq_true rfl) (Nat.le_of_ble_eq_true rfl) dX3_lineSort_162
                    · have w142917 := cv_ne (rfl : z142909.toInt = z142909.toInt) (by decide : (0 : Int32).toInt = 0) c142910
                      refine lv_bipush (v := 9) hx hb dX3_lineSort_141 (by decide) ?_
                      exact t_iret hQ X hT (⟨rfl, (by decide)⟩) (Nat.le_of_ble_eq_true rfl) (Nat.le_of_ble_eq_true rfl) dX3_lineSort_143
                  · have w142918 := cv_ne (rfl : z142905.toInt = z142905.toInt) (by decide : (0 : Int32).toInt = 0) c142906
                    refine lv_bipush (v := 8) hx hb dX3_lineSort_126 (by decide) ?_
                    exact t_iret hQ X hT (⟨rfl, (by decide)⟩) (Nat.le_of_ble_eq_true rfl) (Nat.le_of_ble_eq_true rfl) dX3_lineSort_128
                · have w142919 := cv_ne (rfl : z142901.toInt = z142901.toInt) (by decide : (0 : Int32).toInt = 0) c142902
                  refine lv_bipush (v := 7) hx hb dX3_lineSort_111 (by decide) ?_
                  exact t_iret hQ X hT (⟨rfl, (by decide)⟩) (Nat.le_of_ble_eq_true rfl) (Nat.le_of_ble_eq_true rfl) dX3_lineSort_113
              · have w142920 := cv_ne (rfl : z142897.toInt = z142897.toInt) (by decide : (0 : Int32).toInt = 0) c142898
                refine lv_bipush (v := 6) hx hb dX3_lineSort_96 (by decide) ?_
                exact t_iret hQ X hT (⟨rfl, (by decide)⟩) (Nat.le_of_ble_eq_true rfl) (Nat.le_of_ble_eq_true rfl) dX3_lineSort_98
            · have w142921 := cv_ne (rfl : z142893.toInt = z142893.toInt) (by decide : (0 : Int32).toInt = 0) c142894
              refine lv_iconst (v := 5) hx hb dX3_lineSort_82 (by decide) ?_
              exact t_iret hQ X hT (⟨rfl, (by decide)⟩) (Nat.le_of_ble_eq_true rfl) (Nat.le_of_ble_eq_true rfl) dX3_lineSort_83
          · have w142922 := cv_ne (rfl : z142889.toInt = z142889.toInt) (by decide : (0 : Int32).toInt = 0) c142890
            refine lv_iconst (v := 4) hx hb dX3_lineSort_68 (by decide) ?_
            exact t_iret hQ X hT (⟨rfl, (by decide)⟩) (Nat.le_of_ble_eq_true rfl) (Nat.le_of_ble_eq_true rfl) dX3_lineSort_69
        · have w142923 := cv_ne (rfl : z142885.toInt = z142885.toInt) (by decide : (0 : Int32).toInt = 0) c142886
          refine lv_iconst (v := 3) hx hb dX3_lineSort_54 (by decide) ?_
          exact t_iret hQ X hT (⟨rfl, (by decide)⟩) (Nat.le_of_ble_eq_true rfl) (Nat.le_of_ble_eq_true rfl) dX3_lineSort_55
      · have w142924 := cv_ne (rfl : z142881.toInt = z142881.toInt) (by decide : (0 : Int32).toInt = 0) c142882
        refine lv_iconst (v := 2) hx hb dX3_lineSort_40 (by decide) ?_
        exact t_iret hQ X hT (⟨rfl, (by decide)⟩) (Nat.le_of_ble_eq_true rfl) (Nat.le_of_ble_eq_true rfl) dX3_lineSort_41
    · have w142925 := cv_ne (rfl : z142877.toInt = z142877.toInt) (by decide : (0 : Int32).toInt = 0) c142878
      refine lv_iconst (v := 1) hx hb dX3_lineSort_26 (by decide) ?_
      exact t_iret hQ X hT (⟨rfl, (by decide)⟩) (Nat.le_of_ble_eq_true rfl) (Nat.le_of_ble_eq_true rfl) dX3_lineSort_27
  · have w142926 := cv_ne (rfl : z142873.toInt = z142873.toInt) (by decide : (0 : Int32).toInt = 0) c142874
    refine lv_iconst (v := 0) hx hb dX3_lineSort_12 (by decide) ?_
    exact t_iret hQ X hT (⟨rfl, (by decide)⟩) (Nat.le_of_ble_eq_true rfl) (Nat.le_of_ble_eq_true rfl) dX3_lineSort_13
set_option maxHeartbeats 4000000 in
set_option maxRecDepth 100000 in
theorem kt444_X3_name (l : Launch) (G : KG) (tag : Nat → Nat) (L : List Nat) (Fo : Nat → va_E) (ho : okT G ttC tag L Fo) (p0 : Nat) (p1 : Int32) (x0 : Nat) (x1 : Nat) (x2 : Nat) (x3 : Nat) (x4 : Nat) (x5 : Nat) (m0 : p0 ∈ L) (g0 : tag p0 = 25) (mx0 : x0 ∈ L) (gx0 : tag x0 = 24) (pf0 : fld Fo p0 0 = .ref x0) (mx1 : x1 ∈ L) (gx1 : tag x1 = 18) (pf1 : fld Fo p0 1 = .ref x1) (mx2 : x2 ∈ L) (gx2 : tag x2 = 19) (pf2 : fld Fo p0 2 = .ref x2) (mx3 : x3 ∈ L) (gx3 : tag x3 = 1) (pf3 : fld Fo x0 0 = .ref x3) (mx4 : x4 ∈ L) (gx4 : tag x4 = 14) (pf4 : fld Fo p0 10 = .ref x4) (mx5 : x5 ∈ L) (gx5 : tag x5 = 15) (pf5 : fld Fo p0 11 = .ref x5) (hrel : NSR Fo x4 x5) : TMi l yX3_name cX3_name 3 (some .int) { frames := 6, cells := 0, slots := 0, locals := 128 } G ttC tag L Fo [.ref p0, .int p1] (fun r F1 => ((-2147483648) ≤ r.toInt ∧ r.toInt ≤ 2147483647) ∧ ((∀ b j : Nat, (tag b ≠ 24 ∨ j ≠ 2) → (tag b ≠ 24 ∨ j ≠ 3) → (tag b ≠ 24 ∨ j ≠ 4) → (tag b ≠ 24 ∨ j ≠ 5) → (tag b ≠ 24 ∨ j ≠ 6) → (tag b ≠ 24 ∨ j ≠ 7) → (tag b ≠ 25 ∨ j ≠ 3) → (tag b ≠ 25 ∨ j ≠ 4) → fld F1 b j = fld Fo b j) ∧ EF tag F1 Fo) ∧ (NSR F1 x4 x5)) := by
  refine t_bodyi (y := yX3_name) (cd := cX3_name) (mL := 3) (rt := (some .int)) (rm := { frames := 6, cells := 0, slots := 0, locals := 128 }) (av := [.ref p0, .int p1]) (by decide) (Nat.le_of_ble_eq_true rfl) ho ?_
  intro p e s m args below meth c ls A Q hQ X hT hl
  have hx := X.1.1
  have hb := X.1.2.1
  have hl : lv_has ls 3 [(0, .ref p0), (1, .int p1)] := hl
  have rp1 := rg_all p1
  obtain ⟨F, hFo⟩ : ∃ F : Nat → va_E, F = Fo := ⟨_, rfl⟩
  rw [← hFo] at hT pf0 pf1 pf2 pf3 pf4 pf5 hrel
  have hfr : (∀ b j : Nat, (tag b ≠ 24 ∨ j ≠ 2) → (tag b ≠ 24 ∨ j ≠ 3) → (tag b ≠ 24 ∨ j ≠ 4) → (tag b ≠ 24 ∨ j ≠ 5) → (tag b ≠ 24 ∨ j ≠ 6) → (tag b ≠ 24 ∨ j ≠ 7) → (tag b ≠ 25 ∨ j ≠ 3) → (tag b ≠ 25 ∨ j ≠ 4) → fld F b j = fld Fo b j) ∧ EF tag F Fo := by
    rw [hFo]
    exact ⟨by intros; rfl, fun _ _ _ => rfl⟩
  refine lv_aload_n hx hb dX3_name_0 rfl (lv_at hl 0 rfl) ?_
  refine t_get (C := RX3) (T := TX3) (N := 13) X hT m0 g0 rfl rfl 0 (by decide) qw_73 inlX3 rfl dX3_name_1 (fun v144214 hv144214 ov144214 => ?_)
  obtain rfl : v144214 = .ref x0 := hv144214.symm.trans pf0
  refine t_get (C := RX8) (T := TX8) (N := 8) X hT mx0 gx0 rfl rfl 3 (by decide) qw_170 inlX8 rfl dX3_name_4 (fun v144215 hv144215 ov144215 => ?_)
  obtain ⟨z144216, rfl, rz144216⟩ := okV_i ov144215
  refine lv_iconst (v := 1) hx hb dX3_name_7 (by decide) ?_
  refine lv_icmp_ne (tgt := 19) hx hb dX3_name_8 (by decide) (fun c144217 => ?_) (fun c144217 => ?_)
  · have w144218 := cv_ne (rfl : z144216.toInt = z144216.toInt) (by decide : (1 : Int32).toInt = 1) c144217
    refine lv_aload_n hx hb dX3_name_19 rfl (lv_at hl 0 rfl) ?_
    refine lv_iconst (v := 1) hx hb dX3_name_20 (by decide) ?_
    refine lv_aload_n hx hb dX3_name_21 rfl (lv_at hl 0 rfl) ?_
    refine t_get (C := RX3) (T := TX3) (N := 13) X hT m0 g0 rfl rfl 0 (by decide) qw_73 inlX3 rfl dX3_name_22 (fun v144219 hv144219 ov144219 => ?_)
    obtain rfl : v144219 = .ref x0 := hv144219.symm.trans pf0
    refine t_get (C := RX8) (T := TX8) (N := 8) X hT mx0 gx0 rfl rfl 4 (by decide) qw_227 inlX8 rfl dX3_name_25 (fun v144220 hv144220 ov144220 => ?_)
    obtain ⟨z144221, rfl, rz144221⟩ := okV_i ov144220
    refine t_cVv (n := 2) (C := RX3) (T := TX3) (N := 13) (As := [.int 1, .int z144221]) (rest := []) X hT (kt432_X3_fail l G tag L F hT.2.2.2 p0 1 z144221 m0 g0 (by decide)) m0 g0 rfl rfl qw_287 qw_288 qw_289 qw_28 qw_290 ⟨rfl, by decide +kernel, by decide +kernel, by decide +kernel⟩ ⟨Nat.le_of_ble_eq_true rfl, Nat.le_of_ble_eq_true rfl⟩ hl rfl rfl (Nat.le_of_ble_eq_true rfl) dX3_name_28 ⟨Nat.le_of_ble_eq_true rfl, Nat.le_of_ble_eq_true rfl⟩ (fun F H locs hT hz144222 => ?_)
    obtain ⟨yz144222, xz144222_0⟩ := hz144222
    have pf0 := (yz144222.1 _ 0 (Or.inr (by decide)) (Or.inr (by decide))).trans pf0
    have pf1 := (yz144222.1 _ 1 (Or.inr (by decide)) (Or.inr (by decide))).trans pf1
    have pf2 := (yz144222.1 _ 2 (Or.inr (by decide)) (Or.inr (by decide))).trans pf2
    have pf3 := (yz144222.1 _ 0 (Or.inr (by decide)) (Or.inr (by decide))).trans pf3
    have pf4 := (yz144222.1 _ 10 (Or.inr (by decide)) (Or.inr (by decide))).trans pf4
    have pf5 := (yz144222.1 _ 11 (Or.inr (by decide)) (Or.inr (by decide))).trans pf5
    have hv144215 := (yz144222.1 _ 3 (Or.inl (by rw [gx0]; decide)) (Or.inr (by decide))).trans hv144215
    have hv144220 := (yz144222.1 _ 4 (Or.inr (by decide)) (Or.inl (by rw [gx0]; decide))).trans hv144220
    have hfr : (∀ b j : Nat, (tag b ≠ 24 ∨ j ≠ 2) → (tag b ≠ 24 ∨ j ≠ 3) → (tag b ≠ 24 ∨ j ≠ 4) → (tag b ≠ 24 ∨ j ≠ 5) → (tag b ≠ 24 ∨ j ≠ 6) → (tag b ≠ 24 ∨ j ≠ 7) → (tag b ≠ 25 ∨ j ≠ 3) → (tag b ≠ 25 ∨ j ≠ 4) → fld F b j = fld Fo b j) ∧ EF tag F Fo := ⟨fun b j n24_2 n24_3 n24_4 n24_5 n24_6 n24_7 n25_3 n25_4 => (yz144222.1 b j n25_3 n25_4).trans (hfr.1 b j n24_2 n24_3 n24_4 n24_5 n24_6 n24_7 n25_3 n25_4), fun b j hb => (yz144222.2 b j hb).trans (hfr.2 b j hb)⟩
    have hrel := nsr_of (fun j => yz144222.2 _ j (Or.inl gx4)) (fun j => yz144222.2 _ j (Or.inr gx5)) hrel
    obtain ⟨z144223, qz144223, rz144223⟩ := xz144222_0
    refine lv_aload_n hx hb dX3_name_31 rfl (lv_at hl 0 rfl) ?_
    refine t_cVi (n := 0) (C := RX3) (T := TX3) (N := 13) (As := []) (rest := []) X hT (kt442_X3_findName l G tag L F hT.2.2.2 p0 x0 x1 x2 x3 x4 x5 m0 g0 mx0 gx0 pf0 mx1 gx1 pf1 mx2 gx2 pf2 mx3 gx3 pf3 mx4 gx4 pf4 mx5 gx5 pf5) m0 g0 rfl rfl qw_361 qw_362 qw_363 qw_28 qw_364 ⟨rfl, by decide +kernel, by decide +kernel, by decide +kernel⟩ ⟨Nat.le_of_ble_eq_true rfl, Nat.le_of_ble_eq_true rfl⟩ hl rfl rfl (Nat.le_of_ble_eq_true rfl) dX3_name_32 ⟨Nat.le_of_ble_eq_true rfl, Nat.le_of_ble_eq_true rfl⟩ (fun z144224 F9 H locs hT hz144224 => ?_)
    obtain ⟨fz144224, hz144224⟩ := hz144224
    rw [fz144224] at hT
    refine lv_istore_n (lv' := [(2, .int z144224), (0, .ref p0), (1, .int p1)]) hx hb dX3_name_35 rfl hl (by decide) rfl (fun ls hl => ?_)
    refine lv_iload_n hx hb dX3_name_36 rfl (lv_at hl 0 rfl) ?_
    refine lv_iconst (v := (-1)) hx hb dX3_name_37 (by decide) ?_
    refine lv_icmp_eq (tgt := 51) hx hb dX3_name_38 (by decide) (fun c144225 => ?_) (fun c144225 => ?_)
    · have w144226 := cv_eq (rfl : z144224.toInt = z144224.toInt) (by decide : ((-1) : Int32).toInt = (-1)) c144225
      refine lv_aload_n hx hb dX3_name_51 rfl (lv_at hl 1 rfl) ?_
      refine lv_iconst (v := 2) hx hb dX3_name_52 (by decide) ?_
      refine lv_aload_n hx hb dX3_name_53 rfl (lv_at hl 1 rfl) ?_
      refine t_get (C := RX3) (T := TX3) (N := 13) X hT m0 g0 rfl rfl 0 (by decide) qw_73 inlX3 rfl dX3_name_54 (fun v144227 hv144227 ov144227 => ?_)
      obtain rfl : v144227 = .ref x0 := hv144227.symm.trans pf0
      refine t_get (C := RX8) (T := TX8) (N := 8) X hT mx0 gx0 rfl rfl 4 (by decide) qw_227 inlX8 rfl dX3_name_57 (fun v144228 hv144228 ov144228 => ?_)
      obtain rfl : v144228 = .int z144221 := hv144228.symm.trans hv144220
      refine t_cVv (n := 2) (C := RX3) (T := TX3) (N := 13) (As := [.int 2, .int z144221]) (rest := []) X hT (kt432_X3_fail l G tag L F hT.2.2.2 p0 2 z144221 m0 g0 (by decide)) m0 g0 rfl rfl qw_287 qw_288 qw_289 qw_28 qw_290 ⟨rfl, by decide +kernel, by decide +kernel, by decide +kernel⟩ ⟨Nat.le_of_ble_eq_true rfl, Nat.le_of_ble_eq_true rfl⟩ hl rfl rfl (Nat.le_of_ble_eq_true rfl) dX3_name_60 ⟨Nat.le_of_ble_eq_true rfl, Nat.le_of_ble_eq_true rfl⟩ (fun F H locs hT hz144229 => ?_)
      obtain ⟨yz144229, xz144229_0⟩ := hz144229
      have pf0 := (yz144229.1 _ 0 (Or.inr (by decide)) (Or.inr (by decide))).trans pf0
      have pf1 := (yz144229.1 _ 1 (Or.inr (by decide)) (Or.inr (by decide))).trans pf1
      have pf2 := (yz144229.1 _ 2 (Or.inr (by decide)) (Or.inr (by decide))).trans pf2
      have pf3 := (yz144229.1 _ 0 (Or.inr (by decide)) (Or.inr (by decide))).trans pf3
      have pf4 := (yz144229.1 _ 10 (Or.inr (by decide)) (Or.inr (by decide))).trans pf4
      have pf5 := (yz144229.1 _ 11 (Or.inr (by decide)) (Or.inr (by decide))).trans pf5
      have hv144215 := (yz144229.1 _ 3 (Or.inl (by rw [gx0]; decide)) (Or.inr (by decide))).trans hv144215
      have hv144220 := (yz144229.1 _ 4 (Or.inr (by decide)) (Or.inl (by rw [gx0]; decide))).trans hv144220
      have hfr : (∀ b j : Nat, (tag b ≠ 24 ∨ j ≠ 2) → (tag b ≠ 24 ∨ j ≠ 3) → (tag b ≠ 24 ∨ j ≠ 4) → (tag b ≠ 24 ∨ j ≠ 5) → (tag b ≠ 24 ∨ j ≠ 6) → (tag b ≠ 24 ∨ j ≠ 7) → (tag b ≠ 25 ∨ j ≠ 3) → (tag b ≠ 25 ∨ j ≠ 4) → fld F b j = fld Fo b j) ∧ EF tag F Fo := ⟨fun b j n24_2 n24_3 n24_4 n24_5 n24_6 n24_7 n25_3 n25_4 => (yz144229.1 b j n25_3 n25_4).trans (hfr.1 b j n24_2 n24_3 n24_4 n24_5 n24_6 n24_7 n25_3 n25_4), fun b j hb => (yz144229.2 b j hb).trans (hfr.2 b j hb)⟩
      have hrel := nsr_of (fun j => yz144229.2 _ j (Or.inl gx4)) (fun j => yz144229.2 _ j (Or.inr gx5)) hrel
      obtain ⟨z144230, qz144230, rz144230⟩ := xz144229_0
      refine lv_aload_n hx hb dX3_name_63 rfl (lv_at hl 1 rfl) ?_
      refine t_get (C := RX3) (T := TX3) (N := 13) X hT m0 g0 rfl rfl 3 (by decide) qw_163 inlX3 rfl dX3_name_64 (fun v144231 hv144231 ov144231 => ?_)
      obtain rfl : v144231 = .int z144230 := hv144231.symm.trans qz144230
      refine lv_if_ne (tgt := 75) hx hb dX3_name_67 (by decide) (fun c144232 => ?_) (fun c144232 => ?_)
      · have w144233 := cv_ne (rfl : z144230.toInt = z144230.toInt) (by decide : (0 : Int32).toInt = 0) c144232
        refine lv_iconst (v := 0) hx hb dX3_name_75 (by decide) ?_
        exact t_iret hQ X hT (⟨rg_all _, hfr, hrel⟩) (Nat.le_of_ble_eq_true rfl) (Nat.le_of_ble_eq_true rfl) dX3_name_76
      · have w144234 := cv_eq (rfl : z144230.toInt = z144230.toInt) (by decide : (0 : Int32).toInt = 0) c144232
        exfalso
        omega
    · have w144235 := cv_ne (rfl : z144224.toInt = z144224.toInt) (by decide : ((-1) : Int32).toInt = (-1)) c144225
      refine lv_aload_n hx hb dX3_name_41 rfl (lv_at hl 1 rfl) ?_
      refine t_get (C := RX3) (T := TX3) (N := 13) X hT m0 g0 rfl rfl 10 (by decide) qw_75 inlX3 rfl dX3_name_42 (fun v144236 hv144236 ov144236 => ?_)
      obtain rfl : v144236 = .ref x4 := hv144236.symm.trans pf4
      refine lv_iload_n hx hb dX3_name_45 rfl (lv_at hl 0 rfl) ?_
      refine t_ild X hT mx4 gx4 rfl (by omega) dX3_name_46 (fun z144237 vz144237 rz144237 => ?_)
      have rz144237 : (-2147483648) ≤ z144237.toInt ∧ z144237.toInt ≤ 2147483647 := rz144237
      refine lv_iload_n hx hb dX3_name_47 rfl (lv_at hl 2 rfl) ?_
      refine lv_icmp_eq (tgt := 63) hx hb dX3_name_48 (by decide) (fun c144238 => ?_) (fun c144238 => ?_)
      · have w144239 := cv_eq (rfl : z144237.toInt = z144237.toInt) (rfl : p1.toInt = p1.toInt) c144238
        refine lv_aload_n hx hb dX3_name_63 rfl (lv_at hl 1 rfl) ?_
        refine t_get (C := RX3) (T := TX3) (N := 13) X hT m0 g0 rfl rfl 3 (by decide) qw_163 inlX3 rfl dX3_name_64 (fun v144240 hv144240 ov144240 => ?_)
        obtain rfl : v144240 = .int z144223 := hv144240.symm.trans qz144223
        refine lv_if_ne (tgt := 75) hx hb dX3_name_67 (by decide) (fun c144241 => ?_) (fun c144241 => ?_)
        · have w144242 := cv_ne (rfl : z144223.toInt = z144223.toInt) (by decide : (0 : Int32).toInt = 0) c144241
          refine lv_iconst (v := 0) hx hb dX3_name_75 (by decide) ?_
          exact t_iret hQ X hT (⟨rg_all _, hfr, hrel⟩) (Nat.le_of_ble_eq_true rfl) (Nat.le_of_ble_eq_true rfl) dX3_name_76
        · have w144243 := cv_eq (rfl : z144223.toInt = z144223.toInt) (by decide : (0 : Int32).toInt = 0) c144241
          exfalso
          omega
      · have w144244 := cv_ne (rfl : z144237.toInt = z144237.toInt) (rfl : p1.toInt = p1.toInt) c144238
        refine lv_aload_n hx hb dX3_name_51 rfl (lv_at hl 1 rfl) ?_
        refine lv_iconst (v := 2) hx hb dX3_name_52 (by decide) ?_
        refine lv_aload_n hx hb dX3_name_53 rfl (lv_at hl 1 rfl) ?_
        refine t_get (C := RX3) (T := TX3) (N := 13) X hT m0 g0 rfl rfl 0 (by decide) qw_73 inlX3 rfl dX3_name_54 (fun v144245 hv144245 ov144245 => ?_)
        obtain rfl : v144245 = .ref x0 := hv144245.symm.trans pf0
        refine t_get (C := RX8) (T := TX8) (N := 8) X hT mx0 gx0 rfl rfl 4 (by decide) qw_227 inlX8 rfl dX3_name_57 (fun v144246 hv144246 ov144246 => ?_)
        obtain rfl : v144246 = .int z144221 := hv144246.symm.trans hv144220
        refine t_cVv (n := 2) (C := RX3) (T := TX3) (N := 13) (As := [.int 2, .int z144221]) (rest := []) X hT (kt432_X3_fail l G tag L F hT.2.2.2 p0 2 z144221 m0 g0 (by decide)) m0 g0 rfl rfl qw_287 qw_288 qw_289 qw_28 qw_290 ⟨rfl, by decide +kernel, by decide +kernel, by decide +kernel⟩ ⟨Nat.le_of_ble_eq_true rfl, Nat.le_of_ble_eq_true rfl⟩ hl rfl rfl (Nat.le_of_ble_eq_true rfl) dX3_name_60 ⟨Nat.le_of_ble_eq_true rfl, Nat.le_of_ble_eq_true rfl⟩ (fun F H locs hT hz144247 => ?_)
        obtain ⟨yz144247, xz144247_0⟩ := hz144247
        have pf0 := (yz144247.1 _ 0 (Or.inr (by decide)) (Or.inr (by decide))).trans pf0
        have pf1 := (yz144247.1 _ 1 (Or.inr (by decide)) (Or.inr (by decide))).trans pf1
        have pf2 := (yz144247.1 _ 2 (Or.inr (by decide)) (Or.inr (by decide))).trans pf2
        have pf3 := (yz144247.1 _ 0 (Or.inr (by decide)) (Or.inr (by decide))).trans pf3
        have pf4 := (yz144247.1 _ 10 (Or.inr (by decide)) (Or.inr (by decide))).trans pf4
        have pf5 := (yz144247.1 _ 11 (Or.inr (by decide)) (Or.inr (by decide))).trans pf5
        have hv144215 := (yz144247.1 _ 3 (Or.inl (by rw [gx0]; decide)) (Or.inr (by decide))).trans hv144215
        have hv144220 := (yz144247.1 _ 4 (Or.inr (by decide)) (Or.inl (by rw [gx0]; decide))).trans hv144220
        have vz144237 := (yz144247.2 _ _ (Or.inl gx4)).trans vz144237
        have hfr : (∀ b j : Nat, (tag b ≠ 24 ∨ j ≠ 2) → (tag b ≠ 24 ∨ j ≠ 3) → (tag b ≠ 24 ∨ j ≠ 4) → (tag b ≠ 24 ∨ j ≠ 5) → (tag b ≠ 24 ∨ j ≠ 6) → (tag b ≠ 24 ∨ j ≠ 7) → (tag b ≠ 25 ∨ j ≠ 3) → (tag b ≠ 25 ∨ j ≠ 4) → fld F b j = fld Fo b j) ∧ EF tag F Fo := ⟨fun b j n24_2 n24_3 n24_4 n24_5 n24_6 n24_7 n25_3 n25_4 => (yz144247.1 b j n25_3 n25_4).trans (hfr.1 b j n24_2 n24_3 n24_4 n24_5 n24_6 n24_7 n25_3 n25_4), fun b j hb => (yz144247.2 b j hb).trans (hfr.2 b j hb)⟩
        have hrel := nsr_of (fun j => yz144247.2 _ j (Or.inl gx4)) (fun j => yz144247.2 _ j (Or.inr gx5)) hrel
        obtain ⟨z144248, qz144248, rz144248⟩ := xz144247_0
        refine lv_aload_n hx hb dX3_name_63 rfl (lv_at hl 1 rfl) ?_
        refine t_get (C := RX3) (T := TX3) (N := 13) X hT m0 g0 rfl rfl 3 (by decide) qw_163 inlX3 rfl dX3_name_64 (fun v144249 hv144249 ov144249 => ?_)
        obtain rfl : v144249 = .int z144248 := hv144249.symm.trans qz144248
        refine lv_if_ne (tgt := 75) hx hb dX3_name_67 (by decide) (fun c144250 => ?_) (fun c144250 => ?_)
        · have w144251 := cv_ne (rfl : z144248.toInt = z144248.toInt) (by decide : (0 : Int32).toInt = 0) c144250
          refine lv_iconst (v := 0) hx hb dX3_name_75 (by decide) ?_
          exact t_iret hQ X hT (⟨rg_all _, hfr, hrel⟩) (Nat.le_of_ble_eq_true rfl) (Nat.le_of_ble_eq_true rfl) dX3_name_76
        · have w144252 := cv_eq (rfl : z144248.toInt = z144248.toInt) (by decide : (0 : Int32).toInt = 0) c144250
          exfalso
          omega
  · have w144253 := cv_eq (rfl : z144216.toInt = z144216.toInt) (by decide : (1 : Int32).toInt = 1) c144217
    refine lv_aload_n hx hb dX3_name_11 rfl (lv_at hl 0 rfl) ?_
    refine t_cVi (n := 0) (C := RX3) (T := TX3) (N := 13) (As := []) (rest := []) X hT (kt443_X3_lineSort l G tag L F hT.2.2.2 p0 x0 x1 x2 x3 x4 x5 m0 g0 mx0 gx0 pf0 mx1 gx1 pf1 mx2 gx2 pf2 mx3 gx3 pf3 mx4 gx4 pf4 mx5 gx5 pf5) m0 g0 rfl rfl qw_230 qw_231 qw_232 qw_28 qw_233 ⟨rfl, by decide +kernel, by decide +kernel, by decide +kernel⟩ ⟨Nat.le_of_ble_eq_true rfl, Nat.le_of_ble_eq_true rfl⟩ hl rfl rfl (Nat.le_of_ble_eq_true rfl) dX3_name_12 ⟨Nat.le_of_ble_eq_true rfl, Nat.le_of_ble_eq_true rfl⟩ (fun z144254 F9 H locs hT hz144254 => ?_)
    obtain ⟨fz144254, hz144254⟩ := hz144254
    rw [fz144254] at hT
    refine lv_iconst (v := (-1)) hx hb dX3_name_15 (by decide) ?_
    refine lv_icmp_eq (tgt := 31) hx hb dX3_name_16 (by decide) (fun c144255 => ?_) (fun c144255 => ?_)
    · have w144256 := cv_eq (rfl : z144254.toInt = z144254.toInt) (by decide : ((-1) : Int32).toInt = (-1)) c144255
      refine lv_aload_n hx hb dX3_name_31 rfl (lv_at hl 0 rfl) ?_
      refine t_cVi (n := 0) (C := RX3) (T := TX3) (N := 13) (As := []) (rest := []) X hT (kt442_X3_findName l G tag L F hT.2.2.2 p0 x0 x1 x2 x3 x4 x5 m0 g0 mx0 gx0 pf0 mx1 gx1 pf1 mx2 gx2 pf2 mx3 gx3 pf3 mx4 gx4 pf4 mx5 gx5 pf5) m0 g0 rfl rfl qw_361 qw_362 qw_363 qw_28 qw_364 ⟨rfl, by decide +kernel, by decide +kernel, by decide +kernel⟩ ⟨Nat.le_of_ble_eq_true rfl, Nat.le_of_ble_eq_true rfl⟩ hl rfl rfl (Nat.le_of_ble_eq_true rfl) dX3_name_32 ⟨Nat.le_of_ble_eq_true rfl, Nat.le_of_ble_eq_true rfl⟩ (fun z144257 F9 H locs hT hz144257 => ?_)
      obtain ⟨fz144257, hz144257⟩ := hz144257
      rw [fz144257] at hT
      refine lv_istore_n (lv' := [(2, .int z144257), (0, .ref p0), (1, .int p1)]) hx hb dX3_name_35 rfl hl (by decide) rfl (fun ls hl => ?_)
      refine lv_iload_n hx hb dX3_name_36 rfl (lv_at hl 0 rfl) ?_
      refine lv_iconst (v := (-1)) hx hb dX3_name_37 (by decide) ?_
      refine lv_icmp_eq (tgt := 51) hx hb dX3_name_38 (by decide) (fun c144258 => ?_) (fun c144258 => ?_)
      · have w144259 := cv_eq (rfl : z144257.toInt = z144257.toInt) (by decide : ((-1) : Int32).toInt = (-1)) c144258
        refine lv_aload_n hx hb dX3_name_51 rfl (lv_at hl 1 rfl) ?_
        refine lv_iconst (v := 2) hx hb dX3_name_52 (by decide) ?_
        refine lv_aload_n hx hb dX3_name_53 rfl (lv_at hl 1 rfl) ?_
        refine t_get (C := RX3) (T := TX3) (N := 13) X hT m0 g0 rfl rfl 0 (by decide) qw_73 inlX3 rfl dX3_name_54 (fun v144260 hv144260 ov144260 => ?_)
        obtain rfl : v144260 = .ref x0 := hv144260.symm.trans pf0
        refine t_get (C := RX8) (T := TX8) (N := 8) X hT mx0 gx0 rfl rfl 4 (by decide) qw_227 inlX8 rfl dX3_name_57 (fun v144261 hv144261 ov144261 => ?_)
        obtain ⟨z144262, rfl, rz144262⟩ := okV_i ov144261
        refine t_cVv (n := 2) (C := RX3) (T := TX3) (N := 13) (As := [.int 2, .int z144262]) (rest := []) X hT (kt432_X3_fail l G tag L F hT.2.2.2 p0 2 z144262 m0 g0 (by decide)) m0 g0 rfl rfl qw_287 qw_288 qw_289 qw_28 qw_290 ⟨rfl, by decide +kernel, by decide +kernel, by decide +kernel⟩ ⟨Nat.le_of_ble_eq_true rfl, Nat.le_of_ble_eq_true rfl⟩ hl rfl rfl (Nat.le_of_ble_eq_true rfl) dX3_name_60 ⟨Nat.le_of_ble_eq_true rfl, Nat.le_of_ble_eq_true rfl⟩ (fun F H locs hT hz144263 => ?_)
        obtain ⟨yz144263, xz144263_0⟩ := hz144263
        have pf0 := (yz144263.1 _ 0 (Or.inr (by decide)) (Or.inr (by decide))).trans pf0
        have pf1 := (yz144263.1 _ 1 (Or.inr (by decide)) (Or.inr (by decide))).trans pf1
        have pf2 := (yz144263.1 _ 2 (Or.inr (by decide)) (Or.inr (by decide))).trans pf2
        have pf3 := (yz144263.1 _ 0 (Or.inr (by decide)) (Or.inr (by decide))).trans pf3
        have pf4 := (yz144263.1 _ 10 (Or.inr (by decide)) (Or.inr (by decide))).trans pf4
        have pf5 := (yz144263.1 _ 11 (Or.inr (by decide)) (Or.inr (by decide))).trans pf5
        have hv144215 := (yz144263.1 _ 3 (Or.inl (by rw [gx0]; decide)) (Or.inr (by decide))).trans hv144215
        have hv144261 := (yz144263.1 _ 4 (Or.inr (by decide)) (Or.inl (by rw [gx0]; decide))).trans hv144261
        have hfr : (∀ b j : Nat, (tag b ≠ 24 ∨ j ≠ 2) → (tag b ≠ 24 ∨ j ≠ 3) → (tag b ≠ 24 ∨ j ≠ 4) → (tag b ≠ 24 ∨ j ≠ 5) → (tag b ≠ 24 ∨ j ≠ 6) → (tag b ≠ 24 ∨ j ≠ 7) → (tag b ≠ 25 ∨ j ≠ 3) → (tag b ≠ 25 ∨ j ≠ 4) → fld F b j = fld Fo b j) ∧ EF tag F Fo := ⟨fun b j n24_2 n24_3 n24_4 n24_5 n24_6 n24_7 n25_3 n25_4 => (yz144263.1 b j n25_3 n25_4).trans (hfr.1 b j n24_2 n24_3 n24_4 n24_5 n24_6 n24_7 n25_3 n25_4), fun b j hb => (yz144263.2 b j hb).trans (hfr.2 b j hb)⟩
        have hrel := nsr_of (fun j => yz144263.2 _ j (Or.inl gx4)) (fun j => yz144263.2 _ j (Or.inr gx5)) hrel
        obtain ⟨z144264, qz144264, rz144264⟩ := xz144263_0
        refine lv_aload_n hx hb dX3_name_63 rfl (lv_at hl 1 rfl) ?_
        refine t_get (C := RX3) (T := TX3) (N := 13) X hT m0 g0 rfl rfl 3 (by decide) qw_163 inlX3 rfl dX3_name_64 (fun v144265 hv144265 ov144265 => ?_)
        obtain rfl : v144265 = .int z144264 := hv144265.symm.trans qz144264
        refine lv_if_ne (tgt := 75) hx hb dX3_name_67 (by decide) (fun c144266 => ?_) (fun c144266 => ?_)
        · have w144267 := cv_ne (rfl : z144264.toInt = z144264.toInt) (by decide : (0 : Int32).toInt = 0) c144266
          refine lv_iconst (v := 0) hx hb dX3_name_75 (by decide) ?_
          exact t_iret hQ X hT (⟨rg_all _, hfr, hrel⟩) (Nat.le_of_ble_eq_true rfl) (Nat.le_of_ble_eq_true rfl) dX3_name_76
        · have w144268 := cv_eq (rfl : z144264.toInt = z144264.toInt) (by decide : (0 : Int32).toInt = 0) c144266
          exfalso
          omega
      · have w144269 := cv_ne (rfl : z144257.toInt = z144257.toInt) (by decide : ((-1) : Int32).toInt = (-1)) c144258
        refine lv_aload_n hx hb dX3_name_41 rfl (lv_at hl 1 rfl) ?_
        refine t_get (C := RX3) (T := TX3) (N := 13) X hT m0 g0 rfl rfl 10 (by decide) qw_75 inlX3 rfl dX3_name_42 (fun v144270 hv144270 ov144270 => ?_)
        obtain rfl : v144270 = .ref x4 := hv144270.symm.trans pf4
        refine lv_iload_n hx hb dX3_name_45 rfl (lv_at hl 0 rfl) ?_
        refine t_ild X hT mx4 gx4 rfl (by omega) dX3_name_46 (fun z144271 vz144271 rz144271 => ?_)
        have rz144271 : (-2147483648) ≤ z144271.toInt ∧ z144271.toInt ≤ 2147483647 := rz144271
        refine lv_iload_n hx hb dX3_name_47 rfl (lv_at hl 2 rfl) ?_
        refine lv_icmp_eq (tgt := 63) hx hb dX3_name_48 (by decide) (fun c144272 => ?_) (fun c144272 => ?_)
        · have w144273 := cv_eq (rfl : z144271.toInt = z144271.toInt) (rfl : p1.toInt = p1.toInt) c144272
          refine lv_aload_n hx hb dX3_name_63 rfl (lv_at hl 1 rfl) ?_
          refine t_get (C := RX3) (T := TX3) (N := 13) X hT m0 g0 rfl rfl 3 (by decide) qw_163 inlX3 rfl dX3_name_64 (fun v144274 hv144274 ov144274 => ?_)
          obtain ⟨z144275, rfl, rz144275⟩ := okV_i ov144274
          refine lv_if_ne (tgt := 75) hx hb dX3_name_67 (by decide) (fun c144276 => ?_) (fun c144276 => ?_)
          · have w144277 := cv_ne (rfl : z144275.toInt = z144275.toInt) (by decide : (0 : Int32).toInt = 0) c144276
            refine lv_iconst (v := 0) hx hb dX3_name_75 (by decide) ?_
            exact t_iret hQ X hT (⟨rg_all _, hfr, hrel⟩) (Nat.le_of_ble_eq_true rfl) (Nat.le_of_ble_eq_true rfl) dX3_name_76
          · have w144278 := cv_eq (rfl : z144275.toInt = z144275.toInt) (by decide : (0 : Int32).toInt = 0) c144276
            refine lv_iload_n hx hb dX3_name_70 rfl (lv_at hl 0 rfl) ?_
            refine lv_iconst (v := (-1)) hx hb dX3_name_71 (by decide) ?_
            refine lv_icmp_ne (tgt := 77) hx hb dX3_name_72 (by decide) (fun c144279 => ?_) (fun c144279 => ?_)
            · have w144280 := cv_ne (rfl : z144257.toInt = z144257.toInt) (by decide : ((-1) : Int32).toInt = (-1)) c144279
              refine lv_aload_n hx hb dX3_name_77 rfl (lv_at hl 1 rfl) ?_
              refine t_get (C := RX3) (T := TX3) (N := 13) X hT m0 g0 rfl rfl 0 (by decide) qw_73 inlX3 rfl dX3_name_78 (fun v144281 hv144281 ov144281 => ?_)
              obtain rfl : v144281 = .ref x0 := hv144281.symm.trans pf0
              refine t_cVv (n := 0) (C := RX8) (T := TX8) (N := 8) (As := []) (rest := []) X hT (kt440_X8_advance l G tag L F hT.2.2.2 x0 x3 mx0 gx0 mx3 gx3 pf3) mx0 gx0 rfl rfl qw_305 qw_197 qw_198 qw_72 qw_199 ⟨rfl, by decide +kernel, by decide +kernel, by decide +kernel⟩ ⟨Nat.le_of_ble_eq_true rfl, Nat.le_of_ble_eq_true rfl⟩ hl rfl rfl (Nat.le_of_ble_eq_true rfl) dX3_name_81 ⟨Nat.le_of_ble_eq_true rfl, Nat.le_of_ble_eq_true rfl⟩ (fun F H locs hT hz144282 => ?_)
              have yz144282 := hz144282
              have pf0 := (yz144282.1 _ 0 (Or.inr (by decide)) (Or.inr (by decide)) (Or.inr (by decide)) (Or.inr (by decide)) (Or.inr (by decide)) (Or.inr (by decide))).trans pf0
              have pf1 := (yz144282.1 _ 1 (Or.inr (by decide)) (Or.inr (by decide)) (Or.inr (by decide)) (Or.inr (by decide)) (Or.inr (by decide)) (Or.inr (by decide))).trans pf1
              have pf2 := (yz144282.1 _ 2 (Or.inl (by rw [g0]; decide)) (Or.inr (by decide)) (Or.inr (by decide)) (Or.inr (by decide)) (Or.inr (by decide)) (Or.inr (by decide))).trans pf2
              have pf3 := (yz144282.1 _ 0 (Or.inr (by decide)) (Or.inr (by decide)) (Or.inr (by decide)) (Or.inr (by decide)) (Or.inr (by decide)) (Or.inr (by decide))).trans pf3
              have pf4 := (yz144282.1 _ 10 (Or.inr (by decide)) (Or.inr (by decide)) (Or.inr (by decide)) (Or.inr (by decide)) (Or.inr (by decide)) (Or.inr (by decide))).trans pf4
              have pf5 := (yz144282.1 _ 11 (Or.inr (by decide)) (Or.inr (by decide)) (Or.inr (by decide)) (Or.inr (by decide)) (Or.inr (by decide)) (Or.inr (by decide))).trans pf5
              have vz144271 := (yz144282.2 _ _ (Or.inl gx4)).trans vz144271
              have hv144274 := (yz144282.1 _ 3 (Or.inr (by decide)) (Or.inl (by rw [g0]; decide)) (Or.inr (by decide)) (Or.inr (by decide)) (Or.inr (by decide)) (Or.inr (by decide))).trans hv144274
              have hfr : (∀ b j : Nat, (tag b ≠ 24 ∨ j ≠ 2) → (tag b ≠ 24 ∨ j ≠ 3) → (tag b ≠ 24 ∨ j ≠ 4) → (tag b ≠ 24 ∨ j ≠ 5) → (tag b ≠ 24 ∨ j ≠ 6) → (tag b ≠ 24 ∨ j ≠ 7) → (tag b ≠ 25 ∨ j ≠ 3) → (tag b ≠ 25 ∨ j ≠ 4) → fld F b j = fld Fo b j) ∧ EF tag F Fo := ⟨fun b j n24_2 n24_3 n24_4 n24_5 n24_6 n24_7 n25_3 n25_4 => (yz144282.1 b j n24_2 n24_3 n24_4 n24_5 n24_6 n24_7).trans (hfr.1 b j n24_2 n24_3 n24_4 n24_5 n24_6 n24_7 n25_3 n25_4), fun b j hb => (yz144282.2 b j hb).trans (hfr.2 b j hb)⟩
              have hrel := nsr_of (fun j => yz144282.2 _ j (Or.inl gx4)) (fun j => yz144282.2 _ j (Or.inr gx5)) hrel
              refine lv_aload_n hx hb dX3_name_84 rfl (lv_at hl 1 rfl) ?_
              refine t_get (C := RX3) (T := TX3) (N := 13) X hT m0 g0 rfl rfl 11 (by decide) qw_76 inlX3 rfl dX3_name_85 (fun v144283 hv144283 ov144283 => ?_)
              obtain rfl : v144283 = .ref x5 := hv144283.symm.trans pf5
              refine lv_iload_n hx hb dX3_name_88 rfl (lv_at hl 0 rfl) ?_
              refine t_ild X hT mx5 gx5 rfl (by omega) dX3_name_89 (fun z144284 vz144284 rz144284 => ?_)
              have rz144284 : (-2147483648) ≤ z144284.toInt ∧ z144284.toInt ≤ 2147483647 := rz144284
              exact t_iret hQ X hT (⟨rg_all _, hfr, hrel⟩) (Nat.le_of_ble_eq_true rfl) (Nat.le_of_ble_eq_true rfl) dX3_name_90
            · have w144285 := cv_eq (rfl : z144257.toInt = z144257.toInt) (by decide : ((-1) : Int32).toInt = (-1)) c144279
              exfalso
              omega
        · have w144286 := cv_ne (rfl : z144271.toInt = z144271.toInt) (rfl : p1.toInt = p1.toInt) c144272
          refine lv_aload_n hx hb dX3_name_51 rfl (lv_at hl 1 rfl) ?_
          refine lv_iconst (v := 2) hx hb dX3_name_52 (by decide) ?_
          refine lv_aload_n hx hb dX3_name_53 rfl (lv_at hl 1 rfl) ?_
          refine t_get (C := RX3) (T := TX3) (N := 13) X hT m0 g0 rfl rfl 0 (by decide) qw_73 inlX3 rfl dX3_name_54 (fun v144287 hv144287 ov144287 => ?_)
          obtain rfl : v144287 = .ref x0 := hv144287.symm.trans pf0
          refine t_get (C := RX8) (T := TX8) (N := 8) X hT mx0 gx0 rfl rfl 4 (by decide) qw_227 inlX8 rfl dX3_name_57 (fun v144288 hv144288 ov144288 => ?_)
          obtain ⟨z144289, rfl, rz144289⟩ := okV_i ov144288
          refine t_cVv (n := 2) (C := RX3) (T := TX3) (N := 13) (As := [.int 2, .int z144289]) (rest := []) X hT (kt432_X3_fail l G tag L F hT.2.2.2 p0 2 z144289 m0 g0 (by decide)) m0 g0 rfl rfl qw_287 qw_288 qw_289 qw_28 qw_290 ⟨rfl, by decide +kernel, by decide +kernel, by decide +kernel⟩ ⟨Nat.le_of_ble_eq_true rfl, Nat.le_of_ble_eq_true rfl⟩ hl rfl rfl (Nat.le_of_ble_eq_true rfl) dX3_name_60 ⟨Nat.le_of_ble_eq_true rfl, Nat.le_of_ble_eq_true rfl⟩ (fun F H locs hT hz144290 => ?_)
          obtain ⟨yz144290, xz144290_0⟩ := hz144290
          have pf0 := (yz144290.1 _ 0 (Or.inr (by decide)) (Or.inr (by decide))).trans pf0
          have pf1 := (yz144290.1 _ 1 (Or.inr (by decide)) (Or.inr (by decide))).trans pf1
          have pf2 := (yz144290.1 _ 2 (Or.inr (by decide)) (Or.inr (by decide))).trans pf2
          have pf3 := (yz144290.1 _ 0 (Or.inr (by decide)) (Or.inr (by decide))).trans pf3
          have pf4 := (yz144290.1 _ 10 (Or.inr (by decide)) (Or.inr (by decide))).trans pf4
          have pf5 := (yz144290.1 _ 11 (Or.inr (by decide)) (Or.inr (by decide))).trans pf5
          have hv144215 := (yz144290.1 _ 3 (Or.inl (by rw [gx0]; decide)) (Or.inr (by decide))).trans hv144215
          have vz144271 := (yz144290.2 _ _ (Or.inl gx4)).trans vz144271
          have hv144288 := (yz144290.1 _ 4 (Or.inr (by decide)) (Or.inl (by rw [gx0]; decide))).trans hv144288
          have hfr : (∀ b j : Nat, (tag b ≠ 24 ∨ j ≠ 2) → (tag b ≠ 24 ∨ j ≠ 3) → (tag b ≠ 24 ∨ j ≠ 4) → (tag b ≠ 24 ∨ j ≠ 5) → (tag b ≠ 24 ∨ j ≠ 6) → (tag b ≠ 24 ∨ j ≠ 7) → (tag b ≠ 25 ∨ j ≠ 3) → (tag b ≠ 25 ∨ j ≠ 4) → fld F b j = fld Fo b j) ∧ EF tag F Fo := ⟨fun b j n24_2 n24_3 n24_4 n24_5 n24_6 n24_7 n25_3 n25_4 => (yz144290.1 b j n25_3 n25_4).trans (hfr.1 b j n24_2 n24_3 n24_4 n24_5 n24_6 n24_7 n25_3 n25_4), fun b j hb => (yz144290.2 b j hb).trans (hfr.2 b j hb)⟩
          have hrel := nsr_of (fun j => yz144290.2 _ j (Or.inl gx4)) (fun j => yz144290.2 _ j (Or.inr gx5)) hrel
          obtain ⟨z144291, qz144291, rz144291⟩ := xz144290_0
          refine lv_aload_n hx hb dX3_name_63 rfl (lv_at hl 1 rfl) ?_
          refine t_get (C := RX3) (T := TX3) (N := 13) X hT m0 g0 rfl rfl 3 (by decide) qw_163 inlX3 rfl dX3_name_64 (fun v144292 hv144292 ov144292 => ?_)
          obtain rfl : v144292 = .int z144291 := hv144292.symm.trans qz144291
          refine lv_if_ne (tgt := 75) hx hb dX3_name_67 (by decide) (fun c144293 => ?_) (fun c144293 => ?_)
          · have w144294 := cv_ne (rfl : z144291.toInt = z144291.toInt) (by decide : (0 : Int32).toInt = 0) c144293
            refine lv_iconst (v := 0) hx hb dX3_name_75 (by decide) ?_
            exact t_iret hQ X hT (⟨rg_all _, hfr, hrel⟩) (Nat.le_of_ble_eq_true rfl) (Nat.le_of_ble_eq_true rfl) dX3_name_76
          · have w144295 := cv_eq (rfl : z144291.toInt = z144291.toInt) (by decide : (0 : Int32).toInt = 0) c144293
            exfalso
            omega
    · have w144296 := cv_ne (rfl : z144254.toInt = z144254.toInt) (by decide : ((-1) : Int32).toInt = (-1)) c144255
      refine lv_aload_n hx hb dX3_name_19 rfl (lv_at hl 0 rfl) ?_
      refine lv_iconst (v := 1) hx hb dX3_name_20 (by decide) ?_
      refine lv_aload_n hx hb dX3_name_21 rfl (lv_at hl 0 rfl) ?_
      refine t_get (C := RX3) (T := TX3) (N := 13) X hT m0 g0 rfl rfl 0 (by decide) qw_73 inlX3 rfl dX3_name_22 (fun v144297 hv144297 ov144297 => ?_)
      obtain rfl : v144297 = .ref x0 := hv144297.symm.trans pf0
      refine t_get (C := RX8) (T := TX8) (N := 8) X hT mx0 gx0 rfl rfl 4 (by decide) qw_227 inlX8 rfl dX3_name_25 (fun v144298 hv144298 ov144298 => ?_)
      obtain ⟨z144299, rfl, rz144299⟩ := okV_i ov144298
      refine t_cVv (n := 2) (C := RX3) (T := TX3) (N := 13) (As := [.int 1, .int z144299]) (rest := []) X hT (kt432_X3_fail l G tag L F hT.2.2.2 p0 1 z144299 m0 g0 (by decide)) m0 g0 rfl rfl qw_287 qw_288 qw_289 qw_28 qw_290 ⟨rfl, by decide +kernel, by decide +kernel, by decide +kernel⟩ ⟨Nat.le_of_ble_eq_true rfl, Nat.le_of_ble_eq_true rfl⟩ hl rfl rfl (Nat.le_of_ble_eq_true rfl) dX3_name_28 ⟨Nat.le_of_ble_eq_true rfl, Nat.le_of_ble_eq_true rfl⟩ (fun F H locs hT hz144300 => ?_)
      obtain ⟨yz144300, xz144300_0⟩ := hz144300
      have pf0 := (yz144300.1 _ 0 (Or.inr (by decide)) (Or.inr (by decide))).trans pf0
      have pf1 := (yz144300.1 _ 1 (Or.inr (by decide)) (Or.inr (by decide))).trans pf1
      have pf2 := (yz144300.1 _ 2 (Or.inr (by decide)) (Or.inr (by decide))).trans pf2
      have pf3 := (yz144300.1 _ 0 (Or.inr (by decide)) (Or.inr (by decide))).trans pf3
      have pf4 := (yz144300.1 _ 10 (Or.inr (by decide)) (Or.inr (by decide))).trans pf4
      have pf5 := (yz144300.1 _ 11 (Or.inr (by decide)) (Or.inr (by decide))).trans pf5
      have hv144215 := (yz144300.1 _ 3 (Or.inl (by rw [gx0]; decide)) (Or.inr (by decide))).trans hv144215
      have hv144298 := (yz144300.1 _ 4 (Or.inr (by decide)) (Or.inl (by rw [gx0]; decide))).trans hv144298
      have hfr : (∀ b j : Nat, (tag b ≠ 24 ∨ j ≠ 2) → (tag b ≠ 24 ∨ j ≠ 3) → (tag b ≠ 24 ∨ j ≠ 4) → (tag b ≠ 24 ∨ j ≠ 5) → (tag b ≠ 24 ∨ j ≠ 6) → (tag b ≠ 24 ∨ j ≠ 7) → (tag b ≠ 25 ∨ j ≠ 3) → (tag b ≠ 25 ∨ j ≠ 4) → fld F b j = fld Fo b j) ∧ EF tag F Fo := ⟨fun b j n24_2 n24_3 n24_4 n24_5 n24_6 n24_7 n25_3 n25_4 => (yz144300.1 b j n25_3 n25_4).trans (hfr.1 b j n24_2 n24_3 n24_4 n24_5 n24_6 n24_7 n25_3 n25_4), fun b j hb => (yz144300.2 b j hb).trans (hfr.2 b j hb)⟩
      have hrel := nsr_of (fun j => yz144300.2 _ j (Or.inl gx4)) (fun j => yz144300.2 _ j (Or.inr gx5)) hrel
      obtain ⟨z144301, qz144301, rz144301⟩ := xz144300_0
      refine lv_aload_n hx hb dX3_name_31 rfl (lv_at hl 0 rfl) ?_
      refine t_cVi (n := 0) (C := RX3) (T := TX3) (N := 13) (As := []) (rest := []) X hT (kt442_X3_findName l G tag L F hT.2.2.2 p0 x0 x1 x2 x3 x4 x5 m0 g0 mx0 gx0 pf0 mx1 gx1 pf1 mx2 gx2 pf2 mx3 gx3 pf3 mx4 gx4 pf4 mx5 gx5 pf5) m0 g0 rfl rfl qw_361 qw_362 qw_363 qw_28 qw_364 ⟨rfl, by decide +kernel, by decide +kernel, by decide +kernel⟩ ⟨Nat.le_of_ble_eq_true rfl, Nat.le_of_ble_eq_true rfl⟩ hl rfl rfl (Nat.le_of_ble_eq_true rfl) dX3_name_32 ⟨Nat.le_of_ble_eq_true rfl, Nat.le_of_ble_eq_true rfl⟩ (fun z144302 F9 H locs hT hz144302 => ?_)
      obtain ⟨fz144302, hz144302⟩ := hz144302
      rw [fz144302] at hT
      refine lv_istore_n (lv' := [(2, .int z144302), (0, .ref p0), (1, .int p1)]) hx hb dX3_name_35 rfl hl (by decide) rfl (fun ls hl => ?_)
      refine lv_iload_n hx hb dX3_name_36 rfl (lv_at hl 0 rfl) ?_
      refine lv_iconst (v := (-1)) hx hb dX3_name_37 (by decide) ?_
      refine lv_icmp_eq (tgt := 51) hx hb dX3_name_38 (by decide) (fun c144303 => ?_) (fun c144303 => ?_)
      · have w144304 := cv_eq (rfl : z144302.toInt = z144302.toInt) (by decide : ((-1) : Int32).toInt = (-1)) c144303
        refine lv_aload_n hx hb dX3_name_51 rfl (lv_at hl 1 rfl) ?_
        refine lv_iconst (v := 2) hx hb dX3_name_52 (by decide) ?_
        refine lv_aload_n hx hb dX3_name_53 rfl (lv_at hl 1 rfl) ?_
        refine t_get (C := RX3) (T := TX3) (N := 13) X hT m0 g0 rfl rfl 0 (by decide) qw_73 inlX3 rfl dX3_name_54 (fun v144305 hv144305 ov144305 => ?_)
        obtain rfl : v144305 = .ref x0 := hv144305.symm.trans pf0
        refine t_get (C := RX8) (T := TX8) (N := 8) X hT mx0 gx0 rfl rfl 4 (by decide) qw_227 inlX8 rfl dX3_name_57 (fun v144306 hv144306 ov144306 => ?_)
        obtain rfl : v144306 = .int z144299 := hv144306.symm.trans hv144298
        refine t_cVv (n := 2) (C := RX3) (T := TX3) (N := 13) (As := [.int 2, .int z144299]) (rest := []) X hT (kt432_X3_fail l G tag L F hT.2.2.2 p0 2 z144299 m0 g0 (by decide)) m0 g0 rfl rfl qw_287 qw_288 qw_289 qw_28 qw_290 ⟨rfl, by decide +kernel, by decide +kernel, by decide +kernel⟩ ⟨Nat.le_of_ble_eq_true rfl, Nat.le_of_ble_eq_true rfl⟩ hl rfl rfl (Nat.le_of_ble_eq_true rfl) dX3_name_60 ⟨Nat.le_of_ble_eq_true rfl, Nat.le_of_ble_eq_true rfl⟩ (fun F H locs hT hz144307 => ?_)
        obtain ⟨yz144307, xz144307_0⟩ := hz144307
        have pf0 := (yz144307.1 _ 0 (Or.inr (by decide)) (Or.inr (by decide))).trans pf0
        have pf1 := (yz144307.1 _ 1 (Or.inr (by decide)) (Or.inr (by decide))).trans pf1
        have pf2 := (yz144307.1 _ 2 (Or.inr (by decide)) (Or.inr (by decide))).trans pf2
        have pf3 := (yz144307.1 _ 0 (Or.inr (by decide)) (Or.inr (by decide))).trans pf3
        have pf4 := (yz144307.1 _ 10 (Or.inr (by decide)) (Or.inr (by decide))).trans pf4
        have pf5 := (yz144307.1 _ 11 (Or.inr (by decide)) (Or.inr (by decide))).trans pf5
        have hv144215 := (yz144307.1 _ 3 (Or.inl (by rw [gx0]; decide)) (Or.inr (by decide))).trans hv144215
        have hv144298 := (yz144307.1 _ 4 (Or.inr (by decide)) (Or.inl (by rw [gx0]; decide))).trans hv144298
        have hfr : (∀ b j : Nat, (tag b ≠ 24 ∨ j ≠ 2) → (tag b ≠ 24 ∨ j ≠ 3) → (tag b ≠ 24 ∨ j ≠ 4) → (tag b ≠ 24 ∨ j ≠ 5) → (tag b ≠ 24 ∨ j ≠ 6) → (tag b ≠ 24 ∨ j ≠ 7) → (tag b ≠ 25 ∨ j ≠ 3) → (tag b ≠ 25 ∨ j ≠ 4) → fld F b j = fld Fo b j) ∧ EF tag F Fo := ⟨fun b j n24_2 n24_3 n24_4 n24_5 n24_6 n24_7 n25_3 n25_4 => (yz144307.1 b j n25_3 n25_4).trans (hfr.1 b j n24_2 n24_3 n24_4 n24_5 n24_6 n24_7 n25_3 n25_4), fun b j hb => (yz144307.2 b j hb).trans (hfr.2 b j hb)⟩
        have hrel := nsr_of (fun j => yz144307.2 _ j (Or.inl gx4)) (fun j => yz144307.2 _ j (Or.inr gx5)) hrel
        obtain ⟨z144308, qz144308, rz144308⟩ := xz144307_0
        refine lv_aload_n hx hb dX3_name_63 rfl (lv_at hl 1 rfl) ?_
        refine t_get (C := RX3) (T := TX3) (N := 13) X hT m0 g0 rfl rfl 3 (by decide) qw_163 inlX3 rfl dX3_name_64 (fun v144309 hv144309 ov144309 => ?_)
        obtain rfl : v144309 = .int z144308 := hv144309.symm.trans qz144308
        refine lv_if_ne (tgt := 75) hx hb dX3_name_67 (by decide) (fun c144310 => ?_) (fun c144310 => ?_)
        · have w144311 := cv_ne (rfl : z144308.toInt = z144308.toInt) (by decide : (0 : Int32).toInt = 0) c144310
          refine lv_iconst (v := 0) hx hb dX3_name_75 (by decide) ?_
          exact t_iret hQ X hT (⟨rg_all _, hfr, hrel⟩) (Nat.le_of_ble_eq_true rfl) (Nat.le_of_ble_eq_true rfl) dX3_name_76
        · have w144312 := cv_eq (rfl : z144308.toInt = z144308.toInt) (by decide : (0 : Int32).toInt = 0) c144310
          exfalso
          omega
      · have w144313 := cv_ne (rfl : z144302.toInt = z144302.toInt) (by decide : ((-1) : Int32).toInt = (-1)) c144303
        refine lv_aload_n hx hb dX3_name_41 rfl (lv_at hl 1 rfl) ?_
        refine t_get (C := RX3) (T := TX3) (N := 13) X hT m0 g0 rfl rfl 10 (by decide) qw_75 inlX3 rfl dX3_name_42 (fun v144314 hv144314 ov144314 => ?_)
        obtain rfl : v144314 = .ref x4 := hv144314.symm.trans pf4
        refine lv_iload_n hx hb dX3_name_45 rfl (lv_at hl 0 rfl) ?_
        refine t_ild X hT mx4 gx4 rfl (by omega) dX3_name_46 (fun z144315 vz144315 rz144315 => ?_)
        have rz144315 : (-2147483648) ≤ z144315.toInt ∧ z144315.toInt ≤ 2147483647 := rz144315
        refine lv_iload_n hx hb dX3_name_47 rfl (lv_at hl 2 rfl) ?_
        refine lv_icmp_eq (tgt := 63) hx hb dX3_name_48 (by decide) (fun c144316 => ?_) (fun c144316 => ?_)
        · have w144317 := cv_eq (rfl : z144315.toInt = z144315.toInt) (rfl : p1.toInt = p1.toInt) c144316
          refine lv_aload_n hx hb dX3_name_63 rfl (lv_at hl 1 rfl) ?_
          refine t_get (C := RX3) (T := TX3) (N := 13) X hT m0 g0 rfl rfl 3 (by decide) qw_163 inlX3 rfl dX3_name_64 (fun v144318 hv144318 ov144318 => ?_)
          obtain rfl : v144318 = .int z144301 := hv144318.symm.trans qz144301
          refine lv_if_ne (tgt := 75) hx hb dX3_name_67 (by decide) (fun c144319 => ?_) (fun c144319 => ?_)
          · have w144320 := cv_ne (rfl : z144301.toInt = z144301.toInt) (by decide : (0 : Int32).toInt = 0) c144319
            refine lv_iconst (v := 0) hx hb dX3_name_75 (by decide) ?_
            exact t_iret hQ X hT (⟨rg_all _, hfr, hrel⟩) (Nat.le_of_ble_eq_true rfl) (Nat.le_of_ble_eq_true rfl) dX3_name_76
          · have w144321 := cv_eq (rfl : z144301.toInt = z144301.toInt) (by decide : (0 : Int32).toInt = 0) c144319
            exfalso
            omega
        · have w144322 := cv_ne (rfl : z144315.toInt = z144315.toInt) (rfl : p1.toInt = p1.toInt) c144316
          refine lv_aload_n hx hb dX3_name_51 rfl (lv_at hl 1 rfl) ?_
          refine lv_iconst (v := 2) hx hb dX3_name_52 (by decide) ?_
          refine lv_aload_n hx hb dX3_name_53 rfl (lv_at hl 1 rfl) ?_
          refine t_get (C := RX3) (T := TX3) (N := 13) X hT m0 g0 rfl rfl 0 (by decide) qw_73 inlX3 rfl dX3_name_54 (fun v144323 hv144323 ov144323 => ?_)
          obtain rfl : v144323 = .ref x0 := hv144323.symm.trans pf0
          refine t_get (C := RX8) (T := TX8) (N := 8) X hT mx0 gx0 rfl rfl 4 (by decide) qw_227 inlX8 rfl dX3_name_57 (fun v144324 hv144324 ov144324 => ?_)
          obtain rfl : v144324 = .int z144299 := hv144324.symm.trans hv144298
          refine t_cVv (n := 2) (C := RX3) (T := TX3) (N := 13) (As := [.int 2, .int z144299]) (rest := []) X hT (kt432_X3_fail l G tag L F hT.2.2.2 p0 2 z144299 m0 g0 (by decide)) m0 g0 rfl rfl qw_287 qw_288 qw_289 qw_28 qw_290 ⟨rfl, by decide +kernel, by decide +kernel, by decide +kernel⟩ ⟨Nat.le_of_ble_eq_true rfl, Nat.le_of_ble_eq_true rfl⟩ hl rfl rfl (Nat.le_of_ble_eq_true rfl) dX3_name_60 ⟨Nat.le_of_ble_eq_true rfl, Nat.le_of_ble_eq_true rfl⟩ (fun F H locs hT hz144325 => ?_)
          obtain ⟨yz144325, xz144325_0⟩ := hz144325
          have pf0 := (yz144325.1 _ 0 (Or.inr (by decide)) (Or.inr (by decide))).trans pf0
          have pf1 := (yz144325.1 _ 1 (Or.inr (by decide)) (Or.inr (by decide))).trans pf1
          have pf2 := (yz144325.1 _ 2 (Or.inr (by decide)) (Or.inr (by decide))).trans pf2
          have pf3 := (yz144325.1 _ 0 (Or.inr (by decide)) (Or.inr (by decide))).trans pf3
          have pf4 := (yz144325.1 _ 10 (Or.inr (by decide)) (Or.inr (by decide))).trans pf4
          have pf5 := (yz144325.1 _ 11 (Or.inr (by decide)) (Or.inr (by decide))).trans pf5
          have hv144215 := (yz144325.1 _ 3 (Or.inl (by rw [gx0]; decide)) (Or.inr (by decide))).trans hv144215
          have hv144298 := (yz144325.1 _ 4 (Or.inr (by decide)) (Or.inl (by rw [gx0]; decide))).trans hv144298
          have vz144315 := (yz144325.2 _ _ (Or.inl gx4)).trans vz144315
          have hfr : (∀ b j : Nat, (tag b ≠ 24 ∨ j ≠ 2) → (tag b ≠ 24 ∨ j ≠ 3) → (tag b ≠ 24 ∨ j ≠ 4) → (tag b ≠ 24 ∨ j ≠ 5) → (tag b ≠ 24 ∨ j ≠ 6) → (tag b ≠ 24 ∨ j ≠ 7) → (tag b ≠ 25 ∨ j ≠ 3) → (tag b ≠ 25 ∨ j ≠ 4) → fld F b j = fld Fo b j) ∧ EF tag F Fo := ⟨fun b j n24_2 n24_3 n24_4 n24_5 n24_6 n24_7 n25_3 n25_4 => (yz144325.1 b j n25_3 n25_4).trans (hfr.1 b j n24_2 n24_3 n24_4 n24_5 n24_6 n24_7 n25_3 n25_4), fun b j hb => (yz144325.2 b j hb).trans (hfr.2 b j hb)⟩
          have hrel := nsr_of (fun j => yz144325.2 _ j (Or.inl gx4)) (fun j => yz144325.2 _ j (Or.inr gx5)) hrel
          obtain ⟨z144326, qz144326, rz144326⟩ := xz144325_0
          refine lv_aload_n hx hb dX3_name_63 rfl (lv_at hl 1 rfl) ?_
          refine t_get (C := RX3) (T := TX3) (N := 13) X hT m0 g0 rfl rfl 3 (by decide) qw_163 inlX3 rfl dX3_name_64 (fun v144327 hv144327 ov144327 => ?_)
          obtain rfl : v144327 = .int z144326 := hv144327.symm.trans qz144326
          refine lv_if_ne (tgt := 75) hx hb dX3_name_67 (by decide) (fun c144328 => ?_) (fun c144328 => ?_)
          · have w144329 := cv_ne (rfl : z144326.toInt = z144326.toInt) (by decide : (0 : Int32).toInt = 0) c144328
            refine lv_iconst (v := 0) hx hb dX3_name_75 (by decide) ?_
            exact t_iret hQ X hT (⟨rg_all _, hfr, hrel⟩) (Nat.le_of_ble_eq_true rfl) (Nat.le_of_ble_eq_true rfl) dX3_name_76
          · have w144330 := cv_eq (rfl : z144326.toInt = z144326.toInt) (by decide : (0 : Int32).toInt = 0) c144328
            exfalso
            omega
