set_option maxHeartbeats 4000000 in
set_option maxRecDepth 100000 in
theorem kt214_X3_sign (l : Launch) (G : KG) (tag : Nat → Nat) (L : List Nat) (Fo : Nat → va_E) (ho : okT G ttC tag L Fo) (p0 : Nat) (p1 : Int32) (x0 : Nat) (x1 : Nat) (x2 : Nat) (x3 : Nat) (m0 : p0 ∈ L) (g0 : tag p0 = 25) (mx0 : x0 ∈ L) (gx0 : tag x0 = 24) (pf0 : fld Fo p0 0 = .ref x0) (mx1 : x1 ∈ L) (gx1 : tag x1 = 18) (pf1 : fld Fo p0 1 = .ref x1) (mx2 : x2 ∈ L) (gx2 : tag x2 = 19) (pf2 : fld Fo p0 2 = .ref x2) (mx3 : x3 ∈ L) (gx3 : tag x3 = 1) (pf3 : fld Fo x0 0 = .ref x3) : TMv l yX3_sign cX3_sign 2 { frames := 3, cells := 0, slots := 0, locals := 62 } G ttC tag L Fo [.ref p0, .int p1] (fun F1 => ∀ b j : Nat, (tag b ≠ 24 ∨ j ≠ 2) → (tag b ≠ 24 ∨ j ≠ 3) → (tag b ≠ 24 ∨ j ≠ 4) → (tag b ≠ 24 ∨ j ≠ 5) → (tag b ≠ 24 ∨ j ≠ 6) → (tag b ≠ 24 ∨ j ≠ 7) → (tag b ≠ 25 ∨ j ≠ 3) → (tag b ≠ 25 ∨ j ≠ 4) → fld F1 b j = fld Fo b j) := by
  refine t_bodyv (y := yX3_sign) (cd := cX3_sign) (mL := 2) (rm := { frames := 3, cells := 0, slots := 0, locals := 62 }) (av := [.ref p0, .int p1]) (by decide) (Nat.le_of_ble_eq_true rfl) ho ?_
  intro p e s m args below meth c ls A Q hQ X hT hl
  have hx := X.1.1
  have hb := X.1.2.1
  have hl : lv_has ls 2 [(0, .ref p0), (1, .int p1)] := hl
  have rp1 := rg_all p1
  obtain ⟨F, hFo⟩ : ∃ F : Nat → va_E, F = Fo := ⟨_, rfl⟩
  rw [← hFo] at hT
  have hfr : ∀ b j : Nat, (tag b ≠ 24 ∨ j ≠ 2) → (tag b ≠ 24 ∨ j ≠ 3) → (tag b ≠ 24 ∨ j ≠ 4) → (tag b ≠ 24 ∨ j ≠ 5) → (tag b ≠ 24 ∨ j ≠ 6) → (tag b ≠ 24 ∨ j ≠ 7) → (tag b ≠ 25 ∨ j ≠ 3) → (tag b ≠ 25 ∨ j ≠ 4) → fld F b j = fld Fo b j := by
    rw [hFo]
    intros
    rfl
  have K40 : ∀ (z75901 : Int32) (F : Nat → va_E) (H : Heap) (locs : List Loc) (ls : Array Slot), (0 ≤ z75901.toInt ∧ z75901.toInt ≤ 0) → TH G ttC A s tag L F H locs → (∀ b j : Nat, (tag b ≠ 24 ∨ j ≠ 2) → (tag b ≠ 24 ∨ j ≠ 3) → (tag b ≠ 24 ∨ j ≠ 4) → (tag b ≠ 24 ∨ j ≠ 5) → (tag b ≠ 24 ∨ j ≠ 6) → (tag b ≠ 24 ∨ j ≠ 7) → (tag b ≠ 25 ∨ j ≠ 3) → (tag b ≠ 25 ∨ j ≠ 4) → fld F b j = fld Fo b j) → fld F p0 0 = .ref x0 → fld F p0 1 = .ref x1 → fld F p0 2 = .ref x2 → fld F x0 0 = .ref x3 → fld F p0 3 = .int z75901 → lv_has ls 2 [(0, .ref p0), (1, .int p1)] → W p l e { frames := 3, cells := 0, slots := 0, locals := 62 } s m args below meth c H locs 0 0 Q (F0 m 40 ls []) := by
    intro z75901 F H locs ls rz75901 hT hfr pf0 pf1 pf2 pf3 qz75901 hl
    refine lv_aload_n hx hb dX3_sign_40 rfl (lv_at hl 0 rfl) ?_
    refine lv_iconst (v := 1) hx hb dX3_sign_41 (by decide) ?_
    refine lv_aload_n hx hb dX3_sign_42 rfl (lv_at hl 0 rfl) ?_
    refine t_get (C := RX3) (T := TX3) (N := 13) X hT m0 g0 rfl rfl 0 (by decide) qw_73 inlX3 rfl dX3_sign_43 (fun v75902 hv75902 ov75902 => ?_)
    obtain rfl : v75902 = .ref x0 := hv75902.symm.trans pf0
    refine t_get (C := RX8) (T := TX8) (N := 8) X hT mx0 gx0 rfl rfl 4 (by decide) qw_227 inlX8 rfl dX3_sign_46 (fun v75903 hv75903 ov75903 => ?_)
    obtain ⟨z75904, rfl, rz75904⟩ := okV_i ov75903
    refine t_cVv (n := 2) (C := RX3) (T := TX3) (N := 13) (As := [.int 1, .int z75904]) (rest := []) X hT (kt207_X3_fail l G tag L F hT.2.2.2 p0 1 z75904 m0 g0) m0 g0 rfl rfl qw_287 qw_288 qw_289 qw_28 qw_290 ⟨rfl, by decide +kernel, by decide +kernel, by decide +kernel⟩ ⟨Nat.le_of_ble_eq_true rfl, Nat.le_of_ble_eq_true rfl⟩ hl rfl rfl (Nat.le_of_ble_eq_true rfl) dX3_sign_49 ⟨Nat.le_of_ble_eq_true rfl, Nat.le_of_ble_eq_true rfl⟩ (fun F H locs hT hz75905 => ?_)
    have yz75905 := hz75905
    have pf0 := (yz75905 _ 0 (Or.inr (by decide)) (Or.inr (by decide))).trans pf0
    have pf1 := (yz75905 _ 1 (Or.inr (by decide)) (Or.inr (by decide))).trans pf1
    have pf2 := (yz75905 _ 2 (Or.inr (by decide)) (Or.inr (by decide))).trans pf2
    have pf3 := (yz75905 _ 0 (Or.inr (by decide)) (Or.inr (by decide))).trans pf3
    have hv75903 := (yz75905 _ 4 (Or.inr (by decide)) (Or.inl (by rw [gx0]; decide))).trans hv75903
    have hfr : ∀ b j : Nat, (tag b ≠ 24 ∨ j ≠ 2) → (tag b ≠ 24 ∨ j ≠ 3) → (tag b ≠ 24 ∨ j ≠ 4) → (tag b ≠ 24 ∨ j ≠ 5) → (tag b ≠ 24 ∨ j ≠ 6) → (tag b ≠ 24 ∨ j ≠ 7) → (tag b ≠ 25 ∨ j ≠ 3) → (tag b ≠ 25 ∨ j ≠ 4) → fld F b j = fld Fo b j := fun b j n24_2 n24_3 n24_4 n24_5 n24_6 n24_7 n25_3 n25_4 => (yz75905 b j n25_3 n25_4).trans (hfr b j n24_2 n24_3 n24_4 n24_5 n24_6 n24_7 n25_3 n25_4)
    exact t_vret hQ X hT hfr (Nat.le_of_ble_eq_true rfl) (Nat.le_of_ble_eq_true rfl) dX3_sign_52
  refine lv_aload_n hx hb dX3_sign_0 rfl (lv_at hl 0 rfl) ?_
  refine t_get (C := RX3) (T := TX3) (N := 13) X hT m0 g0 rfl rfl 3 (by decide) qw_163 inlX3 rfl dX3_sign_1 (fun v75906 hv75906 ov75906 => ?_)
  obtain ⟨z75907, rfl, rz75907⟩ := okV_i ov75906
  refine lv_if_eq (tgt := 8) hx hb dX3_sign_4 (by decide) (fun c75908 => ?_) (fun c75908 => ?_)
  · have w75909 := cv_eq (rfl : z75907.toInt = z75907.toInt) (by decide : (0 : Int32).toInt = 0) c75908
    refine lv_aload_n hx hb dX3_sign_8 rfl (lv_at hl 0 rfl) ?_
    refine t_get (C := RX3) (T := TX3) (N := 13) X hT m0 g0 rfl rfl 0 (by decide) qw_73 inlX3 rfl dX3_sign_9 (fun v75910 hv75910 ov75910 => ?_)
    obtain rfl : v75910 = .ref x0 := hv75910.symm.trans pf0
    refine t_get (C := RX8) (T := TX8) (N := 8) X hT mx0 gx0 rfl rfl 3 (by decide) qw_170 inlX8 rfl dX3_sign_12 (fun v75911 hv75911 ov75911 => ?_)
    obtain ⟨z75912, rfl, rz75912⟩ := okV_i ov75911
    refine lv_iconst (v := 3) hx hb dX3_sign_15 (by decide) ?_
    refine lv_icmp_ne (tgt := 40) hx hb dX3_sign_16 (by decide) (fun c75913 => ?_) (fun c75913 => ?_)
    · have w75914 := cv_ne (rfl : z75912.toInt = z75912.toInt) (by decide : (3 : Int32).toInt = 3) c75913
      exact K40 z75907 _ _ _ _ (by omega) hT hfr pf0 pf1 pf2 pf3 hv75906 (lv_sub hl [0, 1] rfl)
    · have w75915 := cv_eq (rfl : z75912.toInt = z75912.toInt) (by decide : (3 : Int32).toInt = 3) c75913
      refine lv_aload_n hx hb dX3_sign_19 rfl (lv_at hl 0 rfl) ?_
      refine t_get (C := RX3) (T := TX3) (N := 13) X hT m0 g0 rfl rfl 0 (by decide) qw_73 inlX3 rfl dX3_sign_20 (fun v75916 hv75916 ov75916 => ?_)
      obtain rfl : v75916 = .ref x0 := hv75916.symm.trans pf0
      refine t_get (C := RX8) (T := TX8) (N := 8) X hT mx0 gx0 rfl rfl 6 (by decide) qw_322 inlX8 rfl dX3_sign_23 (fun v75917 hv75917 ov75917 => ?_)
      obtain ⟨z75918, rfl, rz75918⟩ := okV_i ov75917
      refine lv_iload_n hx hb dX3_sign_26 rfl (lv_at hl 1 rfl) ?_
      refine lv_icmp_ne (tgt := 40) hx hb dX3_sign_27 (by decide) (fun c75919 => ?_) (fun c75919 => ?_)
      · have w75920 := cv_ne (rfl : z75918.toInt = z75918.toInt) (rfl : p1.toInt = p1.toInt) c75919
        exact K40 z75907 _ _ _ _ (by omega) hT hfr pf0 pf1 pf2 pf3 hv75906 (lv_sub hl [0, 1] rfl)
      · have w75921 := cv_eq (rfl : z75918.toInt = z75918.toInt) (rfl : p1.toInt = p1.toInt) c75919
        refine lv_aload_n hx hb dX3_sign_30 rfl (lv_at hl 0 rfl) ?_
        refine t_get (C := RX3) (T := TX3) (N := 13) X hT m0 g0 rfl rfl 0 (by decide) qw_73 inlX3 rfl dX3_sign_31 (fun v75922 hv75922 ov75922 => ?_)
        obtain rfl : v75922 = .ref x0 := hv75922.symm.trans pf0
        refine t_cVv (n := 0) (C := RX8) (T := TX8) (N := 8) (As := []) (rest := []) X hT (kt144_X8_advance l G tag L F hT.2.2.2 x0 x3 mx0 gx0 mx3 gx3 pf3) mx0 gx0 rfl rfl qw_305 qw_197 qw_198 qw_72 qw_199 ⟨rfl, by decide +kernel, by decide +kernel, by decide +kernel⟩ ⟨Nat.le_of_ble_eq_true rfl, Nat.le_of_ble_eq_true rfl⟩ hl rfl rfl (Nat.le_of_ble_eq_true rfl) dX3_sign_34 ⟨Nat.le_of_ble_eq_true rfl, Nat.le_of_ble_eq_true rfl⟩ (fun F H locs hT hz75923 => ?_)
        have yz75923 := hz75923
        have pf0 := (yz75923 _ 0 (Or.inr (by decide)) (Or.inr (by decide)) (Or.inr (by decide)) (Or.inr (by decide)) (Or.inr (by decide)) (Or.inr (by decide))).trans pf0
        have pf1 := (yz75923 _ 1 (Or.inr (by decide)) (Or.inr (by decide)) (Or.inr (by decide)) (Or.inr (by decide)) (Or.inr (by decide)) (Or.inr (by decide))).trans pf1
        have pf2 := (yz75923 _ 2 (Or.inl (by rw [g0]; decide)) (Or.inr (by decide)) (Or.inr (by decide)) (Or.inr (by decide)) (Or.inr (by decide)) (Or.inr (by decide))).trans pf2
        have pf3 := (yz75923 _ 0 (Or.inr (by decide)) (Or.inr (by decide)) (Or.inr (by decide)) (Or.inr (by decide)) (Or.inr (by decide)) (Or.inr (by decide))).trans pf3
        have hv75906 := (yz75923 _ 3 (Or.inr (by decide)) (Or.inl (by rw [g0]; decide)) (Or.inr (by decide)) (Or.inr (by decide)) (Or.inr (by decide)) (Or.inr (by decide))).trans hv75906
        have hfr : ∀ b j : Nat, (tag b ≠ 24 ∨ j ≠ 2) → (tag b ≠ 24 ∨ j ≠ 3) → (tag b ≠ 24 ∨ j ≠ 4) → (tag b ≠ 24 ∨ j ≠ 5) → (tag b ≠ 24 ∨ j ≠ 6) → (tag b ≠ 24 ∨ j ≠ 7) → (tag b ≠ 25 ∨ j ≠ 3) → (tag b ≠ 25 ∨ j ≠ 4) → fld F b j = fld Fo b j := fun b j n24_2 n24_3 n24_4 n24_5 n24_6 n24_7 n25_3 n25_4 => (yz75923 b j n24_2 n24_3 n24_4 n24_5 n24_6 n24_7).trans (hfr b j n24_2 n24_3 n24_4 n24_5 n24_6 n24_7 n25_3 n25_4)
        refine lv_goto (tgt := 52) hx hb dX3_sign_37 (by decide) ?_
        exact t_vret hQ X hT hfr (Nat.le_of_ble_eq_true rfl) (Nat.le_of_ble_eq_true rfl) dX3_sign_52
  · have w75924 := cv_ne (rfl : z75907.toInt = z75907.toInt) (by decide : (0 : Int32).toInt = 0) c75908
    exact t_vret hQ X hT hfr (Nat.le_of_ble_eq_true rfl) (Nat.le_of_ble_eq_true rfl) dX3_sign_7
set_option maxHeartbeats 4000000 in
set_option maxRecDepth 100000 in
theorem kt215_X1_addWater (l : Launch) (G : KG) (tag : Nat → Nat) (L : List Nat) (Fo : Nat → va_E) (ho : okT G ttC tag L Fo) (p0 : Nat) (p1 : Int32) (p2 : Int32) (m0 : p0 ∈ L) (g0 : tag p0 = 18) : TMv l yX1_addWater cX1_addWater 4 { frames := 0, cells := 0, slots := 0, locals := 0 } G ttC tag L Fo [.ref p0, .int p1, .int p2] (fun F1 => ∀ b j : Nat, fld F1 b j = fld Fo b j) := by
  refine t_bodyv (y := yX1_addWater) (cd := cX1_addWater) (mL := 4) (rm := { frames := 0, cells := 0, slots := 0, locals := 0 }) (av := [.ref p0, .int p1, .int p2]) (by decide) (Nat.le_of_ble_eq_true rfl) ho ?_
  intro p e s m args below meth c ls A Q hQ X hT hl
  have hx := X.1.1
  have hb := X.1.2.1
  have hl : lv_has ls 4 [(0, .ref p0), (1, .int p1), (2, .int p2)] := hl
  have rp1 := rg_all p1
  have rp2 := rg_all p2
  obtain ⟨F, hFo⟩ : ∃ F : Nat → va_E, F = Fo := ⟨_, rfl⟩
  rw [← hFo] at hT
  have hfr : ∀ b j : Nat, fld F b j = fld Fo b j := by
    rw [hFo]
    intros
    rfl
  refine lv_iload_n hx hb dX1_addWater_0 rfl (lv_at hl 2 rfl) ?_
  refine lv_aload_n hx hb dX1_addWater_1 rfl (lv_at hl 0 rfl) ?_
  refine t_get (C := RX1) (T := TX1) (N := 20) X hT m0 g0 rfl rfl 0 (by decide) qw_177 inlX1 rfl dX1_addWater_2 (fun v76111 hv76111 ov76111 => ?_)
  obtain ⟨z76112, rfl, rz76112⟩ := okV_i ov76111
  refine lv_imul hx hb dX1_addWater_5 ?_
  refine lv_topi (fun z76113 ez76113 => ?_)
  have rz76113 := rg_all z76113
  refine lv_iload_n hx hb dX1_addWater_6 rfl (lv_at hl 1 rfl) ?_
  refine lv_iadd hx hb dX1_addWater_7 ?_
  refine lv_topi (fun z76114 ez76114 => ?_)
  have rz76114 := rg_all z76114
  refine lv_istore_n (lv' := [(3, .int z76114), (0, .ref p0), (1, .int p1), (2, .int p2)]) hx hb dX1_addWater_8 rfl hl (by decide) rfl (fun ls hl => ?_)
  refine lv_iload_n hx hb dX1_addWater_9 rfl (lv_at hl 0 rfl) ?_
  refine lv_if_lt (tgt := 29) hx hb dX1_addWater_10 (by decide) (fun c76115 => ?_) (fun c76115 => ?_)
  · have w76116 := cv_lt (rfl : z76114.toInt = z76114.toInt) (by decide : (0 : Int32).toInt = 0) c76115
    exact t_vret hQ X hT hfr (Nat.le_of_ble_eq_true rfl) (Nat.le_of_ble_eq_true rfl) dX1_addWater_29
  · have w76117 := cv_nlt (rfl : z76114.toInt = z76114.toInt) (by decide : (0 : Int32).toInt = 0) c76115
    refine lv_iload_n hx hb dX1_addWater_13 rfl (lv_at hl 0 rfl) ?_
    refine lv_aload_n hx hb dX1_addWater_14 rfl (lv_at hl 1 rfl) ?_
    refine t_get (C := RX1) (T := TX1) (N := 20) X hT m0 g0 rfl rfl 7 (by decide) qw_50 inlX1 rfl dX1_addWater_15 (fun v76118 hv76118 ov76118 => ?_)
    obtain ⟨b76119, rfl, mb76119, gb76119⟩ := okV_r ov76118
    have gb76119 : tag b76119 = 2 := tg_of gb76119
    refine t_alen X hT mb76119 gb76119 rfl (by decide) dX1_addWater_18 ?_
    refine lv_topi (fun z76120 ez76120 => ?_)
    obtain rfl : z76120 = 144 := ez76120.trans (by rfl)
    refine lv_icmp_ge (tgt := 29) hx hb dX1_addWater_19 (by decide) (fun c76121 => ?_) (fun c76121 => ?_)
    · have w76122 := cv_le (by decide : (144 : Int32).toInt = 144) (rfl : z76114.toInt = z76114.toInt) c76121
      exact t_vret hQ X hT hfr (Nat.le_of_ble_eq_true rfl) (Nat.le_of_ble_eq_true rfl) dX1_addWater_29
    · have w76123 := cv_nle (by decide : (144 : Int32).toInt = 144) (rfl : z76114.toInt = z76114.toInt) c76121
      refine lv_aload_n hx hb dX1_addWater_22 rfl (lv_at hl 1 rfl) ?_
      refine t_get (C := RX1) (T := TX1) (N := 20) X hT m0 g0 rfl rfl 7 (by decide) qw_50 inlX1 rfl dX1_addWater_23 (fun v76124 hv76124 ov76124 => ?_)
      obtain rfl : v76124 = .ref b76119 := hv76124.symm.trans hv76118
      refine lv_iload_n hx hb dX1_addWater_26 rfl (lv_at hl 0 rfl) ?_
      refine lv_iconst (v := 1) hx hb dX1_addWater_27 (by decide) ?_
      refine t_zst X hT mb76119 gb76119 rfl (by omega) (show 0 ≤ (vp_nar .boolean 1).toInt ∧ (vp_nar .boolean 1).toInt ≤ 1 from (by decide)) dX1_addWater_28 (fun F H locs hT v76125 h1v76125 h2v76125 => ?_)
      have hv76111 := (h2v76125 _ _).trans hv76111
      have hv76118 := (h2v76125 _ _).trans hv76118
      have hfr : ∀ b j : Nat, fld F b j = fld Fo b j := fun b j  => (h2v76125 b j).trans (hfr b j )
      exact t_vret hQ X hT hfr (Nat.le_of_ble_eq_true rfl) (Nat.le_of_ble_eq_true rfl) dX1_addWater_29
set_option maxHeartbeats 4000000 in
set_option maxRecDepth 100000 in
theorem kt216_X3_readWater (l : Launch) (G : KG) (tag : Nat → Nat) (L : List Nat) (Fo : Nat → va_E) (ho : okT G ttC tag L Fo) (p0 : Nat) (x0 : Nat) (x1 : Nat) (x2 : Nat) (x3 : Nat) (m0 : p0 ∈ L) (g0 : tag p0 = 25) (mx0 : x0 ∈ L) (gx0 : tag x0 = 24) (pf0 : fld Fo p0 0 = .ref x0) (mx1 : x1 ∈ L) (gx1 : tag x1 = 18) (pf1 : fld Fo p0 1 = .ref x1) (mx2 : x2 ∈ L) (gx2 : tag x2 = 19) (pf2 : fld Fo p0 2 = .ref x2) (mx3 : x3 ∈ L) (gx3 : tag x3 = 1) (pf3 : fld Fo x0 0 = .ref x3) : TMv l yX3_readWater cX3_readWater 3 { frames := 4, cells := 0, slots := 0, locals := 85 } G ttC tag L Fo [.ref p0] (fun F1 => ∀ b j : Nat, (tag b ≠ 24 ∨ j ≠ 2) → (tag b ≠ 24 ∨ j ≠ 3) → (tag b ≠ 24 ∨ j ≠ 4) → (tag b ≠ 24 ∨ j ≠ 5) → (tag b ≠ 24 ∨ j ≠ 6) → (tag b ≠ 24 ∨ j ≠ 7) → (tag b ≠ 25 ∨ j ≠ 3) → (tag b ≠ 25 ∨ j ≠ 4) → (tag b ≠ 25 ∨ j ≠ 7) → fld F1 b j = fld Fo b j) := by
  refine t_bodyv (y := yX3_readWater) (cd := cX3_readWater) (mL := 3) (rm := { frames := 4, cells := 0, slots := 0, locals := 85 }) (av := [.ref p0]) (by decide) (Nat.le_of_ble_eq_true rfl) ho ?_
  intro p e s m args below meth c ls A Q hQ X hT hl
  have hx := X.1.1
  have hb := X.1.2.1
  have hl : lv_has ls 3 [(0, .ref p0)] := hl
  obtain ⟨F, hFo⟩ : ∃ F : Nat → va_E, F = Fo := ⟨_, rfl⟩
  rw [← hFo] at hT
  have hfr : ∀ b j : Nat, (tag b ≠ 24 ∨ j ≠ 2) → (tag b ≠ 24 ∨ j ≠ 3) → (tag b ≠ 24 ∨ j ≠ 4) → (tag b ≠ 24 ∨ j ≠ 5) → (tag b ≠ 24 ∨ j ≠ 6) → (tag b ≠ 24 ∨ j ≠ 7) → (tag b ≠ 25 ∨ j ≠ 3) → (tag b ≠ 25 ∨ j ≠ 4) → (tag b ≠ 25 ∨ j ≠ 7) → fld F b j = fld Fo b j := by
    rw [hFo]
    intros
    rfl
  have K60 : ∀ (z76441 : Int32) (z76442 : Int32) (F : Nat → va_E) (H : Heap) (locs : List Loc) (ls : Array Slot), TH G ttC A s tag L F H locs → (∀ b j : Nat, (tag b ≠ 24 ∨ j ≠ 2) → (tag b ≠ 24 ∨ j ≠ 3) → (tag b ≠ 24 ∨ j ≠ 4) → (tag b ≠ 24 ∨ j ≠ 5) → (tag b ≠ 24 ∨ j ≠ 6) → (tag b ≠ 24 ∨ j ≠ 7) → (tag b ≠ 25 ∨ j ≠ 3) → (tag b ≠ 25 ∨ j ≠ 4) → (tag b ≠ 25 ∨ j ≠ 7) → fld F b j = fld Fo b j) → fld F p0 0 = .ref x0 → fld F p0 1 = .ref x1 → fld F p0 2 = .ref x2 → fld F x0 0 = .ref x3 → lv_has ls 3 [(0, .ref p0), (1, .int z76441), (2, .int z76442)] → W p l e { frames := 4, cells := 0, slots := 0, locals := 85 } s m args below meth c H locs 0 0 Q (F0 m 60 ls []) := by
    intro z76441 z76442 F H locs ls hT hfr pf0 pf1 pf2 pf3 hl
    have rz76441 := rg_all z76441
    have rz76442 := rg_all z76442
    refine lv_aload_n hx hb dX3_readWater_60 rfl (lv_at hl 0 rfl) ?_
    refine t_get (C := RX3) (T := TX3) (N := 13) X hT m0 g0 rfl rfl 1 (by decide) qw_161 inlX3 rfl dX3_readWater_61 (fun v76443 hv76443 ov76443 => ?_)
    obtain rfl : v76443 = .ref x1 := hv76443.symm.trans pf1
    refine lv_iload_n hx hb dX3_readWater_64 rfl (lv_at hl 1 rfl) ?_
    refine lv_iload_n hx hb dX3_readWater_65 rfl (lv_at hl 2 rfl) ?_
    refine t_cVv (n := 2) (C := RX1) (T := TX1) (N := 20) (As := [.int z76441, .int z76442]) (rest := []) X hT (kt215_X1_addWater l G tag L F hT.2.2.2 x1 z76441 z76442 mx1 gx1) mx1 gx1 rfl rfl qw_348 qw_349 qw_350 qw_17 qw_351 ⟨rfl, by decide +kernel, by decide +kernel, by decide +kernel⟩ ⟨Nat.le_of_ble_eq_true rfl, Nat.le_of_ble_eq_true rfl⟩ hl rfl rfl (Nat.le_of_ble_eq_true rfl) dX3_readWater_66 ⟨Nat.le_of_ble_eq_true rfl, Nat.le_of_ble_eq_true rfl⟩ (fun F H locs hT hz76444 => ?_)
    have yz76444 := hz76444
    have pf0 := (yz76444 _ 0 ).trans pf0
    have pf1 := (yz76444 _ 1 ).trans pf1
    have pf2 := (yz76444 _ 2 ).trans pf2
    have pf3 := (yz76444 _ 0 ).trans pf3
    have hfr : ∀ b j : Nat, (tag b ≠ 24 ∨ j ≠ 2) → (tag b ≠ 24 ∨ j ≠ 3) → (tag b ≠ 24 ∨ j ≠ 4) → (tag b ≠ 24 ∨ j ≠ 5) → (tag b ≠ 24 ∨ j ≠ 6) → (tag b ≠ 24 ∨ j ≠ 7) → (tag b ≠ 25 ∨ j ≠ 3) → (tag b ≠ 25 ∨ j ≠ 4) → (tag b ≠ 25 ∨ j ≠ 7) → fld F b j = fld Fo b j := fun b j n24_2 n24_3 n24_4 n24_5 n24_6 n24_7 n25_3 n25_4 n25_7 => (yz76444 b j ).trans (hfr b j n24_2 n24_3 n24_4 n24_5 n24_6 n24_7 n25_3 n25_4 n25_7)
    refine lv_aload_n hx hb dX3_readWater_69 rfl (lv_at hl 0 rfl) ?_
    refine lv_dup hx hb dX3_readWater_70 rfl ?_
    refine t_get (C := RX3) (T := TX3) (N := 13) X hT m0 g0 rfl rfl 7 (by decide) qw_167 inlX3 rfl dX3_readWater_71 (fun v76445 hv76445 ov76445 => ?_)
    obtain ⟨z76446, rfl, rz76446⟩ := okV_i ov76445
    refine lv_iconst (v := 1) hx hb dX3_readWater_74 (by decide) ?_
    refine lv_iadd hx hb dX3_readWater_75 ?_
    refine lv_topi (fun z76447 ez76447 => ?_)
    have rz76447 := rg_all z76447
    refine t_put (C := RX3) (T := TX3) (N := 13) (v := .int z76447) X hT m0 g0 rfl tyX3 tyX3_ok nmX3 rfl 7 (by decide) qw_167 inlX3 rfl (by first | rfl | decide) (by first | rfl | decide) rfl (⟨_, rfl, (by omega), (by omega)⟩) dX3_readWater_76 (fun F H locs hT v76448 h1v76448 h2v76448 => ?_)
    have pf0 := (h1v76448 _ _ (Or.inr (by decide))).trans pf0
    have pf1 := (h1v76448 _ _ (Or.inr (by decide))).trans pf1
    have pf2 := (h1v76448 _ _ (Or.inr (by decide))).trans pf2
    have pf3 := (h1v76448 _ _ (Or.inr (by decide))).trans pf3
    have hfr : ∀ b j : Nat, (tag b ≠ 24 ∨ j ≠ 2) → (tag b ≠ 24 ∨ j ≠ 3) → (tag b ≠ 24 ∨ j ≠ 4) → (tag b ≠ 24 ∨ j ≠ 5) → (tag b ≠ 24 ∨ j ≠ 6) → (tag b ≠ 24 ∨ j ≠ 7) → (tag b ≠ 25 ∨ j ≠ 3) → (tag b ≠ 25 ∨ j ≠ 4) → (tag b ≠ 25 ∨ j ≠ 7) → fld F b j = fld Fo b j := fun b j n24_2 n24_3 n24_4 n24_5 n24_6 n24_7 n25_3 n25_4 n25_7 => (h1v76448 b j (fr_ne g0 n25_7)).trans (hfr b j n24_2 n24_3 n24_4 n24_5 n24_6 n24_7 n25_3 n25_4 n25_7)
    exact t_vret hQ X hT hfr (Nat.le_of_ble_eq_true rfl) (Nat.le_of_ble_eq_true rfl) dX3_readWater_79
  refine lv_aload_n hx hb dX3_readWater_0 rfl (lv_at hl 0 rfl) ?_
  refine lv_iconst (v := 0) hx hb dX3_readWater_1 (by decide) ?_
  refine lv_aload_n hx hb dX3_readWater_2 rfl (lv_at hl 0 rfl) ?_
  refine t_get (C := RX3) (T := TX3) (N := 13) X hT m0 g0 rfl rfl 1 (by decide) qw_161 inlX3 rfl dX3_readWater_3 (fun v76449 hv76449 ov76449 => ?_)
  obtain rfl : v76449 = .ref x1 := hv76449.symm.trans pf1
  refine t_get (C := RX1) (T := TX1) (N := 20) X hT mx1 gx1 rfl rfl 0 (by decide) qw_310 inlX1 rfl dX3_readWater_6 (fun v76450 hv76450 ov76450 => ?_)
  obtain ⟨z76451, rfl, rz76451⟩ := okV_i ov76450
  refine lv_iconst (v := 1) hx hb dX3_readWater_9 (by decide) ?_
  refine lv_isub hx hb dX3_readWater_10 ?_
  refine lv_topi (fun z76452 ez76452 => ?_)
  have hz76452 : z76452.toInt = z76451.toInt - 1 := ar_sub ez76452 (rfl : z76451.toInt = z76451.toInt) (by decide : (1 : Int32).toInt = 1) (by omega) (by omega)
  have rz76452 : (-1) ≤ z76452.toInt ∧ z76452.toInt ≤ 11 := by omega
  refine t_cVi (n := 2) (C := RX3) (T := TX3) (N := 13) (As := [.int 0, .int z76452]) (rest := []) X hT (kt213_X3_whole l G tag L F hT.2.2.2 p0 0 z76452 x0 x1 x2 x3 m0 g0 mx0 gx0 pf0 mx1 gx1 pf1 mx2 gx2 pf2 mx3 gx3 pf3) m0 g0 rfl rfl qw_318 qw_319 qw_320 qw_28 qw_321 ⟨rfl, by decide +kernel, by decide +kernel, by decide +kernel⟩ ⟨Nat.le_of_ble_eq_true rfl, Nat.le_of_ble_eq_true rfl⟩ hl rfl rfl (Nat.le_of_ble_eq_true rfl) dX3_readWater_11 ⟨Nat.le_of_ble_eq_true rfl, Nat.le_of_ble_eq_true rfl⟩ (fun z76453 F H locs hT hz76453 => ?_)
  obtain ⟨hz76453, yz76453⟩ := hz76453
  have pf0 := (yz76453 _ 0 (Or.inr (by decide)) (Or.inr (by decide)) (Or.inr (by decide)) (Or.inr (by decide)) (Or.inr (by decide)) (Or.inr (by decide)) (Or.inr (by decide)) (Or.inr (by decide))).trans pf0
  have pf1 := (yz76453 _ 1 (Or.inr (by decide)) (Or.inr (by decide)) (Or.inr (by decide)) (Or.inr (by decide)) (Or.inr (by decide)) (Or.inr (by decide)) (Or.inr (by decide)) (Or.inr (by decide))).trans pf1
  have pf2 := (yz76453 _ 2 (Or.inl (by rw [g0]; decide)) (Or.inr (by decide)) (Or.inr (by decide)) (Or.inr (by decide)) (Or.inr (by decide)) (Or.inr (by decide)) (Or.inr (by decide)) (Or.inr (by decide))).trans pf2
  have pf3 := (yz76453 _ 0 (Or.inr (by decide)) (Or.inr (by decide)) (Or.inr (by decide)) (Or.inr (by decide)) (Or.inr (by decide)) (Or.inr (by decide)) (Or.inr (by decide)) (Or.inr (by decide))).trans pf3
  have hv76450 := (yz76453 _ 0 (Or.inr (by decide)) (Or.inr (by decide)) (Or.inr (by decide)) (Or.inr (by decide)) (Or.inr (by decide)) (Or.inr (by decide)) (Or.inr (by decide)) (Or.inr (by decide))).trans hv76450
  have hfr : ∀ b j : Nat, (tag b ≠ 24 ∨ j ≠ 2) → (tag b ≠ 24 ∨ j ≠ 3) → (tag b ≠ 24 ∨ j ≠ 4) → (tag b ≠ 24 ∨ j ≠ 5) → (tag b ≠ 24 ∨ j ≠ 6) → (tag b ≠ 24 ∨ j ≠ 7) → (tag b ≠ 25 ∨ j ≠ 3) → (tag b ≠ 25 ∨ j ≠ 4) → (tag b ≠ 25 ∨ j ≠ 7) → fld F b j = fld Fo b j := fun b j n24_2 n24_3 n24_4 n24_5 n24_6 n24_7 n25_3 n25_4 n25_7 => (yz76453 b j n24_2 n24_3 n24_4 n24_5 n24_6 n24_7 n25_3 n25_4).trans (hfr b j n24_2 n24_3 n24_4 n24_5 n24_6 n24_7 n25_3 n25_4 n25_7)
  refine lv_istore_n (lv' := [(1, .int z76453), (0, .ref p0)]) hx hb dX3_readWater_14 rfl hl (by decide) rfl (fun ls hl => ?_)
  refine lv_aload_n hx hb dX3_readWater_15 rfl (lv_at hl 1 rfl) ?_
  refine lv_bipush (v := 44) hx hb dX3_readWater_16 (by decide) ?_
  refine t_cVv (n := 1) (C := RX3) (T := TX3) (N := 13) (As := [.int 44]) (rest := []) X hT (kt214_X3_sign l G tag L F hT.2.2.2 p0 44 x0 x1 x2 x3 m0 g0 mx0 gx0 pf0 mx1 gx1 pf1 mx2 gx2 pf2 mx3 gx3 pf3) m0 g0 rfl rfl qw_340 qw_341 qw_342 qw_28 qw_343 ⟨rfl, by decide +kernel, by decide +kernel, by decide +kernel⟩ ⟨Nat.le_of_ble_eq_true rfl, Nat.le_of_ble_eq_true rfl⟩ hl rfl rfl (Nat.le_of_ble_eq_true rfl) dX3_readWater_18 ⟨Nat.le_of_ble_eq_true rfl, Nat.le_of_ble_eq_true rfl⟩ (fun F H locs hT hz76454 => ?_)
  have yz76454 := hz76454
  have pf0 := (yz76454 _ 0 (Or.inr (by decide)) (Or.inr (by decide)) (Or.inr (by decide)) (Or.inr (by decide)) (Or.inr (by decide)) (Or.inr (by decide)) (Or.inr (by decide)) (Or.inr (by decide))).trans pf0
  have pf1 := (yz76454 _ 1 (Or.inr (by decide)) (Or.inr (by decide)) (Or.inr (by decide)) (Or.inr (by decide)) (Or.inr (by decide)) (Or.inr (by decide)) (Or.inr (by decide)) (Or.inr (by decide))).trans pf1
  have pf2 := (yz76454 _ 2 (Or.inl (by rw [g0]; decide)) (Or.inr (by decide)) (Or.inr (by decide)) (Or.inr (by decide)) (Or.inr (by decide)) (Or.inr (by decide)) (Or.inr (by decide)) (Or.inr (by decide))).trans pf2
  have pf3 := (yz76454 _ 0 (Or.inr (by decide)) (Or.inr (by decide)) (Or.inr (by decide)) (Or.inr (by decide)) (Or.inr (by decide)) (Or.inr (by decide)) (Or.inr (by decide)) (Or.inr (by decide))).trans pf3
  have hv76450 := (yz76454 _ 0 (Or.inr (by decide)) (Or.inr (by decide)) (Or.inr (by decide)) (Or.inr (by decide)) (Or.inr (by decide)) (Or.inr (by decide)) (Or.inr (by decide)) (Or.inr (by decide))).trans hv76450
  have hfr : ∀ b j : Nat, (tag b ≠ 24 ∨ j ≠ 2) → (tag b ≠ 24 ∨ j ≠ 3) → (tag b ≠ 24 ∨ j ≠ 4) → (tag b ≠ 24 ∨ j ≠ 5) → (tag b ≠ 24 ∨ j ≠ 6) → (tag b ≠ 24 ∨ j ≠ 7) → (tag b ≠ 25 ∨ j ≠ 3) → (tag b ≠ 25 ∨ j ≠ 4) → (tag b ≠ 25 ∨ j ≠ 7) → fld F b j = fld Fo b j := fun b j n24_2 n24_3 n24_4 n24_5 n24_6 n24_7 n25_3 n25_4 n25_7 => (yz76454 b j n24_2 n24_3 n24_4 n24_5 n24_6 n24_7 n25_3 n25_4).trans (hfr b j n24_2 n24_3 n24_4 n24_5 n24_6 n24_7 n25_3 n25_4 n25_7)
  refine lv_aload_n hx hb dX3_readWater_21 rfl (lv_at hl 1 rfl) ?_
  refine lv_iconst (v := 0) hx hb dX3_readWater_22 (by decide) ?_
  refine lv_aload_n hx hb dX3_readWater_23 rfl (lv_at hl 1 rfl) ?_
  refine t_get (C := RX3) (T := TX3) (N := 13) X hT m0 g0 rfl rfl 1 (by decide) qw_161 inlX3 rfl dX3_readWater_24 (fun v76455 hv76455 ov76455 => ?_)
  obtain rfl : v76455 = .ref x1 := hv76455.symm.trans pf1
  refine t_get (C := RX1) (T := TX1) (N := 20) X hT mx1 gx1 rfl rfl 1 (by decide) qw_311 inlX1 rfl dX3_readWater_27 (fun v76456 hv76456 ov76456 => ?_)
  obtain ⟨z76457, rfl, rz76457⟩ := okV_i ov76456
  refine lv_iconst (v := 1) hx hb dX3_readWater_30 (by decide) ?_
  refine lv_isub hx hb dX3_readWater_31 ?_
  refine lv_topi (fun z76458 ez76458 => ?_)
  have hz76458 : z76458.toInt = z76457.toInt - 1 := ar_sub ez76458 (rfl : z76457.toInt = z76457.toInt) (by decide : (1 : Int32).toInt = 1) (by omega) (by omega)
  have rz76458 : (-1) ≤ z76458.toInt ∧ z76458.toInt ≤ 11 := by omega
  refine t_cVi (n := 2) (C := RX3) (T := TX3) (N := 13) (As := [.int 0, .int z76458]) (rest := []) X hT (kt213_X3_whole l G tag L F hT.2.2.2 p0 0 z76458 x0 x1 x2 x3 m0 g0 mx0 gx0 pf0 mx1 gx1 pf1 mx2 gx2 pf2 mx3 gx3 pf3) m0 g0 rfl rfl qw_318 qw_319 qw_320 qw_28 qw_321 ⟨rfl, by decide +kernel, by decide +kernel, by decide +kernel⟩ ⟨Nat.le_of_ble_eq_true rfl, Nat.le_of_ble_eq_true rfl⟩ hl rfl rfl (Nat.le_of_ble_eq_true rfl) dX3_readWater_32 ⟨Nat.le_of_ble_eq_true rfl, Nat.le_of_ble_eq_true rfl⟩ (fun z76459 F H locs hT hz76459 => ?_)
  obtain ⟨hz76459, yz76459⟩ := hz76459
  have pf0 := (yz76459 _ 0 (Or.inr (by decide)) (Or.inr (by decide)) (Or.inr (by decide)) (Or.inr (by decide)) (Or.inr (by decide)) (Or.inr (by decide)) (Or.inr (by decide)) (Or.inr (by decide))).trans pf0
  have pf1 := (yz76459 _ 1 (Or.inr (by decide)) (Or.inr (by decide)) (Or.inr (by decide)) (Or.inr (by decide)) (Or.inr (by decide)) (Or.inr (by decide)) (Or.inr (by decide)) (Or.inr (by decide))).trans pf1
  have pf2 := (yz76459 _ 2 (Or.inl (by rw [g0]; decide)) (Or.inr (by decide)) (Or.inr (by decide)) (Or.inr (by decide)) (Or.inr (by decide)) (Or.inr (by decide)) (Or.inr (by decide)) (Or.inr (by decide))).trans pf2
  have pf3 := (yz76459 _ 0 (Or.inr (by decide)) (Or.inr (by decide)) (Or.inr (by decide)) (Or.inr (by decide)) (Or.inr (by decide)) (Or.inr (by decide)) (Or.inr (by decide)) (Or.inr (by decide))).trans pf3
  have hv76450 := (yz76459 _ 0 (Or.inr (by decide)) (Or.inr (by decide)) (Or.inr (by decide)) (Or.inr (by decide)) (Or.inr (by decide)) (Or.inr (by decide)) (Or.inr (by decide)) (Or.inr (by decide))).trans hv76450
  have hv76456 := (yz76459 _ 1 (Or.inr (by decide)) (Or.inr (by decide)) (Or.inr (by decide)) (Or.inr (by decide)) (Or.inr (by decide)) (Or.inr (by decide)) (Or.inr (by decide)) (Or.inr (by decide))).trans hv76456
  have hfr : ∀ b j : Nat, (tag b ≠ 24 ∨ j ≠ 2) → (tag b ≠ 24 ∨ j ≠ 3) → (tag b ≠ 24 ∨ j ≠ 4) → (tag b ≠ 24 ∨ j ≠ 5) → (tag b ≠ 24 ∨ j ≠ 6) → (tag b ≠ 24 ∨ j ≠ 7) → (tag b ≠ 25 ∨ j ≠ 3) → (tag b ≠ 25 ∨ j ≠ 4) → (tag b ≠ 25 ∨ j ≠ 7) → fld F b j = fld Fo b j := fun b j n24_2 n24_3 n24_4 n24_5 n24_6 n24_7 n25_3 n25_4 n25_7 => (yz76459 b j n24_2 n24_3 n24_4 n24_5 n24_6 n24_7 n25_3 n25_4).trans (hfr b j n24_2 n24_3 n24_4 n24_5 n24_6 n24_7 n25_3 n25_4 n25_7)
  refine lv_istore_n (lv' := [(2, .int z76459), (1, .int z76453), (0, .ref p0)]) hx hb dX3_readWater_35 rfl hl (by decide) rfl (fun ls hl => ?_)
  refine lv_aload_n hx hb dX3_readWater_36 rfl (lv_at hl 2 rfl) ?_
  refine t_get (C := RX3) (T := TX3) (N := 13) X hT m0 g0 rfl rfl 1 (by decide) qw_161 inlX3 rfl dX3_readWater_37 (fun v76460 hv76460 ov76460 => ?_)
  obtain rfl : v76460 = .ref x1 := hv76460.symm.trans pf1
  refine lv_iload_n hx hb dX3_readWater_40 rfl (lv_at hl 1 rfl) ?_
  refine lv_iload_n hx hb dX3_readWater_41 rfl (lv_at hl 0 rfl) ?_
  refine t_cVi (n := 2) (C := RX1) (T := TX1) (N := 20) (As := [.int z76453, .int z76459]) (rest := []) X hT (kt40_X1_isWet l G tag L F hT.2.2.2 x1 z76453 z76459 mx1 gx1) mx1 gx1 rfl rfl qw_344 qw_345 qw_346 qw_17 qw_347 ⟨rfl, by decide +kernel, by decide +kernel, by decide +kernel⟩ ⟨Nat.le_of_ble_eq_true rfl, Nat.le_of_ble_eq_true rfl⟩ hl rfl rfl (Nat.le_of_ble_eq_true rfl) dX3_readWater_42 ⟨Nat.le_of_ble_eq_true rfl, Nat.le_of_ble_eq_true rfl⟩ (fun z76461 F9 H locs hT hz76461 => ?_)
  obtain ⟨fz76461, hz76461⟩ := hz76461
  rw [fz76461] at hT
  refine lv_if_eq (tgt := 60) hx hb dX3_readWater_45 (by decide) (fun c76462 => ?_) (fun c76462 => ?_)
  · have w76463 := cv_eq (rfl : z76461.toInt = z76461.toInt) (by decide : (0 : Int32).toInt = 0) c76462
    exact K60 z76453 z76459 _ _ _ _  hT hfr pf0 pf1 pf2 pf3 (lv_sub hl [2, 1, 0] rfl)
  · have w76464 := cv_ne (rfl : z76461.toInt = z76461.toInt) (by decide : (0 : Int32).toInt = 0) c76462
    refine lv_aload_n hx hb dX3_readWater_48 rfl (lv_at hl 2 rfl) ?_
    refine lv_iconst (v := 3) hx hb dX3_readWater_49 (by decide) ?_
    refine lv_aload_n hx hb dX3_readWater_50 rfl (lv_at hl 2 rfl) ?_
    refine t_get (C := RX3) (T := TX3) (N := 13) X hT m0 g0 rfl rfl 0 (by decide) qw_73 inlX3 rfl dX3_readWater_51 (fun v76465 hv76465 ov76465 => ?_)
    obtain rfl : v76465 = .ref x0 := hv76465.symm.trans pf0
    refine t_get (C := RX8) (T := TX8) (N := 8) X hT mx0 gx0 rfl rfl 5 (by decide) qw_339 inlX8 rfl dX3_readWater_54 (fun v76466 hv76466 ov76466 => ?_)
    obtain ⟨z76467, rfl, rz76467⟩ := okV_i ov76466
    refine t_cVv (n := 2) (C := RX3) (T := TX3) (N := 13) (As := [.int 3, .int z76467]) (rest := []) X hT (kt207_X3_fail l G tag L F hT.2.2.2 p0 3 z76467 m0 g0) m0 g0 rfl rfl qw_287 qw_288 qw_289 qw_28 qw_290 ⟨rfl, by decide +kernel, by decide +kernel, by decide +kernel⟩ ⟨Nat.le_of_ble_eq_true rfl, Nat.le_of_ble_eq_true rfl⟩ hl rfl rfl (Nat.le_of_ble_eq_true rfl) dX3_readWater_57 ⟨Nat.le_of_ble_eq_true rfl, Nat.le_of_ble_eq_true rfl⟩ (fun F H locs hT hz76468 => ?_)
    have yz76468 := hz76468
    have pf0 := (yz76468 _ 0 (Or.inr (by decide)) (Or.inr (by decide))).trans pf0
    have pf1 := (yz76468 _ 1 (Or.inr (by decide)) (Or.inr (by decide))).trans pf1
    have pf2 := (yz76468 _ 2 (Or.inr (by decide)) (Or.inr (by decide))).trans pf2
    have pf3 := (yz76468 _ 0 (Or.inr (by decide)) (Or.inr (by decide))).trans pf3
    have hv76450 := (yz76468 _ 0 (Or.inr (by decide)) (Or.inr (by decide))).trans hv76450
    have hv76456 := (yz76468 _ 1 (Or.inr (by decide)) (Or.inr (by decide))).trans hv76456
    have hv76466 := (yz76468 _ 5 (Or.inr (by decide)) (Or.inr (by decide))).trans hv76466
    have hfr : ∀ b j : Nat, (tag b ≠ 24 ∨ j ≠ 2) → (tag b ≠ 24 ∨ j ≠ 3) → (tag b ≠ 24 ∨ j ≠ 4) → (tag b ≠ 24 ∨ j ≠ 5) → (tag b ≠ 24 ∨ j ≠ 6) → (tag b ≠ 24 ∨ j ≠ 7) → (tag b ≠ 25 ∨ j ≠ 3) → (tag b ≠ 25 ∨ j ≠ 4) → (tag b ≠ 25 ∨ j ≠ 7) → fld F b j = fld Fo b j := fun b j n24_2 n24_3 n24_4 n24_5 n24_6 n24_7 n25_3 n25_4 n25_7 => (yz76468 b j n25_3 n25_4).trans (hfr b j n24_2 n24_3 n24_4 n24_5 n24_6 n24_7 n25_3 n25_4 n25_7)
    exact K60 z76453 z76459 _ _ _ _  hT hfr pf0 pf1 pf2 pf3 (lv_sub hl [2, 1, 0] rfl)
set_option maxHeartbeats 4000000 in
set_option maxRecDepth 100000 in
theorem kt217_X3_sign (l : Launch) (G : KG) (tag : Nat → Nat) (L : List Nat) (Fo : Nat → va_E) (ho : okT G ttC tag L Fo) (p0 : Nat) (p1 : Int32) (x0 : Nat) (x1 : Nat) (x2 : Nat) (x3 : Nat) (m0 : p0 ∈ L) (g0 : tag p0 = 25) (mx0 : x0 ∈ L) (gx0 : tag x0 = 24) (pf0 : fld Fo p0 0 = .ref x0) (mx1 : x1 ∈ L) (gx1 : tag x1 = 18) (pf1 : fld Fo p0 1 = .ref x1) (mx2 : x2 ∈ L) (gx2 : tag x2 = 19) (pf2 : fld Fo p0 2 = .ref x2) (mx3 : x3 ∈ L) (gx3 : tag x3 = 1) (pf3 : fld Fo x0 0 = .ref x3) : TMv l yX3_sign cX3_sign 2 { frames := 3, cells := 0, slots := 0, locals := 62 } G ttC tag L Fo [.ref p0, .int p1] (fun F1 => ∀ b j : Nat, (tag b ≠ 24 ∨ j ≠ 2) → (tag b ≠ 24 ∨ j ≠ 3) → (tag b ≠ 24 ∨ j ≠ 4) → (tag b ≠ 24 ∨ j ≠ 5) → (tag b ≠ 24 ∨ j ≠ 6) → (tag b ≠ 24 ∨ j ≠ 7) → (tag b ≠ 25 ∨ j ≠ 3) → (tag b ≠ 25 ∨ j ≠ 4) → fld F1 b j = fld Fo b j) := by
  refine t_bodyv (y := yX3_sign) (cd := cX3_sign) (mL := 2) (rm := { frames := 3, cells := 0, slots := 0, locals := 62 }) (av := [.ref p0, .int p1]) (by decide) (Nat.le_of_ble_eq_true rfl) ho ?_
  intro p e s m args below meth c ls A Q hQ X hT hl
  have hx := X.1.1
  have hb := X.1.2.1
  have hl : lv_has ls 2 [(0, .ref p0), (1, .int p1)] := hl
  have rp1 := rg_all p1
  obtain ⟨F, hFo⟩ : ∃ F : Nat → va_E, F = Fo := ⟨_, rfl⟩
  rw [← hFo] at hT
  have hfr : ∀ b j : Nat, (tag b ≠ 24 ∨ j ≠ 2) → (tag b ≠ 24 ∨ j ≠ 3) → (tag b ≠ 24 ∨ j ≠ 4) → (tag b ≠ 24 ∨ j ≠ 5) → (tag b ≠ 24 ∨ j ≠ 6) → (tag b ≠ 24 ∨ j ≠ 7) → (tag b ≠ 25 ∨ j ≠ 3) → (tag b ≠ 25 ∨ j ≠ 4) → fld F b j = fld Fo b j := by
    rw [hFo]
    intros
    rfl
  have K40 : ∀ (z76780 : Int32) (F : Nat → va_E) (H : Heap) (locs : List Loc) (ls : Array Slot), (0 ≤ z76780.toInt ∧ z76780.toInt ≤ 0) → TH G ttC A s tag L F H locs → (∀ b j : Nat, (tag b ≠ 24 ∨ j ≠ 2) → (tag b ≠ 24 ∨ j ≠ 3) → (tag b ≠ 24 ∨ j ≠ 4) → (tag b ≠ 24 ∨ j ≠ 5) → (tag b ≠ 24 ∨ j ≠ 6) → (tag b ≠ 24 ∨ j ≠ 7) → (tag b ≠ 25 ∨ j ≠ 3) → (tag b ≠ 25 ∨ j ≠ 4) → fld F b j = fld Fo b j) → fld F p0 0 = .ref x0 → fld F p0 1 = .ref x1 → fld F p0 2 = .ref x2 → fld F x0 0 = .ref x3 → fld F p0 3 = .int z76780 → lv_has ls 2 [(0, .ref p0), (1, .int p1)] → W p l e { frames := 3, cells := 0, slots := 0, locals := 62 } s m args below meth c H locs 0 0 Q (F0 m 40 ls []) := by
    intro z76780 F H locs ls rz76780 hT hfr pf0 pf1 pf2 pf3 qz76780 hl
    refine lv_aload_n hx hb dX3_sign_40 rfl (lv_at hl 0 rfl) ?_
    refine lv_iconst (v := 1) hx hb dX3_sign_41 (by decide) ?_
    refine lv_aload_n hx hb dX3_sign_42 rfl (lv_at hl 0 rfl) ?_
    refine t_get (C := RX3) (T := TX3) (N := 13) X hT m0 g0 rfl rfl 0 (by decide) qw_73 inlX3 rfl dX3_sign_43 (fun v76781 hv76781 ov76781 => ?_)
    obtain rfl : v76781 = .ref x0 := hv76781.symm.trans pf0
    refine t_get (C := RX8) (T := TX8) (N := 8) X hT mx0 gx0 rfl rfl 4 (by decide) qw_227 inlX8 rfl dX3_sign_46 (fun v76782 hv76782 ov76782 => ?_)
    obtain ⟨z76783, rfl, rz76783⟩ := okV_i ov76782
    refine t_cVv (n := 2) (C := RX3) (T := TX3) (N := 13) (As := [.int 1, .int z76783]) (rest := []) X hT (kt207_X3_fail l G tag L F hT.2.2.2 p0 1 z76783 m0 g0) m0 g0 rfl rfl qw_287 qw_288 qw_289 qw_28 qw_290 ⟨rfl, by decide +kernel, by decide +kernel, by decide +kernel⟩ ⟨Nat.le_of_ble_eq_true rfl, Nat.le_of_ble_eq_true rfl⟩ hl rfl rfl (Nat.le_of_ble_eq_true rfl) dX3_sign_49 ⟨Nat.le_of_ble_eq_true rfl, Nat.le_of_ble_eq_true rfl⟩ (fun F H locs hT hz76784 => ?_)
    have yz76784 := hz76784
    have pf0 := (yz76784 _ 0 (Or.inr (by decide)) (Or.inr (by decide))).trans pf0
    have pf1 := (yz76784 _ 1 (Or.inr (by decide)) (Or.inr (by decide))).trans pf1
    have pf2 := (yz76784 _ 2 (Or.inr (by decide)) (Or.inr (by decide))).trans pf2
    have pf3 := (yz76784 _ 0 (Or.inr (by decide)) (Or.inr (by decide))).trans pf3
    have hv76782 := (yz76784 _ 4 (Or.inr (by decide)) (Or.inl (by rw [gx0]; decide))).trans hv76782
    have hfr : ∀ b j : Nat, (tag b ≠ 24 ∨ j ≠ 2) → (tag b ≠ 24 ∨ j ≠ 3) → (tag b ≠ 24 ∨ j ≠ 4) → (tag b ≠ 24 ∨ j ≠ 5) → (tag b ≠ 24 ∨ j ≠ 6) → (tag b ≠ 24 ∨ j ≠ 7) → (tag b ≠ 25 ∨ j ≠ 3) → (tag b ≠ 25 ∨ j ≠ 4) → fld F b j = fld Fo b j := fun b j n24_2 n24_3 n24_4 n24_5 n24_6 n24_7 n25_3 n25_4 => (yz76784 b j n25_3 n25_4).trans (hfr b j n24_2 n24_3 n24_4 n24_5 n24_6 n24_7 n25_3 n25_4)
    exact t_vret hQ X hT hfr (Nat.le_of_ble_eq_true rfl) (Nat.le_of_ble_eq_true rfl) dX3_sign_52
  refine lv_aload_n hx hb dX3_sign_0 rfl (lv_at hl 0 rfl) ?_
  refine t_get (C := RX3) (T := TX3) (N := 13) X hT m0 g0 rfl rfl 3 (by decide) qw_163 inlX3 rfl dX3_sign_1 (fun v76785 hv76785 ov76785 => ?_)
  obtain ⟨z76786, rfl, rz76786⟩ := okV_i ov76785
  refine lv_if_eq (tgt := 8) hx hb dX3_sign_4 (by decide) (fun c76787 => ?_) (fun c76787 => ?_)
  · have w76788 := cv_eq (rfl : z76786.toInt = z76786.toInt) (by decide : (0 : Int32).toInt = 0) c76787
    refine lv_aload_n hx hb dX3_sign_8 rfl (lv_at hl 0 rfl) ?_
    refine t_get (C := RX3) (T := TX3) (N := 13) X hT m0 g0 rfl rfl 0 (by decide) qw_73 inlX3 rfl dX3_sign_9 (fun v76789 hv76789 ov76789 => ?_)
    obtain rfl : v76789 = .ref x0 := hv76789.symm.trans pf0
    refine t_get (C := RX8) (T := TX8) (N := 8) X hT mx0 gx0 rfl rfl 3 (by decide) qw_170 inlX8 rfl dX3_sign_12 (fun v76790 hv76790 ov76790 => ?_)
    obtain ⟨z76791, rfl, rz76791⟩ := okV_i ov76790
    refine lv_iconst (v := 3) hx hb dX3_sign_15 (by decide) ?_
    refine lv_icmp_ne (tgt := 40) hx hb dX3_sign_16 (by decide) (fun c76792 => ?_) (fun c76792 => ?_)
    · have w76793 := cv_ne (rfl : z76791.toInt = z76791.toInt) (by decide : (3 : Int32).toInt = 3) c76792
      exact K40 z76786 _ _ _ _ (by omega) hT hfr pf0 pf1 pf2 pf3 hv76785 (lv_sub hl [0, 1] rfl)
    · have w76794 := cv_eq (rfl : z76791.toInt = z76791.toInt) (by decide : (3 : Int32).toInt = 3) c76792
      refine lv_aload_n hx hb dX3_sign_19 rfl (lv_at hl 0 rfl) ?_
      refine t_get (C := RX3) (T := TX3) (N := 13) X hT m0 g0 rfl rfl 0 (by decide) qw_73 inlX3 rfl dX3_sign_20 (fun v76795 hv76795 ov76795 => ?_)
      obtain rfl : v76795 = .ref x0 := hv76795.symm.trans pf0
      refine t_get (C := RX8) (T := TX8) (N := 8) X hT mx0 gx0 rfl rfl 6 (by decide) qw_322 inlX8 rfl dX3_sign_23 (fun v76796 hv76796 ov76796 => ?_)
      obtain ⟨z76797, rfl, rz76797⟩ := okV_i ov76796
      refine lv_iload_n hx hb dX3_sign_26 rfl (lv_at hl 1 rfl) ?_
      refine lv_icmp_ne (tgt := 40) hx hb dX3_sign_27 (by decide) (fun c76798 => ?_) (fun c76798 => ?_)
      · have w76799 := cv_ne (rfl : z76797.toInt = z76797.toInt) (rfl : p1.toInt = p1.toInt) c76798
        exact K40 z76786 _ _ _ _ (by omega) hT hfr pf0 pf1 pf2 pf3 hv76785 (lv_sub hl [0, 1] rfl)
      · have w76800 := cv_eq (rfl : z76797.toInt = z76797.toInt) (rfl : p1.toInt = p1.toInt) c76798
        refine lv_aload_n hx hb dX3_sign_30 rfl (lv_at hl 0 rfl) ?_
        refine t_get (C := RX3) (T := TX3) (N := 13) X hT m0 g0 rfl rfl 0 (by decide) qw_73 inlX3 rfl dX3_sign_31 (fun v76801 hv76801 ov76801 => ?_)
        obtain rfl : v76801 = .ref x0 := hv76801.symm.trans pf0
        refine t_cVv (n := 0) (C := RX8) (T := TX8) (N := 8) (As := []) (rest := []) X hT (kt144_X8_advance l G tag L F hT.2.2.2 x0 x3 mx0 gx0 mx3 gx3 pf3) mx0 gx0 rfl rfl qw_305 qw_197 qw_198 qw_72 qw_199 ⟨rfl, by decide +kernel, by decide +kernel, by decide +kernel⟩ ⟨Nat.le_of_ble_eq_true rfl, Nat.le_of_ble_eq_true rfl⟩ hl rfl rfl (Nat.le_of_ble_eq_true rfl) dX3_sign_34 ⟨Nat.le_of_ble_eq_true rfl, Nat.le_of_ble_eq_true rfl⟩ (fun F H locs hT hz76802 => ?_)
        have yz76802 := hz76802
        have pf0 := (yz76802 _ 0 (Or.inr (by decide)) (Or.inr (by decide)) (Or.inr (by decide)) (Or.inr (by decide)) (Or.inr (by decide)) (Or.inr (by decide))).trans pf0
        have pf1 := (yz76802 _ 1 (Or.inr (by decide)) (Or.inr (by decide)) (Or.inr (by decide)) (Or.inr (by decide)) (Or.inr (by decide)) (Or.inr (by decide))).trans pf1
        have pf2 := (yz76802 _ 2 (Or.inl (by rw [g0]; decide)) (Or.inr (by decide)) (Or.inr (by decide)) (Or.inr (by decide)) (Or.inr (by decide)) (Or.inr (by decide))).trans pf2
        have pf3 := (yz76802 _ 0 (Or.inr (by decide)) (Or.inr (by decide)) (Or.inr (by decide)) (Or.inr (by decide)) (Or.inr (by decide)) (Or.inr (by decide))).trans pf3
        have hv76785 := (yz76802 _ 3 (Or.inr (by decide)) (Or.inl (by rw [g0]; decide)) (Or.inr (by decide)) (Or.inr (by decide)) (Or.inr (by decide)) (Or.inr (by decide))).trans hv76785
        have hfr : ∀ b j : Nat, (tag b ≠ 24 ∨ j ≠ 2) → (tag b ≠ 24 ∨ j ≠ 3) → (tag b ≠ 24 ∨ j ≠ 4) → (tag b ≠ 24 ∨ j ≠ 5) → (tag b ≠ 24 ∨ j ≠ 6) → (tag b ≠ 24 ∨ j ≠ 7) → (tag b ≠ 25 ∨ j ≠ 3) → (tag b ≠ 25 ∨ j ≠ 4) → fld F b j = fld Fo b j := fun b j n24_2 n24_3 n24_4 n24_5 n24_6 n24_7 n25_3 n25_4 => (yz76802 b j n24_2 n24_3 n24_4 n24_5 n24_6 n24_7).trans (hfr b j n24_2 n24_3 n24_4 n24_5 n24_6 n24_7 n25_3 n25_4)
        refine lv_goto (tgt := 52) hx hb dX3_sign_37 (by decide) ?_
        exact t_vret hQ X hT hfr (Nat.le_of_ble_eq_true rfl) (Nat.le_of_ble_eq_true rfl) dX3_sign_52
  · have w76803 := cv_ne (rfl : z76786.toInt = z76786.toInt) (by decide : (0 : Int32).toInt = 0) c76787
    exact t_vret hQ X hT hfr (Nat.le_of_ble_eq_true rfl) (Nat.le_of_ble_eq_true rfl) dX3_sign_7
set_option maxHeartbeats 4000000 in
set_option maxRecDepth 100000 in
theorem kt218_X3_whole (l : Launch) (G : KG) (tag : Nat → Nat) (L : List Nat) (Fo : Nat → va_E) (ho : okT G ttC tag L Fo) (p0 : Nat) (p1 : Int32) (p2 : Int32) (x0 : Nat) (x1 : Nat) (x2 : Nat) (x3 : Nat) (m0 : p0 ∈ L) (g0 : tag p0 = 25) (mx0 : x0 ∈ L) (gx0 : tag x0 = 24) (pf0 : fld Fo p0 0 = .ref x0) (mx1 : x1 ∈ L) (gx1 : tag x1 = 18) (pf1 : fld Fo p0 1 = .ref x1) (mx2 : x2 ∈ L) (gx2 : tag x2 = 19) (pf2 : fld Fo p0 2 = .ref x2) (mx3 : x3 ∈ L) (gx3 : tag x3 = 1) (pf3 : fld Fo x0 0 = .ref x3) : TMi l yX3_whole cX3_whole 4 (some .int) { frames := 3, cells := 0, slots := 0, locals := 62 } G ttC tag L Fo [.ref p0, .int p1, .int p2] (fun r F1 => ((-2147483648) ≤ r.toInt ∧ r.toInt ≤ 2147483647) ∧ (∀ b j : Nat, (tag b ≠ 24 ∨ j ≠ 2) → (tag b ≠ 24 ∨ j ≠ 3) → (tag b ≠ 24 ∨ j ≠ 4) → (tag b ≠ 24 ∨ j ≠ 5) → (tag b ≠ 24 ∨ j ≠ 6) → (tag b ≠ 24 ∨ j ≠ 7) → (tag b ≠ 25 ∨ j ≠ 3) → (tag b ≠ 25 ∨ j ≠ 4) → fld F1 b j = fld Fo b j)) := by
  refine t_bodyi (y := yX3_whole) (cd := cX3_whole) (mL := 4) (rt := (some .int)) (rm := { frames := 3, cells := 0, slots := 0, locals := 62 }) (av := [.ref p0, .int p1, .int p2]) (by decide) (Nat.le_of_ble_eq_true rfl) ho ?_
  intro p e s m args below meth c ls A Q hQ X hT hl
  have hx := X.1.1
  have hb := X.1.2.1
  have hl : lv_has ls 4 [(0, .ref p0), (1, .int p1), (2, .int p2)] := hl
  have rp1 := rg_all p1
  have rp2 := rg_all p2
  obtain ⟨F, hFo⟩ : ∃ F : Nat → va_E, F = Fo := ⟨_, rfl⟩
  rw [← hFo] at hT
  have hfr : ∀ b j : Nat, (tag b ≠ 24 ∨ j ≠ 2) → (tag b ≠ 24 ∨ j ≠ 3) → (tag b ≠ 24 ∨ j ≠ 4) → (tag b ≠ 24 ∨ j ≠ 5) → (tag b ≠ 24 ∨ j ≠ 6) → (tag b ≠ 24 ∨ j ≠ 7) → (tag b ≠ 25 ∨ j ≠ 3) → (tag b ≠ 25 ∨ j ≠ 4) → fld F b j = fld Fo b j := by
    rw [hFo]
    intros
    rfl
  have K60 : ∀  (F : Nat → va_E) (H : Heap) (locs : List Loc) (ls : Array Slot), TH G ttC A s tag L F H locs → (∀ b j : Nat, (tag b ≠ 24 ∨ j ≠ 2) → (tag b ≠ 24 ∨ j ≠ 3) → (tag b ≠ 24 ∨ j ≠ 4) → (tag b ≠ 24 ∨ j ≠ 5) → (tag b ≠ 24 ∨ j ≠ 6) → (tag b ≠ 24 ∨ j ≠ 7) → (tag b ≠ 25 ∨ j ≠ 3) → (tag b ≠ 25 ∨ j ≠ 4) → fld F b j = fld Fo b j) → fld F p0 0 = .ref x0 → fld F p0 1 = .ref x1 → fld F p0 2 = .ref x2 → fld F x0 0 = .ref x3 → lv_has ls 4 [(0, .ref p0), (1, .int p1), (2, .int p2)] → W p l e { frames := 3, cells := 0, slots := 0, locals := 62 } s m args below meth c H locs 0 0 Q (F0 m 60 ls []) := by
    intro F H locs ls hT hfr pf0 pf1 pf2 pf3 hl
    refine lv_aload_n hx hb dX3_whole_60 rfl (lv_at hl 0 rfl) ?_
    refine t_get (C := RX3) (T := TX3) (N := 13) X hT m0 g0 rfl rfl 3 (by decide) qw_163 inlX3 rfl dX3_whole_61 (fun v77299 hv77299 ov77299 => ?_)
    obtain ⟨z77300, rfl, rz77300⟩ := okV_i ov77299
    refine lv_if_eq (tgt := 69) hx hb dX3_whole_64 (by decide) (fun c77301 => ?_) (fun c77301 => ?_)
    · have w77302 := cv_eq (rfl : z77300.toInt = z77300.toInt) (by decide : (0 : Int32).toInt = 0) c77301
      refine lv_aload_n hx hb dX3_whole_69 rfl (lv_at hl 0 rfl) ?_
      refine t_get (C := RX3) (T := TX3) (N := 13) X hT m0 g0 rfl rfl 0 (by decide) qw_73 inlX3 rfl dX3_whole_70 (fun v77303 hv77303 ov77303 => ?_)
      obtain rfl : v77303 = .ref x0 := hv77303.symm.trans pf0
      refine t_get (C := RX8) (T := TX8) (N := 8) X hT mx0 gx0 rfl rfl 6 (by decide) qw_322 inlX8 rfl dX3_whole_73 (fun v77304 hv77304 ov77304 => ?_)
      obtain ⟨z77305, rfl, rz77305⟩ := okV_i ov77304
      refine lv_istore_n (lv' := [(3, .int z77305), (0, .ref p0), (1, .int p1), (2, .int p2)]) hx hb dX3_whole_76 rfl hl (by decide) rfl (fun ls hl => ?_)
      refine lv_aload_n hx hb dX3_whole_77 rfl (lv_at hl 1 rfl) ?_
      refine t_get (C := RX3) (T := TX3) (N := 13) X hT m0 g0 rfl rfl 0 (by decide) qw_73 inlX3 rfl dX3_whole_78 (fun v77306 hv77306 ov77306 => ?_)
      obtain rfl : v77306 = .ref x0 := hv77306.symm.trans pf0
      refine t_cVv (n := 0) (C := RX8) (T := TX8) (N := 8) (As := []) (rest := []) X hT (kt144_X8_advance l G tag L F hT.2.2.2 x0 x3 mx0 gx0 mx3 gx3 pf3) mx0 gx0 rfl rfl qw_305 qw_197 qw_198 qw_72 qw_199 ⟨rfl, by decide +kernel, by decide +kernel, by decide +kernel⟩ ⟨Nat.le_of_ble_eq_true rfl, Nat.le_of_ble_eq_true rfl⟩ hl rfl rfl (Nat.le_of_ble_eq_true rfl) dX3_whole_81 ⟨Nat.le_of_ble_eq_true rfl, Nat.le_of_ble_eq_true rfl⟩ (fun F H locs hT hz77307 => ?_)
      have yz77307 := hz77307
      have pf0 := (yz77307 _ 0 (Or.inr (by decide)) (Or.inr (by decide)) (Or.inr (by decide)) (Or.inr (by decide)) (Or.inr (by decide)) (Or.inr (by decide))).trans pf0
      have pf1 := (yz77307 _ 1 (Or.inr (by decide)) (Or.inr (by decide)) (Or.inr (by decide)) (Or.inr (by decide)) (Or.inr (by decide)) (Or.inr (by decide))).trans pf1
      have pf2 := (yz77307 _ 2 (Or.inl (by rw [g0]; decide)) (Or.inr (by decide)) (Or.inr (by decide)) (Or.inr (by decide)) (Or.inr (by decide)) (Or.inr (by decide))).trans pf2
      have pf3 := (yz77307 _ 0 (Or.inr (by decide)) (Or.inr (by decide)) (Or.inr (by decide)) (Or.inr (by decide)) (Or.inr (by decide)) (Or.inr (by decide))).trans pf3
      have hv77299 := (yz77307 _ 3 (Or.inr (by decide)) (Or.inl (by rw [g0]; decide)) (Or.inr (by decide)) (Or.inr (by decide)) (Or.inr (by decide)) (Or.inr (by decide))).trans hv77299
      have hfr : ∀ b j : Nat, (tag b ≠ 24 ∨ j ≠ 2) → (tag b ≠ 24 ∨ j ≠ 3) → (tag b ≠ 24 ∨ j ≠ 4) → (tag b ≠ 24 ∨ j ≠ 5) → (tag b ≠ 24 ∨ j ≠ 6) → (tag b ≠ 24 ∨ j ≠ 7) → (tag b ≠ 25 ∨ j ≠ 3) → (tag b ≠ 25 ∨ j ≠ 4) → fld F b j = fld Fo b j := fun b j n24_2 n24_3 n24_4 n24_5 n24_6 n24_7 n25_3 n25_4 => (yz77307 b j n24_2 n24_3 n24_4 n24_5 n24_6 n24_7).trans (hfr b j n24_2 n24_3 n24_4 n24_5 n24_6 n24_7 n25_3 n25_4)
      refine lv_iload_n hx hb dX3_whole_84 rfl (lv_at hl 0 rfl) ?_
      exact t_iret hQ X hT (⟨rg_all _, hfr⟩) (Nat.le_of_ble_eq_true rfl) (Nat.le_of_ble_eq_true rfl) dX3_whole_85
    · have w77308 := cv_ne (rfl : z77300.toInt = z77300.toInt) (by decide : (0 : Int32).toInt = 0) c77301
      refine lv_iload_n hx hb dX3_whole_67 rfl (lv_at hl 1 rfl) ?_
      exact t_iret hQ X hT (⟨rg_all _, hfr⟩) (Nat.le_of_ble_eq_true rfl) (Nat.le_of_ble_eq_true rfl) dX3_whole_68
  have K48 : ∀  (F : Nat → va_E) (H : Heap) (locs : List Loc) (ls : Array Slot), TH G ttC A s tag L F H locs → (∀ b j : Nat, (tag b ≠ 24 ∨ j ≠ 2) → (tag b ≠ 24 ∨ j ≠ 3) → (tag b ≠ 24 ∨ j ≠ 4) → (tag b ≠ 24 ∨ j ≠ 5) → (tag b ≠ 24 ∨ j ≠ 6) → (tag b ≠ 24 ∨ j ≠ 7) → (tag b ≠ 25 ∨ j ≠ 3) → (tag b ≠ 25 ∨ j ≠ 4) → fld F b j = fld Fo b j) → fld F p0 0 = .ref x0 → fld F p0 1 = .ref x1 → fld F p0 2 = .ref x2 → fld F x0 0 = .ref x3 → lv_has ls 4 [(0, .ref p0), (1, .int p1), (2, .int p2)] → W p l e { frames := 3, cells := 0, slots := 0, locals := 62 } s m args below meth c H locs 0 0 Q (F0 m 48 ls []) := by
    intro F H locs ls hT hfr pf0 pf1 pf2 pf3 hl
    refine lv_aload_n hx hb dX3_whole_48 rfl (lv_at hl 0 rfl) ?_
    refine lv_iconst (v := 4) hx hb dX3_whole_49 (by decide) ?_
    refine lv_aload_n hx hb dX3_whole_50 rfl (lv_at hl 0 rfl) ?_
    refine t_get (C := RX3) (T := TX3) (N := 13) X hT m0 g0 rfl rfl 0 (by decide) qw_73 inlX3 rfl dX3_whole_51 (fun v77309 hv77309 ov77309 => ?_)
    obtain rfl : v77309 = .ref x0 := hv77309.symm.trans pf0
    refine t_get (C := RX8) (T := TX8) (N := 8) X hT mx0 gx0 rfl rfl 4 (by decide) qw_227 inlX8 rfl dX3_whole_54 (fun v77310 hv77310 ov77310 => ?_)
    obtain ⟨z77311, rfl, rz77311⟩ := okV_i ov77310
    refine t_cVv (n := 2) (C := RX3) (T := TX3) (N := 13) (As := [.int 4, .int z77311]) (rest := []) X hT (kt207_X3_fail l G tag L F hT.2.2.2 p0 4 z77311 m0 g0) m0 g0 rfl rfl qw_287 qw_288 qw_289 qw_28 qw_290 ⟨rfl, by decide +kernel, by decide +kernel, by decide +kernel⟩ ⟨Nat.le_of_ble_eq_true rfl, Nat.le_of_ble_eq_true rfl⟩ hl rfl rfl (Nat.le_of_ble_eq_true rfl) dX3_whole_57 ⟨Nat.le_of_ble_eq_true rfl, Nat.le_of_ble_eq_true rfl⟩ (fun F H locs hT hz77312 => ?_)
    have yz77312 := hz77312
    have pf0 := (yz77312 _ 0 (Or.inr (by decide)) (Or.inr (by decide))).trans pf0
    have pf1 := (yz77312 _ 1 (Or.inr (by decide)) (Or.inr (by decide))).trans pf1
    have pf2 := (yz77312 _ 2 (Or.inr (by decide)) (Or.inr (by decide))).trans pf2
    have pf3 := (yz77312 _ 0 (Or.inr (by decide)) (Or.inr (by decide))).trans pf3
    have hv77310 := (yz77312 _ 4 (Or.inr (by decide)) (Or.inl (by rw [gx0]; decide))).trans hv77310
    have hfr : ∀ b j : Nat, (tag b ≠ 24 ∨ j ≠ 2) → (tag b ≠ 24 ∨ j ≠ 3) → (tag b ≠ 24 ∨ j ≠ 4) → (tag b ≠ 24 ∨ j ≠ 5) → (tag b ≠ 24 ∨ j ≠ 6) → (tag b ≠ 24 ∨ j ≠ 7) → (tag b ≠ 25 ∨ j ≠ 3) → (tag b ≠ 25 ∨ j ≠ 4) → fld F b j = fld Fo b j := fun b j n24_2 n24_3 n24_4 n24_5 n24_6 n24_7 n25_3 n25_4 => (yz77312 b j n25_3 n25_4).trans (hfr b j n24_2 n24_3 n24_4 n24_5 n24_6 n24_7 n25_3 n25_4)
    exact K60  _ _ _ _  hT hfr pf0 pf1 pf2 pf3 (lv_sub hl [0, 1, 2] rfl)
  refine lv_aload_n hx hb dX3_whole_0 rfl (lv_at hl 0 rfl) ?_
  refine t_get (C := RX3) (T := TX3) (N := 13) X hT m0 g0 rfl rfl 0 (by decide) qw_73 inlX3 rfl dX3_whole_1 (fun v77313 hv77313 ov77313 => ?_)
  obtain rfl : v77313 = .ref x0 := hv77313.symm.trans pf0
  refine t_get (C := RX8) (T := TX8) (N := 8) X hT mx0 gx0 rfl rfl 3 (by decide) qw_170 inlX8 rfl dX3_whole_4 (fun v77314 hv77314 ov77314 => ?_)
  obtain ⟨z77315, rfl, rz77315⟩ := okV_i ov77314
  refine lv_iconst (v := 2) hx hb dX3_whole_7 (by decide) ?_
  refine lv_icmp_eq (tgt := 26) hx hb dX3_whole_8 (by decide) (fun c77316 => ?_) (fun c77316 => ?_)
  · have w77317 := cv_eq (rfl : z77315.toInt = z77315.toInt) (by decide : (2 : Int32).toInt = 2) c77316
    refine lv_aload_n hx hb dX3_whole_26 rfl (lv_at hl 0 rfl) ?_
    refine t_get (C := RX3) (T := TX3) (N := 13) X hT m0 g0 rfl rfl 0 (by decide) qw_73 inlX3 rfl dX3_whole_27 (fun v77318 hv77318 ov77318 => ?_)
    obtain rfl : v77318 = .ref x0 := hv77318.symm.trans pf0
    refine t_get (C := RX8) (T := TX8) (N := 8) X hT mx0 gx0 rfl rfl 6 (by decide) qw_322 inlX8 rfl dX3_whole_30 (fun v77319 hv77319 ov77319 => ?_)
    obtain ⟨z77320, rfl, rz77320⟩ := okV_i ov77319
    refine lv_iload_n hx hb dX3_whole_33 rfl (lv_at hl 1 rfl) ?_
    refine lv_icmp_lt (tgt := 48) hx hb dX3_whole_34 (by decide) (fun c77321 => ?_) (fun c77321 => ?_)
    · have w77322 := cv_lt (rfl : z77320.toInt = z77320.toInt) (rfl : p1.toInt = p1.toInt) c77321
      exact K48  _ _ _ _  hT hfr pf0 pf1 pf2 pf3 (lv_sub hl [0, 1, 2] rfl)
    · have w77323 := cv_nlt (rfl : z77320.toInt = z77320.toInt) (rfl : p1.toInt = p1.toInt) c77321
      refine lv_aload_n hx hb dX3_whole_37 rfl (lv_at hl 0 rfl) ?_
      refine t_get (C := RX3) (T := TX3) (N := 13) X hT m0 g0 rfl rfl 0 (by decide) qw_73 inlX3 rfl dX3_whole_38 (fun v77324 hv77324 ov77324 => ?_)
      obtain rfl : v77324 = .ref x0 := hv77324.symm.trans pf0
      refine t_get (C := RX8) (T := TX8) (N := 8) X hT mx0 gx0 rfl rfl 6 (by decide) qw_322 inlX8 rfl dX3_whole_41 (fun v77325 hv77325 ov77325 => ?_)
      obtain rfl : v77325 = .int z77320 := hv77325.symm.trans hv77319
      refine lv_iload_n hx hb dX3_whole_44 rfl (lv_at hl 2 rfl) ?_
      refine lv_icmp_le (tgt := 60) hx hb dX3_whole_45 (by decide) (fun c77326 => ?_) (fun c77326 => ?_)
      · have w77327 := cv_le (rfl : z77320.toInt = z77320.toInt) (rfl : p2.toInt = p2.toInt) c77326
        exact K60  _ _ _ _  hT hfr pf0 pf1 pf2 pf3 (lv_sub hl [0, 1, 2] rfl)
      · have w77328 := cv_nle (rfl : z77320.toInt = z77320.toInt) (rfl : p2.toInt = p2.toInt) c77326
        exact K48  _ _ _ _  hT hfr pf0 pf1 pf2 pf3 (lv_sub hl [0, 1, 2] rfl)
  · have w77329 := cv_ne (rfl : z77315.toInt = z77315.toInt) (by decide : (2 : Int32).toInt = 2) c77316
    refine lv_aload_n hx hb dX3_whole_11 rfl (lv_at hl 0 rfl) ?_
    refine lv_iconst (v := 1) hx hb dX3_whole_12 (by decide) ?_
    refine lv_aload_n hx hb dX3_whole_13 rfl (lv_at hl 0 rfl) ?_
    refine t_get (C := RX3) (T := TX3) (N := 13) X hT m0 g0 rfl rfl 0 (by decide) qw_73 inlX3 rfl dX3_whole_14 (fun v77330 hv77330 ov77330 => ?_)
    obtain rfl : v77330 = .ref x0 := hv77330.symm.trans pf0
    refine t_get (C := RX8) (T := TX8) (N := 8) X hT mx0 gx0 rfl rfl 4 (by decide) qw_227 inlX8 rfl dX3_whole_17 (fun v77331 hv77331 ov77331 => ?_)
    obtain ⟨z77332, rfl, rz77332⟩ := okV_i ov77331
    refine t_cVv (n := 2) (C := RX3) (T := TX3) (N := 13) (As := [.int 1, .int z77332]) (rest := []) X hT (kt207_X3_fail l G tag L F hT.2.2.2 p0 1 z77332 m0 g0) m0 g0 rfl rfl qw_287 qw_288 qw_289 qw_28 qw_290 ⟨rfl, by decide +kernel, by decide +kernel, by decide +kernel⟩ ⟨Nat.le_of_ble_eq_true rfl, Nat.le_of_ble_eq_true rfl⟩ hl rfl rfl (Nat.le_of_ble_eq_true rfl) dX3_whole_20 ⟨Nat.le_of_ble_eq_true rfl, Nat.le_of_ble_eq_true rfl⟩ (fun F H locs hT hz77333 => ?_)
    have yz77333 := hz77333
    have pf0 := (yz77333 _ 0 (Or.inr (by decide)) (Or.inr (by decide))).trans pf0
    have pf1 := (yz77333 _ 1 (Or.inr (by decide)) (Or.inr (by decide))).trans pf1
    have pf2 := (yz77333 _ 2 (Or.inr (by decide)) (Or.inr (by decide))).trans pf2
    have pf3 := (yz77333 _ 0 (Or.inr (by decide)) (Or.inr (by decide))).trans pf3
    have hv77314 := (yz77333 _ 3 (Or.inl (by rw [gx0]; decide)) (Or.inr (by decide))).trans hv77314
    have hv77331 := (yz77333 _ 4 (Or.inr (by decide)) (Or.inl (by rw [gx0]; decide))).trans hv77331
    have hfr : ∀ b j : Nat, (tag b ≠ 24 ∨ j ≠ 2) → (tag b ≠ 24 ∨ j ≠ 3) → (tag b ≠ 24 ∨ j ≠ 4) → (tag b ≠ 24 ∨ j ≠ 5) → (tag b ≠ 24 ∨ j ≠ 6) → (tag b ≠ 24 ∨ j ≠ 7) → (tag b ≠ 25 ∨ j ≠ 3) → (tag b ≠ 25 ∨ j ≠ 4) → fld F b j = fld Fo b j := fun b j n24_2 n24_3 n24_4 n24_5 n24_6 n24_7 n25_3 n25_4 => (yz77333 b j n25_3 n25_4).trans (hfr b j n24_2 n24_3 n24_4 n24_5 n24_6 n24_7 n25_3 n25_4)
    refine lv_goto (tgt := 60) hx hb dX3_whole_23 (by decide) ?_
    exact K60  _ _ _ _  hT hfr pf0 pf1 pf2 pf3 (lv_sub hl [0, 1, 2] rfl)
set_option maxHeartbeats 4000000 in
set_option maxRecDepth 100000 in
theorem kt219_X6_isFrontFree (l : Launch) (G : KG) (tag : Nat → Nat) (L : List Nat) (F : Nat → va_E) (ho : okT G ttC tag L F) (p0 : Nat) (p1 : Nat) (p2 : Int32) (p3 : Int32) (p4 : Int32) (p5 : Int32) (m0 : p0 ∈ L) (g0 : tag p0 = 18) (m1 : p1 ∈ L) (g1 : tag p1 = 19) (h2 : 0 ≤ p2.toInt ∧ p2.toInt ≤ 3) (h4 : 0 ≤ p4.toInt ∧ p4.toInt ≤ 3) : TMi l yX6_isFrontFree cX6_isFrontFree 9 (some .boolean) { frames := 2, cells := 0, slots := 0, locals := 49 } G ttC tag L F [.ref p0, .ref p1, .int p2, .int p3, .int p4, .int p5] (fun r F1 => F1 = F ∧ (0 ≤ r.toInt ∧ r.toInt ≤ 1)) := by
  refine t_bodyi (y := yX6_isFrontFree) (cd := cX6_isFrontFree) (mL := 9) (rt := (some .boolean)) (rm := { frames := 2, cells := 0, slots := 0, locals := 49 }) (av := [.ref p0, .ref p1, .int p2, .int p3, .int p4, .int p5]) (by decide) (Nat.le_of_ble_eq_true rfl) ho ?_
  intro p e s m args below meth c ls A Q hQ X hT hl
  have hx := X.1.1
  have hb := X.1.2.1
  have hl : lv_has ls 9 [(0, .ref p0), (1, .ref p1), (2, .int p2), (3, .int p3), (4, .int p4), (5, .int p5)] := hl
  have rp3 := rg_all p3
  have rp5 := rg_all p5
  refine lv_iload_n hx hb dX6_isFrontFree_0 rfl (lv_at hl 3 rfl) ?_
  refine lv_iload hx hb dX6_isFrontFree_1 (lv_at hl 4 rfl) ?_
  refine lv_iload hx hb dX6_isFrontFree_3 (lv_at hl 5 rfl) ?_
  refine t_cSi (n := 3) (As := [.int p3, .int p4, .int p5]) (rest := []) X hT (kt27_X4_doorPlace l G tag L F hT.2.2.2 p3 p4 p5 ) qw_784 qw_785 qw_409 qw_786 ⟨by decide +kernel, by decide +kernel, by decide +kernel⟩ ⟨Nat.le_of_ble_eq_true rfl, Nat.le_of_ble_eq_true rfl⟩ hl rfl rfl (Nat.le_of_ble_eq_true rfl) dX6_isFrontFree_5 ⟨Nat.le_of_ble_eq_true rfl, Nat.le_of_ble_eq_true rfl⟩ (fun z77525 F9 H locs hT hz77525 => ?_)
  obtain ⟨fz77525, hz77525⟩ := hz77525
  rw [fz77525] at hT
  refine lv_istore (lv' := [(6, .int z77525), (0, .ref p0), (1, .ref p1), (2, .int p2), (3, .int p3), (4, .int p4), (5, .int p5)]) hx hb dX6_isFrontFree_8 hl (by decide) rfl (fun ls hl => ?_)
  refine lv_aload_n hx hb dX6_isFrontFree_10 rfl (lv_at hl 1 rfl) ?_
  refine t_get (C := RX1) (T := TX1) (N := 20) X hT m0 g0 rfl rfl 11 (by decide) qw_405 inlX1 rfl dX6_isFrontFree_11 (fun v77526 hv77526 ov77526 => ?_)
  obtain ⟨b77527, rfl, mb77527, gb77527⟩ := okV_r ov77526
  have gb77527 : tag b77527 = 4 := tg_of gb77527
  refine lv_iload_n hx hb dX6_isFrontFree_14 rfl (lv_at hl 3 rfl) ?_
  refine t_ild X hT mb77527 gb77527 rfl (by omega) dX6_isFrontFree_15 (fun z77528 vz77528 rz77528 => ?_)
  have rz77528 : 0 ≤ z77528.toInt ∧ z77528.toInt ≤ 11 := rz77528
  refine lv_iload_n hx hb dX6_isFrontFree_16 rfl (lv_at hl 4 rfl) ?_
  refine lv_iload hx hb dX6_isFrontFree_17 (lv_at hl 0 rfl) ?_
  refine t_cSi (n := 2) (As := [.int p3, .int z77525]) (rest := [.int z77528]) X hT (kt43_X4_eastOf l G tag L F hT.2.2.2 p3 z77525 ) qw_407 qw_408 qw_409 qw_410 ⟨by decide +kernel, by decide +kernel, by decide +kernel⟩ ⟨Nat.le_of_ble_eq_true rfl, Nat.le_of_ble_eq_true rfl⟩ hl rfl rfl (Nat.le_of_ble_eq_true rfl) dX6_isFrontFree_19 ⟨Nat.le_of_ble_eq_true rfl, Nat.le_of_ble_eq_true rfl⟩ (fun z77529 F9 H locs hT hz77529 => ?_)
  obtain ⟨fz77529, hz77529⟩ := hz77529
  rw [fz77529] at hT
  refine lv_iadd hx hb dX6_isFrontFree_22 ?_
  refine lv_topi (fun z77530 ez77530 => ?_)
  have rz77530 := rg_all z77530
  refine t_getsN X hT X.2.2.2.1.2.1 (List.mem_of_getElem? (i := 0) rfl) dX6_isFrontFree_23 ?_
  refine lv_iload hx hb dX6_isFrontFree_26 (lv_at hl 5 rfl) ?_
  refine t_tild X hT X.2.2.2.1.2.1 (by omega) dX6_isFrontFree_28 (fun z77531 ez77531 => ?_)
  have rz77531 : (-1) ≤ z77531.toInt ∧ z77531.toInt ≤ 1 := by rw [ez77531]; exact gEast_r _
  refine lv_iadd hx hb dX6_isFrontFree_29 ?_
  refine lv_topi (fun z77532 ez77532 => ?_)
  have rz77532 := rg_all z77532
  refine lv_istore (lv' := [(7, .int z77532), (6, .int z77525), (0, .ref p0), (1, .ref p1), (2, .int p2), (3, .int p3), (4, .int p4), (5, .int p5)]) hx hb dX6_isFrontFree_30 hl (by decide) rfl (fun ls hl => ?_)
  refine lv_aload_n hx hb dX6_isFrontFree_32 rfl (lv_at hl 2 rfl) ?_
  refine t_get (C := RX1) (T := TX1) (N := 20) X hT m0 g0 rfl rfl 12 (by decide) qw_406 inlX1 rfl dX6_isFrontFree_33 (fun v77533 hv77533 ov77533 => ?_)
  obtain ⟨b77534, rfl, mb77534, gb77534⟩ := okV_r ov77533
  have gb77534 : tag b77534 = 4 := tg_of gb77534
  refine lv_iload_n hx hb dX6_isFrontFree_36 rfl (lv_at hl 4 rfl) ?_
  refine t_ild X hT mb77534 gb77534 rfl (by omega) dX6_isFrontFree_37 (fun z77535 vz77535 rz77535 => ?_)
  have rz77535 : 0 ≤ z77535.toInt ∧ z77535.toInt ≤ 11 := rz77535
  refine lv_iload_n hx hb dX6_isFrontFree_38 rfl (lv_at hl 5 rfl) ?_
  refine lv_iload hx hb dX6_isFrontFree_39 (lv_at hl 1 rfl) ?_
  refine t_cSi (n := 2) (As := [.int p3, .int z77525]) (rest := [.int z77535]) X hT (kt44_X4_southOf l G tag L F hT.2.2.2 p3 z77525 ) qw_411 qw_412 qw_409 qw_413 ⟨by decide +kernel, by decide +kernel, by decide +kernel⟩ ⟨Nat.le_of_ble_eq_true rfl, Nat.le_of_ble_eq_true rfl⟩ hl rfl rfl (Nat.le_of_ble_eq_true rfl) dX6_isFrontFree_41 ⟨Nat.le_of_ble_eq_true rfl, Nat.le_of_ble_eq_true rfl⟩ (fun z77536 F9 H locs hT hz77536 => ?_)
  obtain ⟨fz77536, hz77536⟩ := hz77536
  rw [fz77536] at hT
  refine lv_iadd hx hb dX6_isFrontFree_44 ?_
  refine lv_topi (fun z77537 ez77537 => ?_)
  have rz77537 := rg_all z77537
  refine t_getsN X hT X.2.2.2.1.2.2.1 (List.mem_of_getElem? (i := 1) rfl) dX6_isFrontFree_45 ?_
  refine lv_iload hx hb dX6_isFrontFree_48 (lv_at hl 6 rfl) ?_
  refine t_tild X hT X.2.2.2.1.2.2.1 (by omega) dX6_isFrontFree_50 (fun z77538 ez77538 => ?_)
  have rz77538 : (-1) ≤ z77538.toInt ∧ z77538.toInt ≤ 1 := by rw [ez77538]; exact gSouth_r _
  refine lv_iadd hx hb dX6_isFrontFree_51 ?_
  refine lv_topi (fun z77539 ez77539 => ?_)
  have rz77539 := rg_all z77539
  refine lv_istore (lv' := [(8, .int z77539), (7, .int z77532), (6, .int z77525), (0, .ref p0), (1, .ref p1), (2, .int p2), (3, .int p3), (4, .int p4), (5, .int p5)]) hx hb dX6_isFrontFree_52 hl (by decide) rfl (fun ls hl => ?_)
  refine lv_aload_n hx hb dX6_isFrontFree_54 rfl (lv_at hl 3 rfl) ?_
  refine lv_aload_n hx hb dX6_isFrontFree_55 rfl (lv_at hl 4 rfl) ?_
  refine lv_iload hx hb dX6_isFrontFree_56 (lv_at hl 1 rfl) ?_
  refine lv_iload hx hb dX6_isFrontFree_58 (lv_at hl 0 rfl) ?_
  refine t_cSi (n := 4) (As := [.ref p0, .ref p1, .int z77532, .int z77539]) (rest := []) X hT (kt67_X6_isFree l G tag L F hT.2.2.2 p0 p1 z77532 z77539 m0 g0 m1 g1) qw_787 qw_379 qw_380 qw_381 ⟨by decide +kernel, by decide +kernel, by decide +kernel⟩ ⟨Nat.le_of_ble_eq_true rfl, Nat.le_of_ble_eq_true rfl⟩ hl rfl rfl (Nat.le_of_ble_eq_true rfl) dX6_isFrontFree_60 ⟨Nat.le_of_ble_eq_true rfl, Nat.le_of_ble_eq_true rfl⟩ (fun z77540 F9 H locs hT hz77540 => ?_)
  obtain ⟨fz77540, hz77540⟩ := hz77540
  rw [fz77540] at hT
  exact t_zret hQ X hT (nar_z (by omega)) (⟨rfl, (by omega)⟩) (Nat.le_of_ble_eq_true rfl) (Nat.le_of_ble_eq_true rfl) dX6_isFrontFree_63
