set_option maxHeartbeats 4000000 in
set_option maxRecDepth 100000 in
theorem kt457_X3_whole (l : Launch) (G : KG) (tag : Nat → Nat) (L : List Nat) (Fo : Nat → va_E) (ho : okT G ttC tag L Fo) (p0 : Nat) (p1 : Int32) (p2 : Int32) (x0 : Nat) (x1 : Nat) (x2 : Nat) (x3 : Nat) (x4 : Nat) (x5 : Nat) (m0 : p0 ∈ L) (g0 : tag p0 = 25) (h1 : 3 ≤ p1.toInt ∧ p1.toInt ≤ 3) (h2 : 12 ≤ p2.toInt ∧ p2.toInt ≤ 12) (mx0 : x0 ∈ L) (gx0 : tag x0 = 24) (pf0 : fld Fo p0 0 = .ref x0) (mx1 : x1 ∈ L) (gx1 : tag x1 = 18) (pf1 : fld Fo p0 1 = .ref x1) (mx2 : x2 ∈ L) (gx2 : tag x2 = 19) (pf2 : fld Fo p0 2 = .ref x2) (mx3 : x3 ∈ L) (gx3 : tag x3 = 1) (pf3 : fld Fo x0 0 = .ref x3) (mx4 : x4 ∈ L) (gx4 : tag x4 = 14) (pf4 : fld Fo p0 10 = .ref x4) (mx5 : x5 ∈ L) (gx5 : tag x5 = 15) (pf5 : fld Fo p0 11 = .ref x5) : TMi l yX3_whole cX3_whole 4 (some .int) { frames := 3, cells := 0, slots := 0, locals := 62 } G ttC tag L Fo [.ref p0, .int p1, .int p2] (fun r F1 => (3 ≤ r.toInt ∧ r.toInt ≤ 12) ∧ ((∀ b j : Nat, (tag b ≠ 24 ∨ j ≠ 2) → (tag b ≠ 24 ∨ j ≠ 3) → (tag b ≠ 24 ∨ j ≠ 4) → (tag b ≠ 24 ∨ j ≠ 5) → (tag b ≠ 24 ∨ j ≠ 6) → (tag b ≠ 24 ∨ j ≠ 7) → (tag b ≠ 25 ∨ j ≠ 3) → (tag b ≠ 25 ∨ j ≠ 4) → fld F1 b j = fld Fo b j) ∧ EF tag F1 Fo)) := by
  refine t_bodyi (y := yX3_whole) (cd := cX3_whole) (mL := 4) (rt := (some .int)) (rm := { frames := 3, cells := 0, slots := 0, locals := 62 }) (av := [.ref p0, .int p1, .int p2]) (by decide) (Nat.le_of_ble_eq_true rfl) ho ?_
  intro p e s m args below meth c ls A Q hQ X hT hl
  have hx := X.1.1
  have hb := X.1.2.1
  have hl : lv_has ls 4 [(0, .ref p0), (1, .int p1), (2, .int p2)] := hl
  obtain ⟨F, hFo⟩ : ∃ F : Nat → va_E, F = Fo := ⟨_, rfl⟩
  rw [← hFo] at hT pf0 pf1 pf2 pf3 pf4 pf5
  have hfr : (∀ b j : Nat, (tag b ≠ 24 ∨ j ≠ 2) → (tag b ≠ 24 ∨ j ≠ 3) → (tag b ≠ 24 ∨ j ≠ 4) → (tag b ≠ 24 ∨ j ≠ 5) → (tag b ≠ 24 ∨ j ≠ 6) → (tag b ≠ 24 ∨ j ≠ 7) → (tag b ≠ 25 ∨ j ≠ 3) → (tag b ≠ 25 ∨ j ≠ 4) → fld F b j = fld Fo b j) ∧ EF tag F Fo := by
    rw [hFo]
    exact ⟨by intros; rfl, fun _ _ _ => rfl⟩
  refine lv_aload_n hx hb dX3_whole_0 rfl (lv_at hl 0 rfl) ?_
  refine t_get (C := RX3) (T := TX3) (N := 13) X hT m0 g0 rfl rfl 0 (by decide) qw_73 inlX3 rfl dX3_whole_1 (fun v155041 hv155041 ov155041 => ?_)
  obtain rfl : v155041 = .ref x0 := hv155041.symm.trans pf0
  refine t_get (C := RX8) (T := TX8) (N := 8) X hT mx0 gx0 rfl rfl 3 (by decide) qw_170 inlX8 rfl dX3_whole_4 (fun v155042 hv155042 ov155042 => ?_)
  obtain ⟨z155043, rfl, rz155043⟩ := okV_i ov155042
  refine lv_iconst (v := 2) hx hb dX3_whole_7 (by decide) ?_
  refine lv_icmp_eq (tgt := 26) hx hb dX3_whole_8 (by decide) (fun c155044 => ?_) (fun c155044 => ?_)
  · have w155045 := cv_eq (rfl : z155043.toInt = z155043.toInt) (by decide : (2 : Int32).toInt = 2) c155044
    refine lv_aload_n hx hb dX3_whole_26 rfl (lv_at hl 0 rfl) ?_
    refine t_get (C := RX3) (T := TX3) (N := 13) X hT m0 g0 rfl rfl 0 (by decide) qw_73 inlX3 rfl dX3_whole_27 (fun v155046 hv155046 ov155046 => ?_)
    obtain rfl : v155046 = .ref x0 := hv155046.symm.trans pf0
    refine t_get (C := RX8) (T := TX8) (N := 8) X hT mx0 gx0 rfl rfl 6 (by decide) qw_322 inlX8 rfl dX3_whole_30 (fun v155047 hv155047 ov155047 => ?_)
    obtain ⟨z155048, rfl, rz155048⟩ := okV_i ov155047
    refine lv_iload_n hx hb dX3_whole_33 rfl (lv_at hl 1 rfl) ?_
    refine lv_icmp_lt (tgt := 48) hx hb dX3_whole_34 (by decide) (fun c155049 => ?_) (fun c155049 => ?_)
    · have w155050 := cv_lt (rfl : z155048.toInt = z155048.toInt) (rfl : p1.toInt = p1.toInt) c155049
      refine lv_aload_n hx hb dX3_whole_48 rfl (lv_at hl 0 rfl) ?_
      refine lv_iconst (v := 4) hx hb dX3_whole_49 (by decide) ?_
      refine lv_aload_n hx hb dX3_whole_50 rfl (lv_at hl 0 rfl) ?_
      refine t_get (C := RX3) (T := TX3) (N := 13) X hT m0 g0 rfl rfl 0 (by decide) qw_73 inlX3 rfl dX3_whole_51 (fun v155051 hv155051 ov155051 => ?_)
      obtain rfl : v155051 = .ref x0 := hv155051.symm.trans pf0
      refine t_get (C := RX8) (T := TX8) (N := 8) X hT mx0 gx0 rfl rfl 4 (by decide) qw_227 inlX8 rfl dX3_whole_54 (fun v155052 hv155052 ov155052 => ?_)
      obtain ⟨z155053, rfl, rz155053⟩ := okV_i ov155052
      refine t_cVv (n := 2) (C := RX3) (T := TX3) (N := 13) (As := [.int 4, .int z155053]) (rest := []) X hT (kt432_X3_fail l G tag L F hT.2.2.2 p0 4 z155053 m0 g0 (by decide)) m0 g0 rfl rfl qw_287 qw_288 qw_289 qw_28 qw_290 ⟨rfl, by decide +kernel, by decide +kernel, by decide +kernel⟩ ⟨Nat.le_of_ble_eq_true rfl, Nat.le_of_ble_eq_true rfl⟩ hl rfl rfl (Nat.le_of_ble_eq_true rfl) dX3_whole_57 ⟨Nat.le_of_ble_eq_true rfl, Nat.le_of_ble_eq_true rfl⟩ (fun F H locs hT hz155054 => ?_)
      obtain ⟨yz155054, xz155054_0⟩ := hz155054
      have pf0 := (yz155054.1 _ 0 (Or.inr (by decide)) (Or.inr (by decide))).trans pf0
      have pf1 := (yz155054.1 _ 1 (Or.inr (by decide)) (Or.inr (by decide))).trans pf1
      have pf2 := (yz155054.1 _ 2 (Or.inr (by decide)) (Or.inr (by decide))).trans pf2
      have pf3 := (yz155054.1 _ 0 (Or.inr (by decide)) (Or.inr (by decide))).trans pf3
      have pf4 := (yz155054.1 _ 10 (Or.inr (by decide)) (Or.inr (by decide))).trans pf4
      have pf5 := (yz155054.1 _ 11 (Or.inr (by decide)) (Or.inr (by decide))).trans pf5
      have hv155042 := (yz155054.1 _ 3 (Or.inl (by rw [gx0]; decide)) (Or.inr (by decide))).trans hv155042
      have hv155047 := (yz155054.1 _ 6 (Or.inr (by decide)) (Or.inr (by decide))).trans hv155047
      have hv155052 := (yz155054.1 _ 4 (Or.inr (by decide)) (Or.inl (by rw [gx0]; decide))).trans hv155052
      have hfr : (∀ b j : Nat, (tag b ≠ 24 ∨ j ≠ 2) → (tag b ≠ 24 ∨ j ≠ 3) → (tag b ≠ 24 ∨ j ≠ 4) → (tag b ≠ 24 ∨ j ≠ 5) → (tag b ≠ 24 ∨ j ≠ 6) → (tag b ≠ 24 ∨ j ≠ 7) → (tag b ≠ 25 ∨ j ≠ 3) → (tag b ≠ 25 ∨ j ≠ 4) → fld F b j = fld Fo b j) ∧ EF tag F Fo := ⟨fun b j n24_2 n24_3 n24_4 n24_5 n24_6 n24_7 n25_3 n25_4 => (yz155054.1 b j n25_3 n25_4).trans (hfr.1 b j n24_2 n24_3 n24_4 n24_5 n24_6 n24_7 n25_3 n25_4), fun b j hb => (yz155054.2 b j hb).trans (hfr.2 b j hb)⟩
      obtain ⟨z155055, qz155055, rz155055⟩ := xz155054_0
      refine lv_aload_n hx hb dX3_whole_60 rfl (lv_at hl 0 rfl) ?_
      refine t_get (C := RX3) (T := TX3) (N := 13) X hT m0 g0 rfl rfl 3 (by decide) qw_163 inlX3 rfl dX3_whole_61 (fun v155056 hv155056 ov155056 => ?_)
      obtain rfl : v155056 = .int z155055 := hv155056.symm.trans qz155055
      refine lv_if_eq (tgt := 69) hx hb dX3_whole_64 (by decide) (fun c155057 => ?_) (fun c155057 => ?_)
      · have w155058 := cv_eq (rfl : z155055.toInt = z155055.toInt) (by decide : (0 : Int32).toInt = 0) c155057
        exfalso
        omega
      · have w155059 := cv_ne (rfl : z155055.toInt = z155055.toInt) (by decide : (0 : Int32).toInt = 0) c155057
        refine lv_iload_n hx hb dX3_whole_67 rfl (lv_at hl 1 rfl) ?_
        exact t_iret hQ X hT (⟨(by omega), hfr⟩) (Nat.le_of_ble_eq_true rfl) (Nat.le_of_ble_eq_true rfl) dX3_whole_68
    · have w155060 := cv_nlt (rfl : z155048.toInt = z155048.toInt) (rfl : p1.toInt = p1.toInt) c155049
      refine lv_aload_n hx hb dX3_whole_37 rfl (lv_at hl 0 rfl) ?_
      refine t_get (C := RX3) (T := TX3) (N := 13) X hT m0 g0 rfl rfl 0 (by decide) qw_73 inlX3 rfl dX3_whole_38 (fun v155061 hv155061 ov155061 => ?_)
      obtain rfl : v155061 = .ref x0 := hv155061.symm.trans pf0
      refine t_get (C := RX8) (T := TX8) (N := 8) X hT mx0 gx0 rfl rfl 6 (by decide) qw_322 inlX8 rfl dX3_whole_41 (fun v155062 hv155062 ov155062 => ?_)
      obtain rfl : v155062 = .int z155048 := hv155062.symm.trans hv155047
      refine lv_iload_n hx hb dX3_whole_44 rfl (lv_at hl 2 rfl) ?_
      refine lv_icmp_le (tgt := 60) hx hb dX3_whole_45 (by decide) (fun c155063 => ?_) (fun c155063 => ?_)
      · have w155064 := cv_le (rfl : z155048.toInt = z155048.toInt) (rfl : p2.toInt = p2.toInt) c155063
        refine lv_aload_n hx hb dX3_whole_60 rfl (lv_at hl 0 rfl) ?_
        refine t_get (C := RX3) (T := TX3) (N := 13) X hT m0 g0 rfl rfl 3 (by decide) qw_163 inlX3 rfl dX3_whole_61 (fun v155065 hv155065 ov155065 => ?_)
        obtain ⟨z155066, rfl, rz155066⟩ := okV_i ov155065
        refine lv_if_eq (tgt := 69) hx hb dX3_whole_64 (by decide) (fun c155067 => ?_) (fun c155067 => ?_)
        · have w155068 := cv_eq (rfl : z155066.toInt = z155066.toInt) (by decide : (0 : Int32).toInt = 0) c155067
          refine lv_aload_n hx hb dX3_whole_69 rfl (lv_at hl 0 rfl) ?_
          refine t_get (C := RX3) (T := TX3) (N := 13) X hT m0 g0 rfl rfl 0 (by decide) qw_73 inlX3 rfl dX3_whole_70 (fun v155069 hv155069 ov155069 => ?_)
          obtain rfl : v155069 = .ref x0 := hv155069.symm.trans pf0
          refine t_get (C := RX8) (T := TX8) (N := 8) X hT mx0 gx0 rfl rfl 6 (by decide) qw_322 inlX8 rfl dX3_whole_73 (fun v155070 hv155070 ov155070 => ?_)
          obtain rfl : v155070 = .int z155048 := hv155070.symm.trans hv155047
          refine lv_istore_n (lv' := [(3, .int z155048), (0, .ref p0), (1, .int p1), (2, .int p2)]) hx hb dX3_whole_76 rfl hl (by decide) rfl (fun ls hl => ?_)
          refine lv_aload_n hx hb dX3_whole_77 rfl (lv_at hl 1 rfl) ?_
          refine t_get (C := RX3) (T := TX3) (N := 13) X hT m0 g0 rfl rfl 0 (by decide) qw_73 inlX3 rfl dX3_whole_78 (fun v155071 hv155071 ov155071 => ?_)
          obtain rfl : v155071 = .ref x0 := hv155071.symm.trans pf0
          refine t_cVv (n := 0) (C := RX8) (T := TX8) (N := 8) (As := []) (rest := []) X hT (kt440_X8_advance l G tag L F hT.2.2.2 x0 x3 mx0 gx0 mx3 gx3 pf3) mx0 gx0 rfl rfl qw_305 qw_197 qw_198 qw_72 qw_199 ⟨rfl, by decide +kernel, by decide +kernel, by decide +kernel⟩ ⟨Nat.le_of_ble_eq_true rfl, Nat.le_of_ble_eq_true rfl⟩ hl rfl rfl (Nat.le_of_ble_eq_true rfl) dX3_whole_81 ⟨Nat.le_of_ble_eq_true rfl, Nat.le_of_ble_eq_true rfl⟩ (fun F H locs hT hz155072 => ?_)
          have yz155072 := hz155072
          have pf0 := (yz155072.1 _ 0 (Or.inr (by decide)) (Or.inr (by decide)) (Or.inr (by decide)) (Or.inr (by decide)) (Or.inr (by decide)) (Or.inr (by decide))).trans pf0
          have pf1 := (yz155072.1 _ 1 (Or.inr (by decide)) (Or.inr (by decide)) (Or.inr (by decide)) (Or.inr (by decide)) (Or.inr (by decide)) (Or.inr (by decide))).trans pf1
          have pf2 := (yz155072.1 _ 2 (Or.inl (by rw [g0]; decide)) (Or.inr (by decide)) (Or.inr (by decide)) (Or.inr (by decide)) (Or.inr (by decide)) (Or.inr (by decide))).trans pf2
          have pf3 := (yz155072.1 _ 0 (Or.inr (by decide)) (Or.inr (by decide)) (Or.inr (by decide)) (Or.inr (by decide)) (Or.inr (by decide)) (Or.inr (by decide))).trans pf3
          have pf4 := (yz155072.1 _ 10 (Or.inr (by decide)) (Or.inr (by decide)) (Or.inr (by decide)) (Or.inr (by decide)) (Or.inr (by decide)) (Or.inr (by decide))).trans pf4
          have pf5 := (yz155072.1 _ 11 (Or.inr (by decide)) (Or.inr (by decide)) (Or.inr (by decide)) (Or.inr (by decide)) (Or.inr (by decide)) (Or.inr (by decide))).trans pf5
          have hv155065 := (yz155072.1 _ 3 (Or.inr (by decide)) (Or.inl (by rw [g0]; decide)) (Or.inr (by decide)) (Or.inr (by decide)) (Or.inr (by decide)) (Or.inr (by decide))).trans hv155065
          have hfr : (∀ b j : Nat, (tag b ≠ 24 ∨ j ≠ 2) → (tag b ≠ 24 ∨ j ≠ 3) → (tag b ≠ 24 ∨ j ≠ 4) → (tag b ≠ 24 ∨ j ≠ 5) → (tag b ≠ 24 ∨ j ≠ 6) → (tag b ≠ 24 ∨ j ≠ 7) → (tag b ≠ 25 ∨ j ≠ 3) → (tag b ≠ 25 ∨ j ≠ 4) → fld F b j = fld Fo b j) ∧ EF tag F Fo := ⟨fun b j n24_2 n24_3 n24_4 n24_5 n24_6 n24_7 n25_3 n25_4 => (yz155072.1 b j n24_2 n24_3 n24_4 n24_5 n24_6 n24_7).trans (hfr.1 b j n24_2 n24_3 n24_4 n24_5 n24_6 n24_7 n25_3 n25_4), fun b j hb => (yz155072.2 b j hb).trans (hfr.2 b j hb)⟩
          refine lv_iload_n hx hb dX3_whole_84 rfl (lv_at hl 0 rfl) ?_
          exact t_iret hQ X hT (⟨(by omega), hfr⟩) (Nat.le_of_ble_eq_true rfl) (Nat.le_of_ble_eq_true rfl) dX3_whole_85
        · have w155073 := cv_ne (rfl : z155066.toInt = z155066.toInt) (by decide : (0 : Int32).toInt = 0) c155067
          refine lv_iload_n hx hb dX3_whole_67 rfl (lv_at hl 1 rfl) ?_
          exact t_iret hQ X hT (⟨(by omega), hfr⟩) (Nat.le_of_ble_eq_true rfl) (Nat.le_of_ble_eq_true rfl) dX3_whole_68
      · have w155074 := cv_nle (rfl : z155048.toInt = z155048.toInt) (rfl : p2.toInt = p2.toInt) c155063
        refine lv_aload_n hx hb dX3_whole_48 rfl (lv_at hl 0 rfl) ?_
        refine lv_iconst (v := 4) hx hb dX3_whole_49 (by decide) ?_
        refine lv_aload_n hx hb dX3_whole_50 rfl (lv_at hl 0 rfl) ?_
        refine t_get (C := RX3) (T := TX3) (N := 13) X hT m0 g0 rfl rfl 0 (by decide) qw_73 inlX3 rfl dX3_whole_51 (fun v155075 hv155075 ov155075 => ?_)
        obtain rfl : v155075 = .ref x0 := hv155075.symm.trans pf0
        refine t_get (C := RX8) (T := TX8) (N := 8) X hT mx0 gx0 rfl rfl 4 (by decide) qw_227 inlX8 rfl dX3_whole_54 (fun v155076 hv155076 ov155076 => ?_)
        obtain ⟨z155077, rfl, rz155077⟩ := okV_i ov155076
        refine t_cVv (n := 2) (C := RX3) (T := TX3) (N := 13) (As := [.int 4, .int z155077]) (rest := []) X hT (kt432_X3_fail l G tag L F hT.2.2.2 p0 4 z155077 m0 g0 (by decide)) m0 g0 rfl rfl qw_287 qw_288 qw_289 qw_28 qw_290 ⟨rfl, by decide +kernel, by decide +kernel, by decide +kernel⟩ ⟨Nat.le_of_ble_eq_true rfl, Nat.le_of_ble_eq_true rfl⟩ hl rfl rfl (Nat.le_of_ble_eq_true rfl) dX3_whole_57 ⟨Nat.le_of_ble_eq_true rfl, Nat.le_of_ble_eq_true rfl⟩ (fun F H locs hT hz155078 => ?_)
        obtain ⟨yz155078, xz155078_0⟩ := hz155078
        have pf0 := (yz155078.1 _ 0 (Or.inr (by decide)) (Or.inr (by decide))).trans pf0
        have pf1 := (yz155078.1 _ 1 (Or.inr (by decide)) (Or.inr (by decide))).trans pf1
        have pf2 := (yz155078.1 _ 2 (Or.inr (by decide)) (Or.inr (by decide))).trans pf2
        have pf3 := (yz155078.1 _ 0 (Or.inr (by decide)) (Or.inr (by decide))).trans pf3
        have pf4 := (yz155078.1 _ 10 (Or.inr (by decide)) (Or.inr (by decide))).trans pf4
        have pf5 := (yz155078.1 _ 11 (Or.inr (by decide)) (Or.inr (by decide))).trans pf5
        have hv155042 := (yz155078.1 _ 3 (Or.inl (by rw [gx0]; decide)) (Or.inr (by decide))).trans hv155042
        have hv155047 := (yz155078.1 _ 6 (Or.inr (by decide)) (Or.inr (by decide))).trans hv155047
        have hv155076 := (yz155078.1 _ 4 (Or.inr (by decide)) (Or.inl (by rw [gx0]; decide))).trans hv155076
        have hfr : (∀ b j : Nat, (tag b ≠ 24 ∨ j ≠ 2) → (tag b ≠ 24 ∨ j ≠ 3) → (tag b ≠ 24 ∨ j ≠ 4) → (tag b ≠ 24 ∨ j ≠ 5) → (tag b ≠ 24 ∨ j ≠ 6) → (tag b ≠ 24 ∨ j ≠ 7) → (tag b ≠ 25 ∨ j ≠ 3) → (tag b ≠ 25 ∨ j ≠ 4) → fld F b j = fld Fo b j) ∧ EF tag F Fo := ⟨fun b j n24_2 n24_3 n24_4 n24_5 n24_6 n24_7 n25_3 n25_4 => (yz155078.1 b j n25_3 n25_4).trans (hfr.1 b j n24_2 n24_3 n24_4 n24_5 n24_6 n24_7 n25_3 n25_4), fun b j hb => (yz155078.2 b j hb).trans (hfr.2 b j hb)⟩
        obtain ⟨z155079, qz155079, rz155079⟩ := xz155078_0
        refine lv_aload_n hx hb dX3_whole_60 rfl (lv_at hl 0 rfl) ?_
        refine t_get (C := RX3) (T := TX3) (N := 13) X hT m0 g0 rfl rfl 3 (by decide) qw_163 inlX3 rfl dX3_whole_61 (fun v155080 hv155080 ov155080 => ?_)
        obtain rfl : v155080 = .int z155079 := hv155080.symm.trans qz155079
        refine lv_if_eq (tgt := 69) hx hb dX3_whole_64 (by decide) (fun c155081 => ?_) (fun c155081 => ?_)
        · have w155082 := cv_eq (rfl : z155079.toInt = z155079.toInt) (by decide : (0 : Int32).toInt = 0) c155081
          exfalso
          omega
        · have w155083 := cv_ne (rfl : z155079.toInt = z155079.toInt) (by decide : (0 : Int32).toInt = 0) c155081
          refine lv_iload_n hx hb dX3_whole_67 rfl (lv_at hl 1 rfl) ?_
          exact t_iret hQ X hT (⟨(by omega), hfr⟩) (Nat.le_of_ble_eq_true rfl) (Nat.le_of_ble_eq_true rfl) dX3_whole_68
  · have w155084 := cv_ne (rfl : z155043.toInt = z155043.toInt) (by decide : (2 : Int32).toInt = 2) c155044
    refine lv_aload_n hx hb dX3_whole_11 rfl (lv_at hl 0 rfl) ?_
    refine lv_iconst (v := 1) hx hb dX3_whole_12 (by decide) ?_
    refine lv_aload_n hx hb dX3_whole_13 rfl (lv_at hl 0 rfl) ?_
    refine t_get (C := RX3) (T := TX3) (N := 13) X hT m0 g0 rfl rfl 0 (by decide) qw_73 inlX3 rfl dX3_whole_14 (fun v155085 hv155085 ov155085 => ?_)
    obtain rfl : v155085 = .ref x0 := hv155085.symm.trans pf0
    refine t_get (C := RX8) (T := TX8) (N := 8) X hT mx0 gx0 rfl rfl 4 (by decide) qw_227 inlX8 rfl dX3_whole_17 (fun v155086 hv155086 ov155086 => ?_)
    obtain ⟨z155087, rfl, rz155087⟩ := okV_i ov155086
    refine t_cVv (n := 2) (C := RX3) (T := TX3) (N := 13) (As := [.int 1, .int z155087]) (rest := []) X hT (kt432_X3_fail l G tag L F hT.2.2.2 p0 1 z155087 m0 g0 (by decide)) m0 g0 rfl rfl qw_287 qw_288 qw_289 qw_28 qw_290 ⟨rfl, by decide +kernel, by decide +kernel, by decide +kernel⟩ ⟨Nat.le_of_ble_eq_true rfl, Nat.le_of_ble_eq_true rfl⟩ hl rfl rfl (Nat.le_of_ble_eq_true rfl) dX3_whole_20 ⟨Nat.le_of_ble_eq_true rfl, Nat.le_of_ble_eq_true rfl⟩ (fun F H locs hT hz155088 => ?_)
    obtain ⟨yz155088, xz155088_0⟩ := hz155088
    have pf0 := (yz155088.1 _ 0 (Or.inr (by decide)) (Or.inr (by decide))).trans pf0
    have pf1 := (yz155088.1 _ 1 (Or.inr (by decide)) (Or.inr (by decide))).trans pf1
    have pf2 := (yz155088.1 _ 2 (Or.inr (by decide)) (Or.inr (by decide))).trans pf2
    have pf3 := (yz155088.1 _ 0 (Or.inr (by decide)) (Or.inr (by decide))).trans pf3
    have pf4 := (yz155088.1 _ 10 (Or.inr (by decide)) (Or.inr (by decide))).trans pf4
    have pf5 := (yz155088.1 _ 11 (Or.inr (by decide)) (Or.inr (by decide))).trans pf5
    have hv155042 := (yz155088.1 _ 3 (Or.inl (by rw [gx0]; decide)) (Or.inr (by decide))).trans hv155042
    have hv155086 := (yz155088.1 _ 4 (Or.inr (by decide)) (Or.inl (by rw [gx0]; decide))).trans hv155086
    have hfr : (∀ b j : Nat, (tag b ≠ 24 ∨ j ≠ 2) → (tag b ≠ 24 ∨ j ≠ 3) → (tag b ≠ 24 ∨ j ≠ 4) → (tag b ≠ 24 ∨ j ≠ 5) → (tag b ≠ 24 ∨ j ≠ 6) → (tag b ≠ 24 ∨ j ≠ 7) → (tag b ≠ 25 ∨ j ≠ 3) → (tag b ≠ 25 ∨ j ≠ 4) → fld F b j = fld Fo b j) ∧ EF tag F Fo := ⟨fun b j n24_2 n24_3 n24_4 n24_5 n24_6 n24_7 n25_3 n25_4 => (yz155088.1 b j n25_3 n25_4).trans (hfr.1 b j n24_2 n24_3 n24_4 n24_5 n24_6 n24_7 n25_3 n25_4), fun b j hb => (yz155088.2 b j hb).trans (hfr.2 b j hb)⟩
    obtain ⟨z155089, qz155089, rz155089⟩ := xz155088_0
    refine lv_goto (tgt := 60) hx hb dX3_whole_23 (by decide) ?_
    refine lv_aload_n hx hb dX3_whole_60 rfl (lv_at hl 0 rfl) ?_
    refine t_get (C := RX3) (T := TX3) (N := 13) X hT m0 g0 rfl rfl 3 (by decide) qw_163 inlX3 rfl dX3_whole_61 (fun v155090 hv155090 ov155090 => ?_)
    obtain rfl : v155090 = .int z155089 := hv155090.symm.trans qz155089
    refine lv_if_eq (tgt := 69) hx hb dX3_whole_64 (by decide) (fun c155091 => ?_) (fun c155091 => ?_)
    · have w155092 := cv_eq (rfl : z155089.toInt = z155089.toInt) (by decide : (0 : Int32).toInt = 0) c155091
      exfalso
      omega
    · have w155093 := cv_ne (rfl : z155089.toInt = z155089.toInt) (by decide : (0 : Int32).toInt = 0) c155091
      refine lv_iload_n hx hb dX3_whole_67 rfl (lv_at hl 1 rfl) ?_
      exact t_iret hQ X hT (⟨(by omega), hfr⟩) (Nat.le_of_ble_eq_true rfl) (Nat.le_of_ble_eq_true rfl) dX3_whole_68
set_option maxHeartbeats 4000000 in
set_option maxRecDepth 100000 in
theorem kt458_X3_readLand (l : Launch) (G : KG) (tag : Nat → Nat) (L : List Nat) (Fo : Nat → va_E) (ho : okT G ttC tag L Fo) (p0 : Nat) (x0 : Nat) (x1 : Nat) (x2 : Nat) (x3 : Nat) (x4 : Nat) (x5 : Nat) (m0 : p0 ∈ L) (g0 : tag p0 = 25) (mx0 : x0 ∈ L) (gx0 : tag x0 = 24) (pf0 : fld Fo p0 0 = .ref x0) (mx1 : x1 ∈ L) (gx1 : tag x1 = 18) (pf1 : fld Fo p0 1 = .ref x1) (mx2 : x2 ∈ L) (gx2 : tag x2 = 19) (pf2 : fld Fo p0 2 = .ref x2) (mx3 : x3 ∈ L) (gx3 : tag x3 = 1) (pf3 : fld Fo x0 0 = .ref x3) (mx4 : x4 ∈ L) (gx4 : tag x4 = 14) (pf4 : fld Fo p0 10 = .ref x4) (mx5 : x5 ∈ L) (gx5 : tag x5 = 15) (pf5 : fld Fo p0 11 = .ref x5) : TMv l yX3_readLand cX3_readLand 1 { frames := 6, cells := 0, slots := 0, locals := 133 } G ttC tag L Fo [.ref p0] (fun F1 => ((∀ b j : Nat, (tag b ≠ 18 ∨ j ≠ 0) → (tag b ≠ 18 ∨ j ≠ 1) → (tag b ≠ 18 ∨ j ≠ 2) → (tag b ≠ 18 ∨ j ≠ 3) → (tag b ≠ 24 ∨ j ≠ 2) → (tag b ≠ 24 ∨ j ≠ 3) → (tag b ≠ 24 ∨ j ≠ 4) → (tag b ≠ 24 ∨ j ≠ 5) → (tag b ≠ 24 ∨ j ≠ 6) → (tag b ≠ 24 ∨ j ≠ 7) → (tag b ≠ 25 ∨ j ≠ 3) → (tag b ≠ 25 ∨ j ≠ 4) → (tag b ≠ 25 ∨ j ≠ 5) → fld F1 b j = fld Fo b j) ∧ EF tag F1 Fo)) := by
  refine t_bodyv (y := yX3_readLand) (cd := cX3_readLand) (mL := 1) (rm := { frames := 6, cells := 0, slots := 0, locals := 133 }) (av := [.ref p0]) (by decide) (Nat.le_of_ble_eq_true rfl) ho ?_
  intro p e s m args below meth c ls A Q hQ X hT hl
  have hx := X.1.1
  have hb := X.1.2.1
  have hl : lv_has ls 1 [(0, .ref p0)] := hl
  obtain ⟨F, hFo⟩ : ∃ F : Nat → va_E, F = Fo := ⟨_, rfl⟩
  rw [← hFo] at hT pf0 pf1 pf2 pf3 pf4 pf5
  have hfr : (∀ b j : Nat, (tag b ≠ 18 ∨ j ≠ 0) → (tag b ≠ 18 ∨ j ≠ 1) → (tag b ≠ 18 ∨ j ≠ 2) → (tag b ≠ 18 ∨ j ≠ 3) → (tag b ≠ 24 ∨ j ≠ 2) → (tag b ≠ 24 ∨ j ≠ 3) → (tag b ≠ 24 ∨ j ≠ 4) → (tag b ≠ 24 ∨ j ≠ 5) → (tag b ≠ 24 ∨ j ≠ 6) → (tag b ≠ 24 ∨ j ≠ 7) → (tag b ≠ 25 ∨ j ≠ 3) → (tag b ≠ 25 ∨ j ≠ 4) → (tag b ≠ 25 ∨ j ≠ 5) → fld F b j = fld Fo b j) ∧ EF tag F Fo := by
    rw [hFo]
    exact ⟨by intros; rfl, fun _ _ _ => rfl⟩
  have K105 : ∀ (z155536 : Int32) (b155537 : Nat) (F : Nat → va_E) (H : Heap) (locs : List Loc) (ls : Array Slot), (0 ≤ z155536.toInt ∧ z155536.toInt ≤ 1) → (b155537 ∈ L) → (tag b155537 = 18) → TH G ttC A s tag L F H locs → ((∀ b j : Nat, (tag b ≠ 18 ∨ j ≠ 0) → (tag b ≠ 18 ∨ j ≠ 1) → (tag b ≠ 18 ∨ j ≠ 2) → (tag b ≠ 18 ∨ j ≠ 3) → (tag b ≠ 24 ∨ j ≠ 2) → (tag b ≠ 24 ∨ j ≠ 3) → (tag b ≠ 24 ∨ j ≠ 4) → (tag b ≠ 24 ∨ j ≠ 5) → (tag b ≠ 24 ∨ j ≠ 6) → (tag b ≠ 24 ∨ j ≠ 7) → (tag b ≠ 25 ∨ j ≠ 3) → (tag b ≠ 25 ∨ j ≠ 4) → (tag b ≠ 25 ∨ j ≠ 5) → fld F b j = fld Fo b j) ∧ EF tag F Fo) → fld F p0 0 = .ref x0 → fld F p0 1 = .ref x1 → fld F p0 2 = .ref x2 → fld F x0 0 = .ref x3 → fld F p0 10 = .ref x4 → fld F p0 11 = .ref x5 → lv_has ls 1 [(0, .ref p0)] → W p l e { frames := 6, cells := 0, slots := 0, locals := 133 } s m args below meth c H locs 0 0 Q (F0 m 105 ls [.int z155536, .ref b155537]) := by
    intro z155536 b155537 F H locs ls rz155536 mb155537 gb155537 hT hfr pf0 pf1 pf2 pf3 pf4 pf5 hl
    refine t_put (C := RX1) (T := TX1) (N := 20) (v := .int z155536) X hT mb155537 gb155537 rfl tyX1 tyX1_ok nmX1 rfl 3 (by decide) qw_313 inlX1 rfl (nar_z (by omega)) (fit_z (by omega)) rfl (⟨_, rfl, (show 0 ≤ (z155536 : Int32).toInt from (by omega)), (show (z155536 : Int32).toInt ≤ 1 from (by omega))⟩) dX3_readLand_105 (fun F H locs hT v155538 h1v155538 h2v155538 => ?_)
    have pf0 := (h1v155538 _ _ (Or.inr (by decide))).trans pf0
    have pf1 := (h1v155538 _ _ (Or.inr (by decide))).trans pf1
    have pf2 := (h1v155538 _ _ (Or.inr (by decide))).trans pf2
    have pf3 := (h1v155538 _ _ (Or.inr (by decide))).trans pf3
    have pf4 := (h1v155538 _ _ (Or.inr (by decide))).trans pf4
    have pf5 := (h1v155538 _ _ (Or.inr (by decide))).trans pf5
    have hfr : (∀ b j : Nat, (tag b ≠ 18 ∨ j ≠ 0) → (tag b ≠ 18 ∨ j ≠ 1) → (tag b ≠ 18 ∨ j ≠ 2) → (tag b ≠ 18 ∨ j ≠ 3) → (tag b ≠ 24 ∨ j ≠ 2) → (tag b ≠ 24 ∨ j ≠ 3) → (tag b ≠ 24 ∨ j ≠ 4) → (tag b ≠ 24 ∨ j ≠ 5) → (tag b ≠ 24 ∨ j ≠ 6) → (tag b ≠ 24 ∨ j ≠ 7) → (tag b ≠ 25 ∨ j ≠ 3) → (tag b ≠ 25 ∨ j ≠ 4) → (tag b ≠ 25 ∨ j ≠ 5) → fld F b j = fld Fo b j) ∧ EF tag F Fo := ⟨fun b j n18_0 n18_1 n18_2 n18_3 n24_2 n24_3 n24_4 n24_5 n24_6 n24_7 n25_3 n25_4 n25_5 => (h1v155538 b j (fr_ne gb155537 n18_3)).trans (hfr.1 b j n18_0 n18_1 n18_2 n18_3 n24_2 n24_3 n24_4 n24_5 n24_6 n24_7 n25_3 n25_4 n25_5), fun b j hb => (h2v155538 b j).trans (hfr.2 b j hb)⟩
    refine lv_aload_n hx hb dX3_readLand_108 rfl (lv_at hl 0 rfl) ?_
    refine lv_iconst (v := 1) hx hb dX3_readLand_109 (by decide) ?_
    refine t_put (C := RX3) (T := TX3) (N := 13) (v := .int 1) X hT m0 g0 rfl tyX3 tyX3_ok nmX3 rfl 5 (by decide) qw_165 inlX3 rfl (by first | rfl | decide) (by first | rfl | decide) rfl (⟨_, rfl, (show 0 ≤ (1 : Int32).toInt from (by decide)), (show (1 : Int32).toInt ≤ 1 from (by decide))⟩) dX3_readLand_110 (fun F H locs hT v155539 h1v155539 h2v155539 => ?_)
    have pf0 := (h1v155539 _ _ (Or.inr (by decide))).trans pf0
    have pf1 := (h1v155539 _ _ (Or.inr (by decide))).trans pf1
    have pf2 := (h1v155539 _ _ (Or.inr (by decide))).trans pf2
    have pf3 := (h1v155539 _ _ (Or.inr (by decide))).trans pf3
    have pf4 := (h1v155539 _ _ (Or.inr (by decide))).trans pf4
    have pf5 := (h1v155539 _ _ (Or.inr (by decide))).trans pf5
    have v155538 := (h1v155539 _ _ (Or.inr (by decide))).trans v155538
    have hfr : (∀ b j : Nat, (tag b ≠ 18 ∨ j ≠ 0) → (tag b ≠ 18 ∨ j ≠ 1) → (tag b ≠ 18 ∨ j ≠ 2) → (tag b ≠ 18 ∨ j ≠ 3) → (tag b ≠ 24 ∨ j ≠ 2) → (tag b ≠ 24 ∨ j ≠ 3) → (tag b ≠ 24 ∨ j ≠ 4) → (tag b ≠ 24 ∨ j ≠ 5) → (tag b ≠ 24 ∨ j ≠ 6) → (tag b ≠ 24 ∨ j ≠ 7) → (tag b ≠ 25 ∨ j ≠ 3) → (tag b ≠ 25 ∨ j ≠ 4) → (tag b ≠ 25 ∨ j ≠ 5) → fld F b j = fld Fo b j) ∧ EF tag F Fo := ⟨fun b j n18_0 n18_1 n18_2 n18_3 n24_2 n24_3 n24_4 n24_5 n24_6 n24_7 n25_3 n25_4 n25_5 => (h1v155539 b j (fr_ne g0 n25_5)).trans (hfr.1 b j n18_0 n18_1 n18_2 n18_3 n24_2 n24_3 n24_4 n24_5 n24_6 n24_7 n25_3 n25_4 n25_5), fun b j hb => (h2v155539 b j).trans (hfr.2 b j hb)⟩
    exact t_vret hQ X hT hfr (Nat.le_of_ble_eq_true rfl) (Nat.le_of_ble_eq_true rfl) dX3_readLand_113
  have K71 : ∀ (z155540 : Int32) (b155541 : Nat) (F : Nat → va_E) (H : Heap) (locs : List Loc) (ls : Array Slot), (0 ≤ z155540.toInt ∧ z155540.toInt ≤ 1) → (b155541 ∈ L) → (tag b155541 = 18) → TH G ttC A s tag L F H locs → ((∀ b j : Nat, (tag b ≠ 18 ∨ j ≠ 0) → (tag b ≠ 18 ∨ j ≠ 1) → (tag b ≠ 18 ∨ j ≠ 2) → (tag b ≠ 18 ∨ j ≠ 3) → (tag b ≠ 24 ∨ j ≠ 2) → (tag b ≠ 24 ∨ j ≠ 3) → (tag b ≠ 24 ∨ j ≠ 4) → (tag b ≠ 24 ∨ j ≠ 5) → (tag b ≠ 24 ∨ j ≠ 6) → (tag b ≠ 24 ∨ j ≠ 7) → (tag b ≠ 25 ∨ j ≠ 3) → (tag b ≠ 25 ∨ j ≠ 4) → (tag b ≠ 25 ∨ j ≠ 5) → fld F b j = fld Fo b j) ∧ EF tag F Fo) → fld F p0 0 = .ref x0 → fld F p0 1 = .ref x1 → fld F p0 2 = .ref x2 → fld F x0 0 = .ref x3 → fld F p0 10 = .ref x4 → fld F p0 11 = .ref x5 → lv_has ls 1 [(0, .ref p0)] → W p l e { frames := 6, cells := 0, slots := 0, locals := 133 } s m args below meth c H locs 0 0 Q (F0 m 71 ls [.int z155540, .ref b155541]) := by
    intro z155540 b155541 F H locs ls rz155540 mb155541 gb155541 hT hfr pf0 pf1 pf2 pf3 pf4 pf5 hl
    refine t_put (C := RX1) (T := TX1) (N := 20) (v := .int z155540) X hT mb155541 gb155541 rfl tyX1 tyX1_ok nmX1 rfl 2 (by decide) qw_312 inlX1 rfl (nar_z (by omega)) (fit_z (by omega)) rfl (⟨_, rfl, (show 0 ≤ (z155540 : Int32).toInt from (by omega)), (show (z155540 : Int32).toInt ≤ 1 from (by omega))⟩) dX3_readLand_71 (fun F H locs hT v155542 h1v155542 h2v155542 => ?_)
    have pf0 := (h1v155542 _ _ (Or.inr (by decide))).trans pf0
    have pf1 := (h1v155542 _ _ (Or.inr (by decide))).trans pf1
    have pf2 := (h1v155542 _ _ (Or.inl (tne g0 gb155541 (by decide)))).trans pf2
    have pf3 := (h1v155542 _ _ (Or.inr (by decide))).trans pf3
    have pf4 := (h1v155542 _ _ (Or.inr (by decide))).trans pf4
    have pf5 := (h1v155542 _ _ (Or.inr (by decide))).trans pf5
    have hfr : (∀ b j : Nat, (tag b ≠ 18 ∨ j ≠ 0) → (tag b ≠ 18 ∨ j ≠ 1) → (tag b ≠ 18 ∨ j ≠ 2) → (tag b ≠ 18 ∨ j ≠ 3) → (tag b ≠ 24 ∨ j ≠ 2) → (tag b ≠ 24 ∨ j ≠ 3) → (tag b ≠ 24 ∨ j ≠ 4) → (tag b ≠ 24 ∨ j ≠ 5) → (tag b ≠ 24 ∨ j ≠ 6) → (tag b ≠ 24 ∨ j ≠ 7) → (tag b ≠ 25 ∨ j ≠ 3) → (tag b ≠ 25 ∨ j ≠ 4) → (tag b ≠ 25 ∨ j ≠ 5) → fld F b j = fld Fo b j) ∧ EF tag F Fo := ⟨fun b j n18_0 n18_1 n18_2 n18_3 n24_2 n24_3 n24_4 n24_5 n24_6 n24_7 n25_3 n25_4 n25_5 => (h1v155542 b j (fr_ne gb155541 n18_2)).trans (hfr.1 b j n18_0 n18_1 n18_2 n18_3 n24_2 n24_3 n24_4 n24_5 n24_6 n24_7 n25_3 n25_4 n25_5), fun b j hb => (h2v155542 b j).trans (hfr.2 b j hb)⟩
    refine lv_aload_n hx hb dX3_readLand_74 rfl (lv_at hl 0 rfl) ?_
    refine m_ldcK X 17 rfl dX3_readLand_75 ?_
    refine t_cVv (n := 1) (C := RX3) (T := TX3) (N := 13) (As := [.ref (G.2 (100 + 17))]) (rest := []) X hT (kt450_X3_word l G tag L F hT.2.2.2 p0 17 x0 x1 x2 x3 x4 x5 m0 g0 (by decide) mx0 gx0 pf0 mx1 gx1 pf1 mx2 gx2 pf2 mx3 gx3 pf3 mx4 gx4 pf4 mx5 gx5 pf5) m0 g0 rfl rfl qw_314 qw_315 qw_316 qw_28 qw_317 ⟨rfl, by decide +kernel, by decide +kernel, by decide +kernel⟩ ⟨Nat.le_of_ble_eq_true rfl, Nat.le_of_ble_eq_true rfl⟩ hl rfl rfl (Nat.le_of_ble_eq_true rfl) dX3_readLand_77 ⟨Nat.le_of_ble_eq_true rfl, Nat.le_of_ble_eq_true rfl⟩ (fun F H locs hT hz155543 => ?_)
    have yz155543 := hz155543
    have pf0 := (yz155543.1 _ 0 (Or.inr (by decide)) (Or.inr (by decide)) (Or.inr (by decide)) (Or.inr (by decide)) (Or.inr (by decide)) (Or.inr (by decide)) (Or.inr (by decide)) (Or.inr (by decide))).trans pf0
    have pf1 := (yz155543.1 _ 1 (Or.inr (by decide)) (Or.inr (by decide)) (Or.inr (by decide)) (Or.inr (by decide)) (Or.inr (by decide)) (Or.inr (by decide)) (Or.inr (by decide)) (Or.inr (by decide))).trans pf1
    have pf2 := (yz155543.1 _ 2 (Or.inl (by rw [g0]; decide)) (Or.inr (by decide)) (Or.inr (by decide)) (Or.inr (by decide)) (Or.inr (by decide)) (Or.inr (by decide)) (Or.inr (by decide)) (Or.inr (by decide))).trans pf2
    have pf3 := (yz155543.1 _ 0 (Or.inr (by decide)) (Or.inr (by decide)) (Or.inr (by decide)) (Or.inr (by decide)) (Or.inr (by decide)) (Or.inr (by decide)) (Or.inr (by decide)) (Or.inr (by decide))).trans pf3
    have pf4 := (yz155543.1 _ 10 (Or.inr (by decide)) (Or.inr (by decide)) (Or.inr (by decide)) (Or.inr (by decide)) (Or.inr (by decide)) (Or.inr (by decide)) (Or.inr (by decide)) (Or.inr (by decide))).trans pf4
    have pf5 := (yz155543.1 _ 11 (Or.inr (by decide)) (Or.inr (by decide)) (Or.inr (by decide)) (Or.inr (by decide)) (Or.inr (by decide)) (Or.inr (by decide)) (Or.inr (by decide)) (Or.inr (by decide))).trans pf5
    have v155542 := (yz155543.1 _ 2 (Or.inl (by rw [gb155541]; decide)) (Or.inr (by decide)) (Or.inr (by decide)) (Or.inr (by decide)) (Or.inr (by decide)) (Or.inr (by decide)) (Or.inr (by decide)) (Or.inr (by decide))).trans v155542
    have hfr : (∀ b j : Nat, (tag b ≠ 18 ∨ j ≠ 0) → (tag b ≠ 18 ∨ j ≠ 1) → (tag b ≠ 18 ∨ j ≠ 2) → (tag b ≠ 18 ∨ j ≠ 3) → (tag b ≠ 24 ∨ j ≠ 2) → (tag b ≠ 24 ∨ j ≠ 3) → (tag b ≠ 24 ∨ j ≠ 4) → (tag b ≠ 24 ∨ j ≠ 5) → (tag b ≠ 24 ∨ j ≠ 6) → (tag b ≠ 24 ∨ j ≠ 7) → (tag b ≠ 25 ∨ j ≠ 3) → (tag b ≠ 25 ∨ j ≠ 4) → (tag b ≠ 25 ∨ j ≠ 5) → fld F b j = fld Fo b j) ∧ EF tag F Fo := ⟨fun b j n18_0 n18_1 n18_2 n18_3 n24_2 n24_3 n24_4 n24_5 n24_6 n24_7 n25_3 n25_4 n25_5 => (yz155543.1 b j n24_2 n24_3 n24_4 n24_5 n24_6 n24_7 n25_3 n25_4).trans (hfr.1 b j n18_0 n18_1 n18_2 n18_3 n24_2 n24_3 n24_4 n24_5 n24_6 n24_7 n25_3 n25_4 n25_5), fun b j hb => (yz155543.2 b j hb).trans (hfr.2 b j hb)⟩
    refine lv_aload_n hx hb dX3_readLand_80 rfl (lv_at hl 0 rfl) ?_
    refine t_get (C := RX3) (T := TX3) (N := 13) X hT m0 g0 rfl rfl 1 (by decide) qw_161 inlX3 rfl dX3_readLand_81 (fun v155544 hv155544 ov155544 => ?_)
    obtain rfl : v155544 = .ref x1 := hv155544.symm.trans pf1
    refine lv_aload_n hx hb dX3_readLand_84 rfl (lv_at hl 0 rfl) ?_
    refine m_ldcK X 18 rfl dX3_readLand_85 ?_
    refine m_ldcK X 19 rfl dX3_readLand_87 ?_
    refine m_ldcK X 16 rfl dX3_readLand_89 ?_
    refine m_ldcK X 16 rfl dX3_readLand_91 ?_
    refine t_cVi (n := 4) (C := RX3) (T := TX3) (N := 13) (As := [.ref (G.2 (100 + 18)), .ref (G.2 (100 + 19)), .ref (G.2 (100 + 16)), .ref (G.2 (100 + 16))]) (rest := [.ref x1]) X hT (kt441_X3_choice l G tag L F hT.2.2.2 p0 18 19 16 16 x0 x1 x2 x3 x4 x5 m0 g0 (by decide) (by decide) (by decide) (by decide) mx0 gx0 pf0 mx1 gx1 pf1 mx2 gx2 pf2 mx3 gx3 pf3 mx4 gx4 pf4 mx5 gx5 pf5) m0 g0 rfl rfl qw_323 qw_324 qw_325 qw_28 qw_326 ⟨rfl, by decide +kernel, by decide +kernel, by decide +kernel⟩ ⟨Nat.le_of_ble_eq_true rfl, Nat.le_of_ble_eq_true rfl⟩ hl rfl rfl (Nat.le_of_ble_eq_true rfl) dX3_readLand_93 ⟨Nat.le_of_ble_eq_true rfl, Nat.le_of_ble_eq_true rfl⟩ (fun z155545 F H locs hT hz155545 => ?_)
    obtain ⟨hz155545, yz155545⟩ := hz155545
    have pf0 := (yz155545.1 _ 0 (Or.inr (by decide)) (Or.inr (by decide)) (Or.inr (by decide)) (Or.inr (by decide)) (Or.inr (by decide)) (Or.inr (by decide)) (Or.inr (by decide)) (Or.inr (by decide))).trans pf0
    have pf1 := (yz155545.1 _ 1 (Or.inr (by decide)) (Or.inr (by decide)) (Or.inr (by decide)) (Or.inr (by decide)) (Or.inr (by decide)) (Or.inr (by decide)) (Or.inr (by decide)) (Or.inr (by decide))).trans pf1
    have pf2 := (yz155545.1 _ 2 (Or.inl (by rw [g0]; decide)) (Or.inr (by decide)) (Or.inr (by decide)) (Or.inr (by decide)) (Or.inr (by decide)) (Or.inr (by decide)) (Or.inr (by decide)) (Or.inr (by decide))).trans pf2
    have pf3 := (yz155545.1 _ 0 (Or.inr (by decide)) (Or.inr (by decide)) (Or.inr (by decide)) (Or.inr (by decide)) (Or.inr (by decide)) (Or.inr (by decide)) (Or.inr (by decide)) (Or.inr (by decide))).trans pf3
    have pf4 := (yz155545.1 _ 10 (Or.inr (by decide)) (Or.inr (by decide)) (Or.inr (by decide)) (Or.inr (by decide)) (Or.inr (by decide)) (Or.inr (by decide)) (Or.inr (by decide)) (Or.inr (by decide))).trans pf4
    have pf5 := (yz155545.1 _ 11 (Or.inr (by decide)) (Or.inr (by decide)) (Or.inr (by decide)) (Or.inr (by decide)) (Or.inr (by decide)) (Or.inr (by decide)) (Or.inr (by decide)) (Or.inr (by decide))).trans pf5
    have v155542 := (yz155545.1 _ 2 (Or.inl (by rw [gb155541]; decide)) (Or.inr (by decide)) (Or.inr (by decide)) (Or.inr (by decide)) (Or.inr (by decide)) (Or.inr (by decide)) (Or.inr (by decide)) (Or.inr (by decide))).trans v155542
    have hfr : (∀ b j : Nat, (tag b ≠ 18 ∨ j ≠ 0) → (tag b ≠ 18 ∨ j ≠ 1) → (tag b ≠ 18 ∨ j ≠ 2) → (tag b ≠ 18 ∨ j ≠ 3) → (tag b ≠ 24 ∨ j ≠ 2) → (tag b ≠ 24 ∨ j ≠ 3) → (tag b ≠ 24 ∨ j ≠ 4) → (tag b ≠ 24 ∨ j ≠ 5) → (tag b ≠ 24 ∨ j ≠ 6) → (tag b ≠ 24 ∨ j ≠ 7) → (tag b ≠ 25 ∨ j ≠ 3) → (tag b ≠ 25 ∨ j ≠ 4) → (tag b ≠ 25 ∨ j ≠ 5) → fld F b j = fld Fo b j) ∧ EF tag F Fo := ⟨fun b j n18_0 n18_1 n18_2 n18_3 n24_2 n24_3 n24_4 n24_5 n24_6 n24_7 n25_3 n25_4 n25_5 => (yz155545.1 b j n24_2 n24_3 n24_4 n24_5 n24_6 n24_7 n25_3 n25_4).trans (hfr.1 b j n18_0 n18_1 n18_2 n18_3 n24_2 n24_3 n24_4 n24_5 n24_6 n24_7 n25_3 n25_4 n25_5), fun b j hb => (yz155545.2 b j hb).trans (hfr.2 b j hb)⟩
    refine lv_iconst (v := 1) hx hb dX3_readLand_96 (by decide) ?_
    refine lv_icmp_ne (tgt := 104) hx hb dX3_readLand_97 (by decide) (fun c155546 => ?_) (fun c155546 => ?_)
    · have w155547 := cv_ne (rfl : z155545.toInt = z155545.toInt) (by decide : (1 : Int32).toInt = 1) c155546
      refine lv_iconst (v := 0) hx hb dX3_readLand_104 (by decide) ?_
      exact K105 0 x1 _ _ _ _ (by decide) mx1 gx1 hT hfr pf0 pf1 pf2 pf3 pf4 pf5 (lv_sub hl [0] rfl)
    · have w155548 := cv_eq (rfl : z155545.toInt = z155545.toInt) (by decide : (1 : Int32).toInt = 1) c155546
      refine lv_iconst (v := 1) hx hb dX3_readLand_100 (by decide) ?_
      refine lv_goto (tgt := 105) hx hb dX3_readLand_101 (by decide) ?_
      exact K105 1 x1 _ _ _ _ (by decide) mx1 gx1 hT hfr pf0 pf1 pf2 pf3 pf4 pf5 (lv_sub hl [0] rfl)
  refine lv_aload_n hx hb dX3_readLand_0 rfl (lv_at hl 0 rfl) ?_
  refine m_ldcK X 11 rfl dX3_readLand_1 ?_
  refine t_cVv (n := 1) (C := RX3) (T := TX3) (N := 13) (As := [.ref (G.2 (100 + 11))]) (rest := []) X hT (kt450_X3_word l G tag L F hT.2.2.2 p0 11 x0 x1 x2 x3 x4 x5 m0 g0 (by decide) mx0 gx0 pf0 mx1 gx1 pf1 mx2 gx2 pf2 mx3 gx3 pf3 mx4 gx4 pf4 mx5 gx5 pf5) m0 g0 rfl rfl qw_314 qw_315 qw_316 qw_28 qw_317 ⟨rfl, by decide +kernel, by decide +kernel, by decide +kernel⟩ ⟨Nat.le_of_ble_eq_true rfl, Nat.le_of_ble_eq_true rfl⟩ hl rfl rfl (Nat.le_of_ble_eq_true rfl) dX3_readLand_3 ⟨Nat.le_of_ble_eq_true rfl, Nat.le_of_ble_eq_true rfl⟩ (fun F H locs hT hz155549 => ?_)
  have yz155549 := hz155549
  have pf0 := (yz155549.1 _ 0 (Or.inr (by decide)) (Or.inr (by decide)) (Or.inr (by decide)) (Or.inr (by decide)) (Or.inr (by decide)) (Or.inr (by decide)) (Or.inr (by decide)) (Or.inr (by decide))).trans pf0
  have pf1 := (yz155549.1 _ 1 (Or.inr (by decide)) (Or.inr (by decide)) (Or.inr (by decide)) (Or.inr (by decide)) (Or.inr (by decide)) (Or.inr (by decide)) (Or.inr (by decide)) (Or.inr (by decide))).trans pf1
  have pf2 := (yz155549.1 _ 2 (Or.inl (by rw [g0]; decide)) (Or.inr (by decide)) (Or.inr (by decide)) (Or.inr (by decide)) (Or.inr (by decide)) (Or.inr (by decide)) (Or.inr (by decide)) (Or.inr (by decide))).trans pf2
  have pf3 := (yz155549.1 _ 0 (Or.inr (by decide)) (Or.inr (by decide)) (Or.inr (by decide)) (Or.inr (by decide)) (Or.inr (by decide)) (Or.inr (by decide)) (Or.inr (by decide)) (Or.inr (by decide))).trans pf3
  have pf4 := (yz155549.1 _ 10 (Or.inr (by decide)) (Or.inr (by decide)) (Or.inr (by decide)) (Or.inr (by decide)) (Or.inr (by decide)) (Or.inr (by decide)) (Or.inr (by decide)) (Or.inr (by decide))).trans pf4
  have pf5 := (yz155549.1 _ 11 (Or.inr (by decide)) (Or.inr (by decide)) (Or.inr (by decide)) (Or.inr (by decide)) (Or.inr (by decide)) (Or.inr (by decide)) (Or.inr (by decide)) (Or.inr (by decide))).trans pf5
  have hfr : (∀ b j : Nat, (tag b ≠ 18 ∨ j ≠ 0) → (tag b ≠ 18 ∨ j ≠ 1) → (tag b ≠ 18 ∨ j ≠ 2) → (tag b ≠ 18 ∨ j ≠ 3) → (tag b ≠ 24 ∨ j ≠ 2) → (tag b ≠ 24 ∨ j ≠ 3) → (tag b ≠ 24 ∨ j ≠ 4) → (tag b ≠ 24 ∨ j ≠ 5) → (tag b ≠ 24 ∨ j ≠ 6) → (tag b ≠ 24 ∨ j ≠ 7) → (tag b ≠ 25 ∨ j ≠ 3) → (tag b ≠ 25 ∨ j ≠ 4) → (tag b ≠ 25 ∨ j ≠ 5) → fld F b j = fld Fo b j) ∧ EF tag F Fo := ⟨fun b j n18_0 n18_1 n18_2 n18_3 n24_2 n24_3 n24_4 n24_5 n24_6 n24_7 n25_3 n25_4 n25_5 => (yz155549.1 b j n24_2 n24_3 n24_4 n24_5 n24_6 n24_7 n25_3 n25_4).trans (hfr.1 b j n18_0 n18_1 n18_2 n18_3 n24_2 n24_3 n24_4 n24_5 n24_6 n24_7 n25_3 n25_4 n25_5), fun b j hb => (yz155549.2 b j hb).trans (hfr.2 b j hb)⟩
  refine lv_aload_n hx hb dX3_readLand_6 rfl (lv_at hl 0 rfl) ?_
  refine t_get (C := RX3) (T := TX3) (N := 13) X hT m0 g0 rfl rfl 1 (by decide) qw_161 inlX3 rfl dX3_readLand_7 (fun v155550 hv155550 ov155550 => ?_)
  obtain rfl : v155550 = .ref x1 := hv155550.symm.trans pf1
  refine lv_aload_n hx hb dX3_readLand_10 rfl (lv_at hl 0 rfl) ?_
  refine lv_iconst (v := 3) hx hb dX3_readLand_11 (by decide) ?_
  refine lv_bipush (v := 12) hx hb dX3_readLand_12 (by decide) ?_
  refine t_cVi (n := 2) (C := RX3) (T := TX3) (N := 13) (As := [.int 3, .int 12]) (rest := [.ref x1]) X hT (kt457_X3_whole l G tag L F hT.2.2.2 p0 3 12 x0 x1 x2 x3 x4 x5 m0 g0 (by decide) (by decide) mx0 gx0 pf0 mx1 gx1 pf1 mx2 gx2 pf2 mx3 gx3 pf3 mx4 gx4 pf4 mx5 gx5 pf5) m0 g0 rfl rfl qw_318 qw_319 qw_320 qw_28 qw_321 ⟨rfl, by decide +kernel, by decide +kernel, by decide +kernel⟩ ⟨Nat.le_of_ble_eq_true rfl, Nat.le_of_ble_eq_true rfl⟩ hl rfl rfl (Nat.le_of_ble_eq_true rfl) dX3_readLand_14 ⟨Nat.le_of_ble_eq_true rfl, Nat.le_of_ble_eq_true rfl⟩ (fun z155551 F H locs hT hz155551 => ?_)
  obtain ⟨hz155551, yz155551⟩ := hz155551
  have pf0 := (yz155551.1 _ 0 (Or.inr (by decide)) (Or.inr (by decide)) (Or.inr (by decide)) (Or.inr (by decide)) (Or.inr (by decide)) (Or.inr (by decide)) (Or.inr (by decide)) (Or.inr (by decide))).trans pf0
  have pf1 := (yz155551.1 _ 1 (Or.inr (by decide)) (Or.inr (by decide)) (Or.inr (by decide)) (Or.inr (by decide)) (Or.inr (by decide)) (Or.inr (by decide)) (Or.inr (by decide)) (Or.inr (by decide))).trans pf1
  have pf2 := (yz155551.1 _ 2 (Or.inl (by rw [g0]; decide)) (Or.inr (by decide)) (Or.inr (by decide)) (Or.inr (by decide)) (Or.inr (by decide)) (Or.inr (by decide)) (Or.inr (by decide)) (Or.inr (by decide))).trans pf2
  have pf3 := (yz155551.1 _ 0 (Or.inr (by decide)) (Or.inr (by decide)) (Or.inr (by decide)) (Or.inr (by decide)) (Or.inr (by decide)) (Or.inr (by decide)) (Or.inr (by decide)) (Or.inr (by decide))).trans pf3
  have pf4 := (yz155551.1 _ 10 (Or.inr (by decide)) (Or.inr (by decide)) (Or.inr (by decide)) (Or.inr (by decide)) (Or.inr (by decide)) (Or.inr (by decide)) (Or.inr (by decide)) (Or.inr (by decide))).trans pf4
  have pf5 := (yz155551.1 _ 11 (Or.inr (by decide)) (Or.inr (by decide)) (Or.inr (by decide)) (Or.inr (by decide)) (Or.inr (by decide)) (Or.inr (by decide)) (Or.inr (by decide)) (Or.inr (by decide))).trans pf5
  have hfr : (∀ b j : Nat, (tag b ≠ 18 ∨ j ≠ 0) → (tag b ≠ 18 ∨ j ≠ 1) → (tag b ≠ 18 ∨ j ≠ 2) → (tag b ≠ 18 ∨ j ≠ 3) → (tag b ≠ 24 ∨ j ≠ 2) → (tag b ≠ 24 ∨ j ≠ 3) → (tag b ≠ 24 ∨ j ≠ 4) → (tag b ≠ 24 ∨ j ≠ 5) → (tag b ≠ 24 ∨ j ≠ 6) → (tag b ≠ 24 ∨ j ≠ 7) → (tag b ≠ 25 ∨ j ≠ 3) → (tag b ≠ 25 ∨ j ≠ 4) → (tag b ≠ 25 ∨ j ≠ 5) → fld F b j = fld Fo b j) ∧ EF tag F Fo := ⟨fun b j n18_0 n18_1 n18_2 n18_3 n24_2 n24_3 n24_4 n24_5 n24_6 n24_7 n25_3 n25_4 n25_5 => (yz155551.1 b j n24_2 n24_3 n24_4 n24_5 n24_6 n24_7 n25_3 n25_4).trans (hfr.1 b j n18_0 n18_1 n18_2 n18_3 n24_2 n24_3 n24_4 n24_5 n24_6 n24_7 n25_3 n25_4 n25_5), fun b j hb => (yz155551.2 b j hb).trans (hfr.2 b j hb)⟩
  refine t_put (C := RX1) (T := TX1) (N := 20) (v := .int z155551) X hT mx1 gx1 rfl tyX1 tyX1_ok nmX1 rfl 0 (by decide) qw_310 inlX1 rfl (by first | rfl | decide) (by first | rfl | decide) rfl (⟨_, rfl, (show 0 ≤ (z155551 : Int32).toInt from (by omega)), (show (z155551 : Int32).toInt ≤ 12 from (by omega))⟩) dX3_readLand_17 (fun F H locs hT v155552 h1v155552 h2v155552 => ?_)
  have pf0 := (h1v155552 _ _ (Or.inl (tne g0 gx1 (by decide)))).trans pf0
  have pf1 := (h1v155552 _ _ (Or.inr (by decide))).trans pf1
  have pf2 := (h1v155552 _ _ (Or.inr (by decide))).trans pf2
  have pf3 := (h1v155552 _ _ (Or.inl (tne gx0 gx1 (by decide)))).trans pf3
  have pf4 := (h1v155552 _ _ (Or.inr (by decide))).trans pf4
  have pf5 := (h1v155552 _ _ (Or.inr (by decide))).trans pf5
  have hfr : (∀ b j : Nat, (tag b ≠ 18 ∨ j ≠ 0) → (tag b ≠ 18 ∨ j ≠ 1) → (tag b ≠ 18 ∨ j ≠ 2) → (tag b ≠ 18 ∨ j ≠ 3) → (tag b ≠ 24 ∨ j ≠ 2) → (tag b ≠ 24 ∨ j ≠ 3) → (tag b ≠ 24 ∨ j ≠ 4) → (tag b ≠ 24 ∨ j ≠ 5) → (tag b ≠ 24 ∨ j ≠ 6) → (tag b ≠ 24 ∨ j ≠ 7) → (tag b ≠ 25 ∨ j ≠ 3) → (tag b ≠ 25 ∨ j ≠ 4) → (tag b ≠ 25 ∨ j ≠ 5) → fld F b j = fld Fo b j) ∧ EF tag F Fo := ⟨fun b j n18_0 n18_1 n18_2 n18_3 n24_2 n24_3 n24_4 n24_5 n24_6 n24_7 n25_3 n25_4 n25_5 => (h1v155552 b j (fr_ne gx1 n18_0)).trans (hfr.1 b j n18_0 n18_1 n18_2 n18_3 n24_2 n24_3 n24_4 n24_5 n24_6 n24_7 n25_3 n25_4 n25_5), fun b j hb => (h2v155552 b j).trans (hfr.2 b j hb)⟩
  refine lv_aload_n hx hb dX3_readLand_20 rfl (lv_at hl 0 rfl) ?_
  refine m_ldcK X 12 rfl dX3_readLand_21 ?_
  refine t_cVv (n := 1) (C := RX3) (T := TX3) (N := 13) (As := [.ref (G.2 (100 + 12))]) (rest := []) X hT (kt450_X3_word l G tag L F hT.2.2.2 p0 12 x0 x1 x2 x3 x4 x5 m0 g0 (by decide) mx0 gx0 pf0 mx1 gx1 pf1 mx2 gx2 pf2 mx3 gx3 pf3 mx4 gx4 pf4 mx5 gx5 pf5) m0 g0 rfl rfl qw_314 qw_315 qw_316 qw_28 qw_317 ⟨rfl, by decide +kernel, by decide +kernel, by decide +kernel⟩ ⟨Nat.le_of_ble_eq_true rfl, Nat.le_of_ble_eq_true rfl⟩ hl rfl rfl (Nat.le_of_ble_eq_true rfl) dX3_readLand_23 ⟨Nat.le_of_ble_eq_true rfl, Nat.le_of_ble_eq_true rfl⟩ (fun F H locs hT hz155553 => ?_)
  have yz155553 := hz155553
  have pf0 := (yz155553.1 _ 0 (Or.inr (by decide)) (Or.inr (by decide)) (Or.inr (by decide)) (Or.inr (by decide)) (Or.inr (by decide)) (Or.inr (by decide)) (Or.inr (by decide)) (Or.inr (by decide))).trans pf0
  have pf1 := (yz155553.1 _ 1 (Or.inr (by decide)) (Or.inr (by decide)) (Or.inr (by decide)) (Or.inr (by decide)) (Or.inr (by decide)) (Or.inr (by decide)) (Or.inr (by decide)) (Or.inr (by decide))).trans pf1
  have pf2 := (yz155553.1 _ 2 (Or.inl (by rw [g0]; decide)) (Or.inr (by decide)) (Or.inr (by decide)) (Or.inr (by decide)) (Or.inr (by decide)) (Or.inr (by decide)) (Or.inr (by decide)) (Or.inr (by decide))).trans pf2
  have pf3 := (yz155553.1 _ 0 (Or.inr (by decide)) (Or.inr (by decide)) (Or.inr (by decide)) (Or.inr (by decide)) (Or.inr (by decide)) (Or.inr (by decide)) (Or.inr (by decide)) (Or.inr (by decide))).trans pf3
  have pf4 := (yz155553.1 _ 10 (Or.inr (by decide)) (Or.inr (by decide)) (Or.inr (by decide)) (Or.inr (by decide)) (Or.inr (by decide)) (Or.inr (by decide)) (Or.inr (by decide)) (Or.inr (by decide))).trans pf4
  have pf5 := (yz155553.1 _ 11 (Or.inr (by decide)) (Or.inr (by decide)) (Or.inr (by decide)) (Or.inr (by decide)) (Or.inr (by decide)) (Or.inr (by decide)) (Or.inr (by decide)) (Or.inr (by decide))).trans pf5
  have v155552 := (yz155553.1 _ 0 (Or.inr (by decide)) (Or.inr (by decide)) (Or.inr (by decide)) (Or.inr (by decide)) (Or.inr (by decide)) (Or.inr (by decide)) (Or.inr (by decide)) (Or.inr (by decide))).trans v155552
  have hfr : (∀ b j : Nat, (tag b ≠ 18 ∨ j ≠ 0) → (tag b ≠ 18 ∨ j ≠ 1) → (tag b ≠ 18 ∨ j ≠ 2) → (tag b ≠ 18 ∨ j ≠ 3) → (tag b ≠ 24 ∨ j ≠ 2) → (tag b ≠ 24 ∨ j ≠ 3) → (tag b ≠ 24 ∨ j ≠ 4) → (tag b ≠ 24 ∨ j ≠ 5) → (tag b ≠ 24 ∨ j ≠ 6) → (tag b ≠ 24 ∨ j ≠ 7) → (tag b ≠ 25 ∨ j ≠ 3) → (tag b ≠ 25 ∨ j ≠ 4) → (tag b ≠ 25 ∨ j ≠ 5) → fld F b j = fld Fo b j) ∧ EF tag F Fo := ⟨fun b j n18_0 n18_1 n18_2 n18_3 n24_2 n24_3 n24_4 n24_5 n24_6 n24_7 n25_3 n25_4 n25_5 => (yz155553.1 b j n24_2 n24_3 n24_4 n24_5 n24_6 n24_7 n25_3 n25_4).trans (hfr.1 b j n18_0 n18_1 n18_2 n18_3 n24_2 n24_3 n24_4 n24_5 n24_6 n24_7 n25_3 n25_4 n25_5), fun b j hb => (yz155553.2 b j hb).trans (hfr.2 b j hb)⟩
  refine lv_aload_n hx hb dX3_readLand_26 rfl (lv_at hl 0 rfl) ?_
  refine t_get (C := RX3) (T := TX3) (N := 13) X hT m0 g0 rfl rfl 1 (by decide) qw_161 inlX3 rfl dX3_readLand_27 (fun v155554 hv155554 ov155554 => ?_)
  obtain rfl : v155554 = .ref x1 := hv155554.symm.trans pf1
  refine lv_aload_n hx hb dX3_readLand_30 rfl (lv_at hl 0 rfl) ?_
  refine lv_iconst (v := 3) hx hb dX3_readLand_31 (by decide) ?_
  refine lv_bipush (v := 12) hx hb dX3_readLand_32 (by decide) ?_
  refine t_cVi (n := 2) (C := RX3) (T := TX3) (N := 13) (As := [.int 3, .int 12]) (rest := [.ref x1]) X hT (kt457_X3_whole l G tag L F hT.2.2.2 p0 3 12 x0 x1 x2 x3 x4 x5 m0 g0 (by decide) (by decide) mx0 gx0 pf0 mx1 gx1 pf1 mx2 gx2 pf2 mx3 gx3 pf3 mx4 gx4 pf4 mx5 gx5 pf5) m0 g0 rfl rfl qw_318 qw_319 qw_320 qw_28 qw_321 ⟨rfl, by decide +kernel, by decide +kernel, by decide +kernel⟩ ⟨Nat.le_of_ble_eq_true rfl, Nat.le_of_ble_eq_true rfl⟩ hl rfl rfl (Nat.le_of_ble_eq_true rfl) dX3_readLand_34 ⟨Nat.le_of_ble_eq_true rfl, Nat.le_of_ble_eq_true rfl⟩ (fun z155555 F H locs hT hz155555 => ?_)
  obtain ⟨hz155555, yz155555⟩ := hz155555
  have pf0 := (yz155555.1 _ 0 (Or.inr (by decide)) (Or.inr (by decide)) (Or.inr (by decide)) (Or.inr (by decide)) (Or.inr (by decide)) (Or.inr (by decide)) (Or.inr (by decide)) (Or.inr (by decide))).trans pf0
  have pf1 := (yz155555.1 _ 1 (Or.inr (by decide)) (Or.inr (by decide)) (Or.inr (by decide)) (Or.inr (by decide)) (Or.inr (by decide)) (Or.inr (by decide)) (Or.inr (by decide)) (Or.inr (by decide))).trans pf1
  have pf2 := (yz155555.1 _ 2 (Or.inl (by rw [g0]; decide)) (Or.inr (by decide)) (Or.inr (by decide)) (Or.inr (by decide)) (Or.inr (by decide)) (Or.inr (by decide)) (Or.inr (by decide)) (Or.inr (by decide))).trans pf2
  have pf3 := (yz155555.1 _ 0 (Or.inr (by decide)) (Or.inr (by decide)) (Or.inr (by decide)) (Or.inr (by decide)) (Or.inr (by decide)) (Or.inr (by decide)) (Or.inr (by decide)) (Or.inr (by decide))).trans pf3
  have pf4 := (yz155555.1 _ 10 (Or.inr (by decide)) (Or.inr (by decide)) (Or.inr (by decide)) (Or.inr (by decide)) (Or.inr (by decide)) (Or.inr (by decide)) (Or.inr (by decide)) (Or.inr (by decide))).trans pf4
  have pf5 := (yz155555.1 _ 11 (Or.inr (by decide)) (Or.inr (by decide)) (Or.inr (by decide)) (Or.inr (by decide)) (Or.inr (by decide)) (Or.inr (by decide)) (Or.inr (by decide)) (Or.inr (by decide))).trans pf5
  have v155552 := (yz155555.1 _ 0 (Or.inr (by decide)) (Or.inr (by decide)) (Or.inr (by decide)) (Or.inr (by decide)) (Or.inr (by decide)) (Or.inr (by decide)) (Or.inr (by decide)) (Or.inr (by decide))).trans v155552
  have hfr : (∀ b j : Nat, (tag b ≠ 18 ∨ j ≠ 0) → (tag b ≠ 18 ∨ j ≠ 1) → (tag b ≠ 18 ∨ j ≠ 2) → (tag b ≠ 18 ∨ j ≠ 3) → (tag b ≠ 24 ∨ j ≠ 2) → (tag b ≠ 24 ∨ j ≠ 3) → (tag b ≠ 24 ∨ j ≠ 4) → (tag b ≠ 24 ∨ j ≠ 5) → (tag b ≠ 24 ∨ j ≠ 6) → (tag b ≠ 24 ∨ j ≠ 7) → (tag b ≠ 25 ∨ j ≠ 3) → (tag b ≠ 25 ∨ j ≠ 4) → (tag b ≠ 25 ∨ j ≠ 5) → fld F b j = fld Fo b j) ∧ EF tag F Fo := ⟨fun b j n18_0 n18_1 n18_2 n18_3 n24_2 n24_3 n24_4 n24_5 n24_6 n24_7 n25_3 n25_4 n25_5 => (yz155555.1 b j n24_2 n24_3 n24_4 n24_5 n24_6 n24_7 n25_3 n25_4).trans (hfr.1 b j n18_0 n18_1 n18_2 n18_3 n24_2 n24_3 n24_4 n24_5 n24_6 n24_7 n25_3 n25_4 n25_5), fun b j hb => (yz155555.2 b j hb).trans (hfr.2 b j hb)⟩
  refine t_put (C := RX1) (T := TX1) (N := 20) (v := .int z155555) X hT mx1 gx1 rfl tyX1 tyX1_ok nmX1 rfl 1 (by decide) qw_311 inlX1 rfl (by first | rfl | decide) (by first | rfl | decide) rfl (⟨_, rfl, (show 0 ≤ (z155555 : Int32).toInt from (by omega)), (show (z155555 : Int32).toInt ≤ 12 from (by omega))⟩) dX3_readLand_37 (fun F H locs hT v155556 h1v155556 h2v155556 => ?_)
  have pf0 := (h1v155556 _ _ (Or.inr (by decide))).trans pf0
  have pf1 := (h1v155556 _ _ (Or.inl (tne g0 gx1 (by decide)))).trans pf1
  have pf2 := (h1v155556 _ _ (Or.inr (by decide))).trans pf2
  have pf3 := (h1v155556 _ _ (Or.inr (by decide))).trans pf3
  have pf4 := (h1v155556 _ _ (Or.inr (by decide))).trans pf4
  have pf5 := (h1v155556 _ _ (Or.inr (by decide))).trans pf5
  have v155552 := (h1v155556 _ _ (Or.inr (by decide))).trans v155552
  have hfr : (∀ b j : Nat, (tag b ≠ 18 ∨ j ≠ 0) → (tag b ≠ 18 ∨ j ≠ 1) → (tag b ≠ 18 ∨ j ≠ 2) → (tag b ≠ 18 ∨ j ≠ 3) → (tag b ≠ 24 ∨ j ≠ 2) → (tag b ≠ 24 ∨ j ≠ 3) → (tag b ≠ 24 ∨ j ≠ 4) → (tag b ≠ 24 ∨ j ≠ 5) → (tag b ≠ 24 ∨ j ≠ 6) → (tag b ≠ 24 ∨ j ≠ 7) → (tag b ≠ 25 ∨ j ≠ 3) → (tag b ≠ 25 ∨ j ≠ 4) → (tag b ≠ 25 ∨ j ≠ 5) → fld F b j = fld Fo b j) ∧ EF tag F Fo := ⟨fun b j n18_0 n18_1 n18_2 n18_3 n24_2 n24_3 n24_4 n24_5 n24_6 n24_7 n25_3 n25_4 n25_5 => (h1v155556 b j (fr_ne gx1 n18_1)).trans (hfr.1 b j n18_0 n18_1 n18_2 n18_3 n24_2 n24_3 n24_4 n24_5 n24_6 n24_7 n25_3 n25_4 n25_5), fun b j hb => (h2v155556 b j).trans (hfr.2 b j hb)⟩
  refine lv_aload_n hx hb dX3_readLand_40 rfl (lv_at hl 0 rfl) ?_
  refine m_ldcK X 13 rfl dX3_readLand_41 ?_
  refine t_cVv (n := 1) (C := RX3) (T := TX3) (N := 13) (As := [.ref (G.2 (100 + 13))]) (rest := []) X hT (kt450_X3_word l G tag L F hT.2.2.2 p0 13 x0 x1 x2 x3 x4 x5 m0 g0 (by decide) mx0 gx0 pf0 mx1 gx1 pf1 mx2 gx2 pf2 mx3 gx3 pf3 mx4 gx4 pf4 mx5 gx5 pf5) m0 g0 rfl rfl qw_314 qw_315 qw_316 qw_28 qw_317 ⟨rfl, by decide +kernel, by decide +kernel, by decide +kernel⟩ ⟨Nat.le_of_ble_eq_true rfl, Nat.le_of_ble_eq_true rfl⟩ hl rfl rfl (Nat.le_of_ble_eq_true rfl) dX3_readLand_43 ⟨Nat.le_of_ble_eq_true rfl, Nat.le_of_ble_eq_true rfl⟩ (fun F H locs hT hz155557 => ?_)
  have yz155557 := hz155557
  have pf0 := (yz155557.1 _ 0 (Or.inr (by decide)) (Or.inr (by decide)) (Or.inr (by decide)) (Or.inr (by decide)) (Or.inr (by decide)) (Or.inr (by decide)) (Or.inr (by decide)) (Or.inr (by decide))).trans pf0
  have pf1 := (yz155557.1 _ 1 (Or.inr (by decide)) (Or.inr (by decide)) (Or.inr (by decide)) (Or.inr (by decide)) (Or.inr (by decide)) (Or.inr (by decide)) (Or.inr (by decide)) (Or.inr (by decide))).trans pf1
  have pf2 := (yz155557.1 _ 2 (Or.inl (by rw [g0]; decide)) (Or.inr (by decide)) (Or.inr (by decide)) (Or.inr (by decide)) (Or.inr (by decide)) (Or.inr (by decide)) (Or.inr (by decide)) (Or.inr (by decide))).trans pf2
  have pf3 := (yz155557.1 _ 0 (Or.inr (by decide)) (Or.inr (by decide)) (Or.inr (by decide)) (Or.inr (by decide)) (Or.inr (by decide)) (Or.inr (by decide)) (Or.inr (by decide)) (Or.inr (by decide))).trans pf3
  have pf4 := (yz155557.1 _ 10 (Or.inr (by decide)) (Or.inr (by decide)) (Or.inr (by decide)) (Or.inr (by decide)) (Or.inr (by decide)) (Or.inr (by decide)) (Or.inr (by decide)) (Or.inr (by decide))).trans pf4
  have pf5 := (yz155557.1 _ 11 (Or.inr (by decide)) (Or.inr (by decide)) (Or.inr (by decide)) (Or.inr (by decide)) (Or.inr (by decide)) (Or.inr (by decide)) (Or.inr (by decide)) (Or.inr (by decide))).trans pf5
  have v155552 := (yz155557.1 _ 0 (Or.inr (by decide)) (Or.inr (by decide)) (Or.inr (by decide)) (Or.inr (by decide)) (Or.inr (by decide)) (Or.inr (by decide)) (Or.inr (by decide)) (Or.inr (by decide))).trans v155552
  have v155556 := (yz155557.1 _ 1 (Or.inr (by decide)) (Or.inr (by decide)) (Or.inr (by decide)) (Or.inr (by decide)) (Or.inr (by decide)) (Or.inr (by decide)) (Or.inr (by decide)) (Or.inr (by decide))).trans v155556
  have hfr : (∀ b j : Nat, (tag b ≠ 18 ∨ j ≠ 0) → (tag b ≠ 18 ∨ j ≠ 1) → (tag b ≠ 18 ∨ j ≠ 2) → (tag b ≠ 18 ∨ j ≠ 3) → (tag b ≠ 24 ∨ j ≠ 2) → (tag b ≠ 24 ∨ j ≠ 3) → (tag b ≠ 24 ∨ j ≠ 4) → (tag b ≠ 24 ∨ j ≠ 5) → (tag b ≠ 24 ∨ j ≠ 6) → (tag b ≠ 24 ∨ j ≠ 7) → (tag b ≠ 25 ∨ j ≠ 3) → (tag b ≠ 25 ∨ j ≠ 4) → (tag b ≠ 25 ∨ j ≠ 5) → fld F b j = fld Fo b j) ∧ EF tag F Fo := ⟨fun b j n18_0 n18_1 n18_2 n18_3 n24_2 n24_3 n24_4 n24_5 n24_6 n24_7 n25_3 n25_4 n25_5 => (yz155557.1 b j n24_2 n24_3 n24_4 n24_5 n24_6 n24_7 n25_3 n25_4).trans (hfr.1 b j n18_0 n18_1 n18_2 n18_3 n24_2 n24_3 n24_4 n24_5 n24_6 n24_7 n25_3 n25_4 n25_5), fun b j hb => (yz155557.2 b j hb).trans (hfr.2 b j hb)⟩
  refine lv_aload_n hx hb dX3_readLand_46 rfl (lv_at hl 0 rfl) ?_
  refine t_get (C := RX3) (T := TX3) (N := 13) X hT m0 g0 rfl rfl 1 (by decide) qw_161 inlX3 rfl dX3_readLand_47 (fun v155558 hv155558 ov155558 => ?_)
  obtain rfl : v155558 = .ref x1 := hv155558.symm.trans pf1
  refine lv_aload_n hx hb dX3_readLand_50 rfl (lv_at hl 0 rfl) ?_
  refine m_ldcK X 14 rfl dX3_readLand_51 ?_
  refine m_ldcK X 15 rfl dX3_readLand_53 ?_
  refine m_ldcK X 16 rfl dX3_readLand_55 ?_
  refine m_ldcK X 16 rfl dX3_readLand_57 ?_
  refine t_cVi (n := 4) (C := RX3) (T := TX3) (N := 13) (As := [.ref (G.2 (100 + 14)), .ref (G.2 (100 + 15)), .ref (G.2 (100 + 16)), .ref (G.2 (100 + 16))]) (rest := [.ref x1]) X hT (kt441_X3_choice l G tag L F hT.2.2.2 p0 14 15 16 16 x0 x1 x2 x3 x4 x5 m0 g0 (by decide) (by decide) (by decide) (by decide) mx0 gx0 pf0 mx1 gx1 pf1 mx2 gx2 pf2 mx3 gx3 pf3 mx4 gx4 pf4 mx5 gx5 pf5) m0 g0 rfl rfl qw_323 qw_324 qw_325 qw_28 qw_326 ⟨rfl, by decide +kernel, by decide +kernel, by decide +kernel⟩ ⟨Nat.le_of_ble_eq_true rfl, Nat.le_of_ble_eq_true rfl⟩ hl rfl rfl (Nat.le_of_ble_eq_true rfl) dX3_readLand_59 ⟨Nat.le_of_ble_eq_true rfl, Nat.le_of_ble_eq_true rfl⟩ (fun z155559 F H locs hT hz155559 => ?_)
  obtain ⟨hz155559, yz155559⟩ := hz155559
  have pf0 := (yz155559.1 _ 0 (Or.inr (by decide)) (Or.inr (by decide)) (Or.inr (by decide)) (Or.inr (by decide)) (Or.inr (by decide)) (Or.inr (by decide)) (Or.inr (by decide)) (Or.inr (by decide))).trans pf0
  have pf1 := (yz155559.1 _ 1 (Or.inr (by decide)) (Or.inr (by decide)) (Or.inr (by decide)) (Or.inr (by decide)) (Or.inr (by decide)) (Or.inr (by decide)) (Or.inr (by decide)) (Or.inr (by decide))).trans pf1
  have pf2 := (yz155559.1 _ 2 (Or.inl (by rw [g0]; decide)) (Or.inr (by decide)) (Or.inr (by decide)) (Or.inr (by decide)) (Or.inr (by decide)) (Or.inr (by decide)) (Or.inr (by decide)) (Or.inr (by decide))).trans pf2
  have pf3 := (yz155559.1 _ 0 (Or.inr (by decide)) (Or.inr (by decide)) (Or.inr (by decide)) (Or.inr (by decide)) (Or.inr (by decide)) (Or.inr (by decide)) (Or.inr (by decide)) (Or.inr (by decide))).trans pf3
  have pf4 := (yz155559.1 _ 10 (Or.inr (by decide)) (Or.inr (by decide)) (Or.inr (by decide)) (Or.inr (by decide)) (Or.inr (by decide)) (Or.inr (by decide)) (Or.inr (by decide)) (Or.inr (by decide))).trans pf4
  have pf5 := (yz155559.1 _ 11 (Or.inr (by decide)) (Or.inr (by decide)) (Or.inr (by decide)) (Or.inr (by decide)) (Or.inr (by decide)) (Or.inr (by decide)) (Or.inr (by decide)) (Or.inr (by decide))).trans pf5
  have v155552 := (yz155559.1 _ 0 (Or.inr (by decide)) (Or.inr (by decide)) (Or.inr (by decide)) (Or.inr (by decide)) (Or.inr (by decide)) (Or.inr (by decide)) (Or.inr (by decide)) (Or.inr (by decide))).trans v155552
  have v155556 := (yz155559.1 _ 1 (Or.inr (by decide)) (Or.inr (by decide)) (Or.inr (by decide)) (Or.inr (by decide)) (Or.inr (by decide)) (Or.inr (by decide)) (Or.inr (by decide)) (Or.inr (by decide))).trans v155556
  have hfr : (∀ b j : Nat, (tag b ≠ 18 ∨ j ≠ 0) → (tag b ≠ 18 ∨ j ≠ 1) → (tag b ≠ 18 ∨ j ≠ 2) → (tag b ≠ 18 ∨ j ≠ 3) → (tag b ≠ 24 ∨ j ≠ 2) → (tag b ≠ 24 ∨ j ≠ 3) → (tag b ≠ 24 ∨ j ≠ 4) → (tag b ≠ 24 ∨ j ≠ 5) → (tag b ≠ 24 ∨ j ≠ 6) → (tag b ≠ 24 ∨ j ≠ 7) → (tag b ≠ 25 ∨ j ≠ 3) → (tag b ≠ 25 ∨ j ≠ 4) → (tag b ≠ 25 ∨ j ≠ 5) → fld F b j = fld Fo b j) ∧ EF tag F Fo := ⟨fun b j n18_0 n18_1 n18_2 n18_3 n24_2 n24_3 n24_4 n24_5 n24_6 n24_7 n25_3 n25_4 n25_5 => (yz155559.1 b j n24_2 n24_3 n24_4 n24_5 n24_6 n24_7 n25_3 n25_4).trans (hfr.1 b j n18_0 n18_1 n18_2 n18_3 n24_2 n24_3 n24_4 n24_5 n24_6 n24_7 n25_3 n25_4 n25_5), fun b j hb => (yz155559.2 b j hb).trans (hfr.2 b j hb)⟩
  refine lv_iconst (v := 1) hx hb dX3_readLand_62 (by decide) ?_
  refine lv_icmp_ne (tgt := 70) hx hb dX3_readLand_63 (by decide) (fun c155560 => ?_) (fun c155560 => ?_)
  · have w155561 := cv_ne (rfl : z155559.toInt = z155559.toInt) (by decide : (1 : Int32).toInt = 1) c155560
    refine lv_iconst (v := 0) hx hb dX3_readLand_70 (by decide) ?_
    exact K71 0 x1 _ _ _ _ (by decide) mx1 gx1 hT hfr pf0 pf1 pf2 pf3 pf4 pf5 (lv_sub hl [0] rfl)
  · have w155562 := cv_eq (rfl : z155559.toInt = z155559.toInt) (by decide : (1 : Int32).toInt = 1) c155560
    refine lv_iconst (v := 1) hx hb dX3_readLand_66 (by decide) ?_
    refine lv_goto (tgt := 71) hx hb dX3_readLand_67 (by decide) ?_
    exact K71 1 x1 _ _ _ _ (by decide) mx1 gx1 hT hfr pf0 pf1 pf2 pf3 pf4 pf5 (lv_sub hl [0] rfl)
set_option maxHeartbeats 4000000 in
set_option maxRecDepth 100000 in
theorem kt459_X3_isLineTooMany (l : Launch) (G : KG) (tag : Nat → Nat) (L : List Nat) (F : Nat → va_E) (ho : okT G ttC tag L F) (p0 : Nat) (p1 : Int32) (x0 : Nat) (x1 : Nat) (x2 : Nat) (x3 : Nat) (x4 : Nat) (x5 : Nat) (m0 : p0 ∈ L) (g0 : tag p0 = 25) (h1 : 4 ≤ p1.toInt ∧ p1.toInt ≤ 4) (mx0 : x0 ∈ L) (gx0 : tag x0 = 24) (pf0 : fld F p0 0 = .ref x0) (mx1 : x1 ∈ L) (gx1 : tag x1 = 18) (pf1 : fld F p0 1 = .ref x1) (mx2 : x2 ∈ L) (gx2 : tag x2 = 19) (pf2 : fld F p0 2 = .ref x2) (mx3 : x3 ∈ L) (gx3 : tag x3 = 1) (pf3 : fld F x0 0 = .ref x3) (mx4 : x4 ∈ L) (gx4 : tag x4 = 14) (pf4 : fld F p0 10 = .ref x4) (mx5 : x5 ∈ L) (gx5 : tag x5 = 15) (pf5 : fld F p0 11 = .ref x5) : TMi l yX3_isLineTooMany cX3_isLineTooMany 2 (some .boolean) { frames := 0, cells := 0, slots := 0, locals := 0 } G ttC tag L F [.ref p0, .int p1] (fun r F1 => F1 = F ∧ (0 ≤ r.toInt ∧ r.toInt ≤ 1) ∧ (((1 ≤ r.toInt ∧ r.toInt ≤ 1)) ∨ ((∃ z : Int32, fld F1 x1 10 = .int z ∧ 0 ≤ z.toInt ∧ z.toInt ≤ 3)))) := by
  refine t_bodyi (y := yX3_isLineTooMany) (cd := cX3_isLineTooMany) (mL := 2) (rt := (some .boolean)) (rm := { frames := 0, cells := 0, slots := 0, locals := 0 }) (av := [.ref p0, .int p1]) (by decide) (Nat.le_of_ble_eq_true rfl) ho ?_
  intro p e s m args below meth c ls A Q hQ X hT hl
  have hx := X.1.1
  have hb := X.1.2.1
  have hl : lv_has ls 2 [(0, .ref p0), (1, .int p1)] := hl
  refine lv_iload_n hx hb dX3_isLineTooMany_0 rfl (lv_at hl 1 rfl) ?_
  by_cases c155735 : p1 = 2
  · have w155736 := cv_eq (rfl : p1.toInt = p1.toInt) (by decide : (2 : Int32).toInt = 2) c155735
    exfalso
    omega
  have w155737 := cv_ne (rfl : p1.toInt = p1.toInt) (by decide : (2 : Int32).toInt = 2) c155735
  by_cases c155738 : p1 = 3
  · have w155739 := cv_eq (rfl : p1.toInt = p1.toInt) (by decide : (3 : Int32).toInt = 3) c155738
    exfalso
    omega
  have w155740 := cv_ne (rfl : p1.toInt = p1.toInt) (by decide : (3 : Int32).toInt = 3) c155738
  by_cases c155741 : p1 = 4
  · have w155742 := cv_eq (rfl : p1.toInt = p1.toInt) (by decide : (4 : Int32).toInt = 4) c155741
    refine lv_tableIn (off := 75) (tgt := 76) hx hb dX3_isLineTooMany_1 (by rw [c155741]; decide) (by rw [c155741]; decide) (by rw [c155741]; decide) (by decide) ?_
    refine lv_aload_n hx hb dX3_isLineTooMany_76 rfl (lv_at hl 0 rfl) ?_
    refine t_get (C := RX3) (T := TX3) (N := 13) X hT m0 g0 rfl rfl 1 (by decide) qw_161 inlX3 rfl dX3_isLineTooMany_77 (fun v155743 hv155743 ov155743 => ?_)
    obtain rfl : v155743 = .ref x1 := hv155743.symm.trans pf1
    refine t_get (C := RX1) (T := TX1) (N := 20) X hT mx1 gx1 rfl rfl 10 (by decide) qw_172 inlX1 rfl dX3_isLineTooMany_80 (fun v155744 hv155744 ov155744 => ?_)
    obtain ⟨z155745, rfl, rz155745⟩ := okV_i ov155744
    refine lv_iconst (v := 4) hx hb dX3_isLineTooMany_83 (by decide) ?_
    refine lv_icmp_lt (tgt := 91) hx hb dX3_isLineTooMany_84 (by decide) (fun c155746 => ?_) (fun c155746 => ?_)
    · have w155747 := cv_lt (rfl : z155745.toInt = z155745.toInt) (by decide : (4 : Int32).toInt = 4) c155746
      refine lv_iconst (v := 0) hx hb dX3_isLineTooMany_91 (by decide) ?_
      exact t_zret hQ X hT (by decide) (⟨rfl, (by decide), (Or.inr (⟨_, hv155744, (by omega), (by omega)⟩))⟩) (Nat.le_of_ble_eq_true rfl) (Nat.le_of_ble_eq_true rfl) dX3_isLineTooMany_92
    · have w155748 := cv_nlt (rfl : z155745.toInt = z155745.toInt) (by decide : (4 : Int32).toInt = 4) c155746
      refine lv_iconst (v := 1) hx hb dX3_isLineTooMany_87 (by decide) ?_
      refine lv_goto (tgt := 92) hx hb dX3_isLineTooMany_88 (by decide) ?_
      exact t_zret hQ X hT (by decide) (⟨rfl, (by decide), (Or.inl (⟨(by decide), (by decide)⟩))⟩) (Nat.le_of_ble_eq_true rfl) (Nat.le_of_ble_eq_true rfl) dX3_isLineTooMany_92
  have w155749 := cv_ne (rfl : p1.toInt = p1.toInt) (by decide : (4 : Int32).toInt = 4) c155741
  exfalso
  omega
