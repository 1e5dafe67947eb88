set_option maxHeartbeats 4000000 in
set_option maxRecDepth 100000 in
theorem kt447_X3_whole (l : Launch) (G : KG) (tag : Nat → Nat) (L : List Nat) (Fo : Nat → va_E) (ho : okT G ttC tag L Fo) (p0 : Nat) (p1 : Int32) (p2 : Int32) (x0 : Nat) (x1 : Nat) (x2 : Nat) (x3 : Nat) (x4 : Nat) (x5 : Nat) (m0 : p0 ∈ L) (g0 : tag p0 = 25) (h1 : 0 ≤ p1.toInt ∧ p1.toInt ≤ 0) (h2 : 0 ≤ p2.toInt ∧ p2.toInt ≤ 6) (mx0 : x0 ∈ L) (gx0 : tag x0 = 24) (pf0 : fld Fo p0 0 = .ref x0) (mx1 : x1 ∈ L) (gx1 : tag x1 = 18) (pf1 : fld Fo p0 1 = .ref x1) (mx2 : x2 ∈ L) (gx2 : tag x2 = 19) (pf2 : fld Fo p0 2 = .ref x2) (mx3 : x3 ∈ L) (gx3 : tag x3 = 1) (pf3 : fld Fo x0 0 = .ref x3) (mx4 : x4 ∈ L) (gx4 : tag x4 = 14) (pf4 : fld Fo p0 10 = .ref x4) (mx5 : x5 ∈ L) (gx5 : tag x5 = 15) (pf5 : fld Fo p0 11 = .ref x5) : TMi l yX3_whole cX3_whole 4 (some .int) { frames := 3, cells := 0, slots := 0, locals := 62 } G ttC tag L Fo [.ref p0, .int p1, .int p2] (fun r F1 => (0 ≤ r.toInt ∧ r.toInt ≤ 6) ∧ ((∀ b j : Nat, (tag b ≠ 24 ∨ j ≠ 2) → (tag b ≠ 24 ∨ j ≠ 3) → (tag b ≠ 24 ∨ j ≠ 4) → (tag b ≠ 24 ∨ j ≠ 5) → (tag b ≠ 24 ∨ j ≠ 6) → (tag b ≠ 24 ∨ j ≠ 7) → (tag b ≠ 25 ∨ j ≠ 3) → (tag b ≠ 25 ∨ j ≠ 4) → fld F1 b j = fld Fo b j) ∧ EF tag F1 Fo)) := by
  refine t_bodyi (y := yX3_whole) (cd := cX3_whole) (mL := 4) (rt := (some .int)) (rm := { frames := 3, cells := 0, slots := 0, locals := 62 }) (av := [.ref p0, .int p1, .int p2]) (by decide) (Nat.le_of_ble_eq_true rfl) ho ?_
  intro p e s m args below meth c ls A Q hQ X hT hl
  have hx := X.1.1
  have hb := X.1.2.1
  have hl : lv_has ls 4 [(0, .ref p0), (1, .int p1), (2, .int p2)] := hl
  obtain ⟨F, hFo⟩ : ∃ F : Nat → va_E, F = Fo := ⟨_, rfl⟩
  rw [← hFo] at hT pf0 pf1 pf2 pf3 pf4 pf5
  have hfr : (∀ b j : Nat, (tag b ≠ 24 ∨ j ≠ 2) → (tag b ≠ 24 ∨ j ≠ 3) → (tag b ≠ 24 ∨ j ≠ 4) → (tag b ≠ 24 ∨ j ≠ 5) → (tag b ≠ 24 ∨ j ≠ 6) → (tag b ≠ 24 ∨ j ≠ 7) → (tag b ≠ 25 ∨ j ≠ 3) → (tag b ≠ 25 ∨ j ≠ 4) → fld F b j = fld Fo b j) ∧ EF tag F Fo := by
    rw [hFo]
    exact ⟨by intros; rfl, fun _ _ _ => rfl⟩
  refine lv_aload_n hx hb dX3_whole_0 rfl (lv_at hl 0 rfl) ?_
  refine t_get (C := RX3) (T := TX3) (N := 13) X hT m0 g0 rfl rfl 0 (by decide) qw_73 inlX3 rfl dX3_whole_1 (fun v148063 hv148063 ov148063 => ?_)
  obtain rfl : v148063 = .ref x0 := hv148063.symm.trans pf0
  refine t_get (C := RX8) (T := TX8) (N := 8) X hT mx0 gx0 rfl rfl 3 (by decide) qw_170 inlX8 rfl dX3_whole_4 (fun v148064 hv148064 ov148064 => ?_)
  obtain ⟨z148065, rfl, rz148065⟩ := okV_i ov148064
  refine lv_iconst (v := 2) hx hb dX3_whole_7 (by decide) ?_
  refine lv_icmp_eq (tgt := 26) hx hb dX3_whole_8 (by decide) (fun c148066 => ?_) (fun c148066 => ?_)
  · have w148067 := cv_eq (rfl : z148065.toInt = z148065.toInt) (by decide : (2 : Int32).toInt = 2) c148066
    refine lv_aload_n hx hb dX3_whole_26 rfl (lv_at hl 0 rfl) ?_
    refine t_get (C := RX3) (T := TX3) (N := 13) X hT m0 g0 rfl rfl 0 (by decide) qw_73 inlX3 rfl dX3_whole_27 (fun v148068 hv148068 ov148068 => ?_)
    obtain rfl : v148068 = .ref x0 := hv148068.symm.trans pf0
    refine t_get (C := RX8) (T := TX8) (N := 8) X hT mx0 gx0 rfl rfl 6 (by decide) qw_322 inlX8 rfl dX3_whole_30 (fun v148069 hv148069 ov148069 => ?_)
    obtain ⟨z148070, rfl, rz148070⟩ := okV_i ov148069
    refine lv_iload_n hx hb dX3_whole_33 rfl (lv_at hl 1 rfl) ?_
    refine lv_icmp_lt (tgt := 48) hx hb dX3_whole_34 (by decide) (fun c148071 => ?_) (fun c148071 => ?_)
    · have w148072 := cv_lt (rfl : z148070.toInt = z148070.toInt) (rfl : p1.toInt = p1.toInt) c148071
      refine lv_aload_n hx hb dX3_whole_48 rfl (lv_at hl 0 rfl) ?_
      refine lv_iconst (v := 4) hx hb dX3_whole_49 (by decide) ?_
      refine lv_aload_n hx hb dX3_whole_50 rfl (lv_at hl 0 rfl) ?_
      refine t_get (C := RX3) (T := TX3) (N := 13) X hT m0 g0 rfl rfl 0 (by decide) qw_73 inlX3 rfl dX3_whole_51 (fun v148073 hv148073 ov148073 => ?_)
      obtain rfl : v148073 = .ref x0 := hv148073.symm.trans pf0
      refine t_get (C := RX8) (T := TX8) (N := 8) X hT mx0 gx0 rfl rfl 4 (by decide) qw_227 inlX8 rfl dX3_whole_54 (fun v148074 hv148074 ov148074 => ?_)
      obtain ⟨z148075, rfl, rz148075⟩ := okV_i ov148074
      refine t_cVv (n := 2) (C := RX3) (T := TX3) (N := 13) (As := [.int 4, .int z148075]) (rest := []) X hT (kt432_X3_fail l G tag L F hT.2.2.2 p0 4 z148075 m0 g0 (by decide)) m0 g0 rfl rfl qw_287 qw_288 qw_289 qw_28 qw_290 ⟨rfl, by decide +kernel, by decide +kernel, by decide +kernel⟩ ⟨Nat.le_of_ble_eq_true rfl, Nat.le_of_ble_eq_true rfl⟩ hl rfl rfl (Nat.le_of_ble_eq_true rfl) dX3_whole_57 ⟨Nat.le_of_ble_eq_true rfl, Nat.le_of_ble_eq_true rfl⟩ (fun F H locs hT hz148076 => ?_)
      obtain ⟨yz148076, xz148076_0⟩ := hz148076
      have pf0 := (yz148076.1 _ 0 (Or.inr (by decide)) (Or.inr (by decide))).trans pf0
      have pf1 := (yz148076.1 _ 1 (Or.inr (by decide)) (Or.inr (by decide))).trans pf1
      have pf2 := (yz148076.1 _ 2 (Or.inr (by decide)) (Or.inr (by decide))).trans pf2
      have pf3 := (yz148076.1 _ 0 (Or.inr (by decide)) (Or.inr (by decide))).trans pf3
      have pf4 := (yz148076.1 _ 10 (Or.inr (by decide)) (Or.inr (by decide))).trans pf4
      have pf5 := (yz148076.1 _ 11 (Or.inr (by decide)) (Or.inr (by decide))).trans pf5
      have hv148064 := (yz148076.1 _ 3 (Or.inl (by rw [gx0]; decide)) (Or.inr (by decide))).trans hv148064
      have hv148069 := (yz148076.1 _ 6 (Or.inr (by decide)) (Or.inr (by decide))).trans hv148069
      have hv148074 := (yz148076.1 _ 4 (Or.inr (by decide)) (Or.inl (by rw [gx0]; decide))).trans hv148074
      have hfr : (∀ b j : Nat, (tag b ≠ 24 ∨ j ≠ 2) → (tag b ≠ 24 ∨ j ≠ 3) → (tag b ≠ 24 ∨ j ≠ 4) → (tag b ≠ 24 ∨ j ≠ 5) → (tag b ≠ 24 ∨ j ≠ 6) → (tag b ≠ 24 ∨ j ≠ 7) → (tag b ≠ 25 ∨ j ≠ 3) → (tag b ≠ 25 ∨ j ≠ 4) → fld F b j = fld Fo b j) ∧ EF tag F Fo := ⟨fun b j n24_2 n24_3 n24_4 n24_5 n24_6 n24_7 n25_3 n25_4 => (yz148076.1 b j n25_3 n25_4).trans (hfr.1 b j n24_2 n24_3 n24_4 n24_5 n24_6 n24_7 n25_3 n25_4), fun b j hb => (yz148076.2 b j hb).trans (hfr.2 b j hb)⟩
      obtain ⟨z148077, qz148077, rz148077⟩ := xz148076_0
      refine lv_aload_n hx hb dX3_whole_60 rfl (lv_at hl 0 rfl) ?_
      refine t_get (C := RX3) (T := TX3) (N := 13) X hT m0 g0 rfl rfl 3 (by decide) qw_163 inlX3 rfl dX3_whole_61 (fun v148078 hv148078 ov148078 => ?_)
      obtain rfl : v148078 = .int z148077 := hv148078.symm.trans qz148077
      refine lv_if_eq (tgt := 69) hx hb dX3_whole_64 (by decide) (fun c148079 => ?_) (fun c148079 => ?_)
      · have w148080 := cv_eq (rfl : z148077.toInt = z148077.toInt) (by decide : (0 : Int32).toInt = 0) c148079
        exfalso
        omega
      · have w148081 := cv_ne (rfl : z148077.toInt = z148077.toInt) (by decide : (0 : Int32).toInt = 0) c148079
        refine lv_iload_n hx hb dX3_whole_67 rfl (lv_at hl 1 rfl) ?_
        exact t_iret hQ X hT (⟨(by omega), hfr⟩) (Nat.le_of_ble_eq_true rfl) (Nat.le_of_ble_eq_true rfl) dX3_whole_68
    · have w148082 := cv_nlt (rfl : z148070.toInt = z148070.toInt) (rfl : p1.toInt = p1.toInt) c148071
      refine lv_aload_n hx hb dX3_whole_37 rfl (lv_at hl 0 rfl) ?_
      refine t_get (C := RX3) (T := TX3) (N := 13) X hT m0 g0 rfl rfl 0 (by decide) qw_73 inlX3 rfl dX3_whole_38 (fun v148083 hv148083 ov148083 => ?_)
      obtain rfl : v148083 = .ref x0 := hv148083.symm.trans pf0
      refine t_get (C := RX8) (T := TX8) (N := 8) X hT mx0 gx0 rfl rfl 6 (by decide) qw_322 inlX8 rfl dX3_whole_41 (fun v148084 hv148084 ov148084 => ?_)
      obtain rfl : v148084 = .int z148070 := hv148084.symm.trans hv148069
      refine lv_iload_n hx hb dX3_whole_44 rfl (lv_at hl 2 rfl) ?_
      refine lv_icmp_le (tgt := 60) hx hb dX3_whole_45 (by decide) (fun c148085 => ?_) (fun c148085 => ?_)
      · have w148086 := cv_le (rfl : z148070.toInt = z148070.toInt) (rfl : p2.toInt = p2.toInt) c148085
        refine lv_aload_n hx hb dX3_whole_60 rfl (lv_at hl 0 rfl) ?_
        refine t_get (C := RX3) (T := TX3) (N := 13) X hT m0 g0 rfl rfl 3 (by decide) qw_163 inlX3 rfl dX3_whole_61 (fun v148087 hv148087 ov148087 => ?_)
        obtain ⟨z148088, rfl, rz148088⟩ := okV_i ov148087
        refine lv_if_eq (tgt := 69) hx hb dX3_whole_64 (by decide) (fun c148089 => ?_) (fun c148089 => ?_)
        · have w148090 := cv_eq (rfl : z148088.toInt = z148088.toInt) (by decide : (0 : Int32).toInt = 0) c148089
          refine lv_aload_n hx hb dX3_whole_69 rfl (lv_at hl 0 rfl) ?_
          refine t_get (C := RX3) (T := TX3) (N := 13) X hT m0 g0 rfl rfl 0 (by decide) qw_73 inlX3 rfl dX3_whole_70 (fun v148091 hv148091 ov148091 => ?_)
          obtain rfl : v148091 = .ref x0 := hv148091.symm.trans pf0
          refine t_get (C := RX8) (T := TX8) (N := 8) X hT mx0 gx0 rfl rfl 6 (by decide) qw_322 inlX8 rfl dX3_whole_73 (fun v148092 hv148092 ov148092 => ?_)
          obtain rfl : v148092 = .int z148070 := hv148092.symm.trans hv148069
          refine lv_istore_n (lv' := [(3, .int z148070), (0, .ref p0), (1, .int p1), (2, .int p2)]) hx hb dX3_whole_76 rfl hl (by decide) rfl (fun ls hl => ?_)
          refine lv_aload_n hx hb dX3_whole_77 rfl (lv_at hl 1 rfl) ?_
          refine t_get (C := RX3) (T := TX3) (N := 13) X hT m0 g0 rfl rfl 0 (by decide) qw_73 inlX3 rfl dX3_whole_78 (fun v148093 hv148093 ov148093 => ?_)
          obtain rfl : v148093 = .ref x0 := hv148093.symm.trans pf0
          refine t_cVv (n := 0) (C := RX8) (T := TX8) (N := 8) (As := []) (rest := []) X hT (kt440_X8_advance l G tag L F hT.2.2.2 x0 x3 mx0 gx0 mx3 gx3 pf3) mx0 gx0 rfl rfl qw_305 qw_197 qw_198 qw_72 qw_199 ⟨rfl, by decide +kernel, by decide +kernel, by decide +kernel⟩ ⟨Nat.le_of_ble_eq_true rfl, Nat.le_of_ble_eq_true rfl⟩ hl rfl rfl (Nat.le_of_ble_eq_true rfl) dX3_whole_81 ⟨Nat.le_of_ble_eq_true rfl, Nat.le_of_ble_eq_true rfl⟩ (fun F H locs hT hz148094 => ?_)
          have yz148094 := hz148094
          have pf0 := (yz148094.1 _ 0 (Or.inr (by decide)) (Or.inr (by decide)) (Or.inr (by decide)) (Or.inr (by decide)) (Or.inr (by decide)) (Or.inr (by decide))).trans pf0
          have pf1 := (yz148094.1 _ 1 (Or.inr (by decide)) (Or.inr (by decide)) (Or.inr (by decide)) (Or.inr (by decide)) (Or.inr (by decide)) (Or.inr (by decide))).trans pf1
          have pf2 := (yz148094.1 _ 2 (Or.inl (by rw [g0]; decide)) (Or.inr (by decide)) (Or.inr (by decide)) (Or.inr (by decide)) (Or.inr (by decide)) (Or.inr (by decide))).trans pf2
          have pf3 := (yz148094.1 _ 0 (Or.inr (by decide)) (Or.inr (by decide)) (Or.inr (by decide)) (Or.inr (by decide)) (Or.inr (by decide)) (Or.inr (by decide))).trans pf3
          have pf4 := (yz148094.1 _ 10 (Or.inr (by decide)) (Or.inr (by decide)) (Or.inr (by decide)) (Or.inr (by decide)) (Or.inr (by decide)) (Or.inr (by decide))).trans pf4
          have pf5 := (yz148094.1 _ 11 (Or.inr (by decide)) (Or.inr (by decide)) (Or.inr (by decide)) (Or.inr (by decide)) (Or.inr (by decide)) (Or.inr (by decide))).trans pf5
          have hv148087 := (yz148094.1 _ 3 (Or.inr (by decide)) (Or.inl (by rw [g0]; decide)) (Or.inr (by decide)) (Or.inr (by decide)) (Or.inr (by decide)) (Or.inr (by decide))).trans hv148087
          have hfr : (∀ b j : Nat, (tag b ≠ 24 ∨ j ≠ 2) → (tag b ≠ 24 ∨ j ≠ 3) → (tag b ≠ 24 ∨ j ≠ 4) → (tag b ≠ 24 ∨ j ≠ 5) → (tag b ≠ 24 ∨ j ≠ 6) → (tag b ≠ 24 ∨ j ≠ 7) → (tag b ≠ 25 ∨ j ≠ 3) → (tag b ≠ 25 ∨ j ≠ 4) → fld F b j = fld Fo b j) ∧ EF tag F Fo := ⟨fun b j n24_2 n24_3 n24_4 n24_5 n24_6 n24_7 n25_3 n25_4 => (yz148094.1 b j n24_2 n24_3 n24_4 n24_5 n24_6 n24_7).trans (hfr.1 b j n24_2 n24_3 n24_4 n24_5 n24_6 n24_7 n25_3 n25_4), fun b j hb => (yz148094.2 b j hb).trans (hfr.2 b j hb)⟩
          refine lv_iload_n hx hb dX3_whole_84 rfl (lv_at hl 0 rfl) ?_
          exact t_iret hQ X hT (⟨(by omega), hfr⟩) (Nat.le_of_ble_eq_true rfl) (Nat.le_of_ble_eq_true rfl) dX3_whole_85
        · have w148095 := cv_ne (rfl : z148088.toInt = z148088.toInt) (by decide : (0 : Int32).toInt = 0) c148089
          refine lv_iload_n hx hb dX3_whole_67 rfl (lv_at hl 1 rfl) ?_
          exact t_iret hQ X hT (⟨(by omega), hfr⟩) (Nat.le_of_ble_eq_true rfl) (Nat.le_of_ble_eq_true rfl) dX3_whole_68
      · have w148096 := cv_nle (rfl : z148070.toInt = z148070.toInt) (rfl : p2.toInt = p2.toInt) c148085
        refine lv_aload_n hx hb dX3_whole_48 rfl (lv_at hl 0 rfl) ?_
        refine lv_iconst (v := 4) hx hb dX3_whole_49 (by decide) ?_
        refine lv_aload_n hx hb dX3_whole_50 rfl (lv_at hl 0 rfl) ?_
        refine t_get (C := RX3) (T := TX3) (N := 13) X hT m0 g0 rfl rfl 0 (by decide) qw_73 inlX3 rfl dX3_whole_51 (fun v148097 hv148097 ov148097 => ?_)
        obtain rfl : v148097 = .ref x0 := hv148097.symm.trans pf0
        refine t_get (C := RX8) (T := TX8) (N := 8) X hT mx0 gx0 rfl rfl 4 (by decide) qw_227 inlX8 rfl dX3_whole_54 (fun v148098 hv148098 ov148098 => ?_)
        obtain ⟨z148099, rfl, rz148099⟩ := okV_i ov148098
        refine t_cVv (n := 2) (C := RX3) (T := TX3) (N := 13) (As := [.int 4, .int z148099]) (rest := []) X hT (kt432_X3_fail l G tag L F hT.2.2.2 p0 4 z148099 m0 g0 (by decide)) m0 g0 rfl rfl qw_287 qw_288 qw_289 qw_28 qw_290 ⟨rfl, by decide +kernel, by decide +kernel, by decide +kernel⟩ ⟨Nat.le_of_ble_eq_true rfl, Nat.le_of_ble_eq_true rfl⟩ hl rfl rfl (Nat.le_of_ble_eq_true rfl) dX3_whole_57 ⟨Nat.le_of_ble_eq_true rfl, Nat.le_of_ble_eq_true rfl⟩ (fun F H locs hT hz148100 => ?_)
        obtain ⟨yz148100, xz148100_0⟩ := hz148100
        have pf0 := (yz148100.1 _ 0 (Or.inr (by decide)) (Or.inr (by decide))).trans pf0
        have pf1 := (yz148100.1 _ 1 (Or.inr (by decide)) (Or.inr (by decide))).trans pf1
        have pf2 := (yz148100.1 _ 2 (Or.inr (by decide)) (Or.inr (by decide))).trans pf2
        have pf3 := (yz148100.1 _ 0 (Or.inr (by decide)) (Or.inr (by decide))).trans pf3
        have pf4 := (yz148100.1 _ 10 (Or.inr (by decide)) (Or.inr (by decide))).trans pf4
        have pf5 := (yz148100.1 _ 11 (Or.inr (by decide)) (Or.inr (by decide))).trans pf5
        have hv148064 := (yz148100.1 _ 3 (Or.inl (by rw [gx0]; decide)) (Or.inr (by decide))).trans hv148064
        have hv148069 := (yz148100.1 _ 6 (Or.inr (by decide)) (Or.inr (by decide))).trans hv148069
        have hv148098 := (yz148100.1 _ 4 (Or.inr (by decide)) (Or.inl (by rw [gx0]; decide))).trans hv148098
        have hfr : (∀ b j : Nat, (tag b ≠ 24 ∨ j ≠ 2) → (tag b ≠ 24 ∨ j ≠ 3) → (tag b ≠ 24 ∨ j ≠ 4) → (tag b ≠ 24 ∨ j ≠ 5) → (tag b ≠ 24 ∨ j ≠ 6) → (tag b ≠ 24 ∨ j ≠ 7) → (tag b ≠ 25 ∨ j ≠ 3) → (tag b ≠ 25 ∨ j ≠ 4) → fld F b j = fld Fo b j) ∧ EF tag F Fo := ⟨fun b j n24_2 n24_3 n24_4 n24_5 n24_6 n24_7 n25_3 n25_4 => (yz148100.1 b j n25_3 n25_4).trans (hfr.1 b j n24_2 n24_3 n24_4 n24_5 n24_6 n24_7 n25_3 n25_4), fun b j hb => (yz148100.2 b j hb).trans (hfr.2 b j hb)⟩
        obtain ⟨z148101, qz148101, rz148101⟩ := xz148100_0
        refine lv_aload_n hx hb dX3_whole_60 rfl (lv_at hl 0 rfl) ?_
        refine t_get (C := RX3) (T := TX3) (N := 13) X hT m0 g0 rfl rfl 3 (by decide) qw_163 inlX3 rfl dX3_whole_61 (fun v148102 hv148102 ov148102 => ?_)
        obtain rfl : v148102 = .int z148101 := hv148102.symm.trans qz148101
        refine lv_if_eq (tgt := 69) hx hb dX3_whole_64 (by decide) (fun c148103 => ?_) (fun c148103 => ?_)
        · have w148104 := cv_eq (rfl : z148101.toInt = z148101.toInt) (by decide : (0 : Int32).toInt = 0) c148103
          exfalso
          omega
        · have w148105 := cv_ne (rfl : z148101.toInt = z148101.toInt) (by decide : (0 : Int32).toInt = 0) c148103
          refine lv_iload_n hx hb dX3_whole_67 rfl (lv_at hl 1 rfl) ?_
          exact t_iret hQ X hT (⟨(by omega), hfr⟩) (Nat.le_of_ble_eq_true rfl) (Nat.le_of_ble_eq_true rfl) dX3_whole_68
  · have w148106 := cv_ne (rfl : z148065.toInt = z148065.toInt) (by decide : (2 : Int32).toInt = 2) c148066
    refine lv_aload_n hx hb dX3_whole_11 rfl (lv_at hl 0 rfl) ?_
    refine lv_iconst (v := 1) hx hb dX3_whole_12 (by decide) ?_
    refine lv_aload_n hx hb dX3_whole_13 rfl (lv_at hl 0 rfl) ?_
    refine t_get (C := RX3) (T := TX3) (N := 13) X hT m0 g0 rfl rfl 0 (by decide) qw_73 inlX3 rfl dX3_whole_14 (fun v148107 hv148107 ov148107 => ?_)
    obtain rfl : v148107 = .ref x0 := hv148107.symm.trans pf0
    refine t_get (C := RX8) (T := TX8) (N := 8) X hT mx0 gx0 rfl rfl 4 (by decide) qw_227 inlX8 rfl dX3_whole_17 (fun v148108 hv148108 ov148108 => ?_)
    obtain ⟨z148109, rfl, rz148109⟩ := okV_i ov148108
    refine t_cVv (n := 2) (C := RX3) (T := TX3) (N := 13) (As := [.int 1, .int z148109]) (rest := []) X hT (kt432_X3_fail l G tag L F hT.2.2.2 p0 1 z148109 m0 g0 (by decide)) m0 g0 rfl rfl qw_287 qw_288 qw_289 qw_28 qw_290 ⟨rfl, by decide +kernel, by decide +kernel, by decide +kernel⟩ ⟨Nat.le_of_ble_eq_true rfl, Nat.le_of_ble_eq_true rfl⟩ hl rfl rfl (Nat.le_of_ble_eq_true rfl) dX3_whole_20 ⟨Nat.le_of_ble_eq_true rfl, Nat.le_of_ble_eq_true rfl⟩ (fun F H locs hT hz148110 => ?_)
    obtain ⟨yz148110, xz148110_0⟩ := hz148110
    have pf0 := (yz148110.1 _ 0 (Or.inr (by decide)) (Or.inr (by decide))).trans pf0
    have pf1 := (yz148110.1 _ 1 (Or.inr (by decide)) (Or.inr (by decide))).trans pf1
    have pf2 := (yz148110.1 _ 2 (Or.inr (by decide)) (Or.inr (by decide))).trans pf2
    have pf3 := (yz148110.1 _ 0 (Or.inr (by decide)) (Or.inr (by decide))).trans pf3
    have pf4 := (yz148110.1 _ 10 (Or.inr (by decide)) (Or.inr (by decide))).trans pf4
    have pf5 := (yz148110.1 _ 11 (Or.inr (by decide)) (Or.inr (by decide))).trans pf5
    have hv148064 := (yz148110.1 _ 3 (Or.inl (by rw [gx0]; decide)) (Or.inr (by decide))).trans hv148064
    have hv148108 := (yz148110.1 _ 4 (Or.inr (by decide)) (Or.inl (by rw [gx0]; decide))).trans hv148108
    have hfr : (∀ b j : Nat, (tag b ≠ 24 ∨ j ≠ 2) → (tag b ≠ 24 ∨ j ≠ 3) → (tag b ≠ 24 ∨ j ≠ 4) → (tag b ≠ 24 ∨ j ≠ 5) → (tag b ≠ 24 ∨ j ≠ 6) → (tag b ≠ 24 ∨ j ≠ 7) → (tag b ≠ 25 ∨ j ≠ 3) → (tag b ≠ 25 ∨ j ≠ 4) → fld F b j = fld Fo b j) ∧ EF tag F Fo := ⟨fun b j n24_2 n24_3 n24_4 n24_5 n24_6 n24_7 n25_3 n25_4 => (yz148110.1 b j n25_3 n25_4).trans (hfr.1 b j n24_2 n24_3 n24_4 n24_5 n24_6 n24_7 n25_3 n25_4), fun b j hb => (yz148110.2 b j hb).trans (hfr.2 b j hb)⟩
    obtain ⟨z148111, qz148111, rz148111⟩ := xz148110_0
    refine lv_goto (tgt := 60) hx hb dX3_whole_23 (by decide) ?_
    refine lv_aload_n hx hb dX3_whole_60 rfl (lv_at hl 0 rfl) ?_
    refine t_get (C := RX3) (T := TX3) (N := 13) X hT m0 g0 rfl rfl 3 (by decide) qw_163 inlX3 rfl dX3_whole_61 (fun v148112 hv148112 ov148112 => ?_)
    obtain rfl : v148112 = .int z148111 := hv148112.symm.trans qz148111
    refine lv_if_eq (tgt := 69) hx hb dX3_whole_64 (by decide) (fun c148113 => ?_) (fun c148113 => ?_)
    · have w148114 := cv_eq (rfl : z148111.toInt = z148111.toInt) (by decide : (0 : Int32).toInt = 0) c148113
      exfalso
      omega
    · have w148115 := cv_ne (rfl : z148111.toInt = z148111.toInt) (by decide : (0 : Int32).toInt = 0) c148113
      refine lv_iload_n hx hb dX3_whole_67 rfl (lv_at hl 1 rfl) ?_
      exact t_iret hQ X hT (⟨(by omega), hfr⟩) (Nat.le_of_ble_eq_true rfl) (Nat.le_of_ble_eq_true rfl) dX3_whole_68
set_option maxHeartbeats 4000000 in
set_option maxRecDepth 100000 in
theorem kt448_X3_readHeir (l : Launch) (G : KG) (tag : Nat → Nat) (L : List Nat) (Fo : Nat → va_E) (ho : okT G ttC tag L Fo) (p0 : Nat) (x0 : Nat) (x1 : Nat) (x2 : Nat) (x3 : Nat) (x4 : Nat) (x5 : Nat) (m0 : p0 ∈ L) (g0 : tag p0 = 25) (mx0 : x0 ∈ L) (gx0 : tag x0 = 24) (pf0 : fld Fo p0 0 = .ref x0) (mx1 : x1 ∈ L) (gx1 : tag x1 = 18) (pf1 : fld Fo p0 1 = .ref x1) (mx2 : x2 ∈ L) (gx2 : tag x2 = 19) (pf2 : fld Fo p0 2 = .ref x2) (mx3 : x3 ∈ L) (gx3 : tag x3 = 1) (pf3 : fld Fo x0 0 = .ref x3) (mx4 : x4 ∈ L) (gx4 : tag x4 = 14) (pf4 : fld Fo p0 10 = .ref x4) (mx5 : x5 ∈ L) (gx5 : tag x5 = 15) (pf5 : fld Fo p0 11 = .ref x5) (hrel : NSR Fo x4 x5) : TMv l yX3_readHeir cX3_readHeir 4 { frames := 7, cells := 0, slots := 0, locals := 150 } G ttC tag L Fo [.ref p0] (fun F1 => (∀ b j : Nat, (tag b ≠ 18 ∨ j ≠ 14) → (tag b ≠ 24 ∨ j ≠ 2) → (tag b ≠ 24 ∨ j ≠ 3) → (tag b ≠ 24 ∨ j ≠ 4) → (tag b ≠ 24 ∨ j ≠ 5) → (tag b ≠ 24 ∨ j ≠ 6) → (tag b ≠ 24 ∨ j ≠ 7) → (tag b ≠ 25 ∨ j ≠ 3) → (tag b ≠ 25 ∨ j ≠ 4) → (tag b ≠ 25 ∨ j ≠ 12) → fld F1 b j = fld Fo b j) ∧ (NSR F1 x4 x5)) := by
  refine t_bodyv (y := yX3_readHeir) (cd := cX3_readHeir) (mL := 4) (rm := { frames := 7, cells := 0, slots := 0, locals := 150 }) (av := [.ref p0]) (by decide) (Nat.le_of_ble_eq_true rfl) ho ?_
  intro p e s m args below meth c ls A Q hQ X hT hl
  have hx := X.1.1
  have hb := X.1.2.1
  have hl : lv_has ls 4 [(0, .ref p0)] := hl
  obtain ⟨F, hFo⟩ : ∃ F : Nat → va_E, F = Fo := ⟨_, rfl⟩
  rw [← hFo] at hT pf0 pf1 pf2 pf3 pf4 pf5 hrel
  have hfr : ∀ b j : Nat, (tag b ≠ 18 ∨ j ≠ 14) → (tag b ≠ 24 ∨ j ≠ 2) → (tag b ≠ 24 ∨ j ≠ 3) → (tag b ≠ 24 ∨ j ≠ 4) → (tag b ≠ 24 ∨ j ≠ 5) → (tag b ≠ 24 ∨ j ≠ 6) → (tag b ≠ 24 ∨ j ≠ 7) → (tag b ≠ 25 ∨ j ≠ 3) → (tag b ≠ 25 ∨ j ≠ 4) → (tag b ≠ 25 ∨ j ≠ 12) → fld F b j = fld Fo b j := by
    rw [hFo]
    intros
    rfl
  refine lv_aload_n hx hb dX3_readHeir_0 rfl (lv_at hl 0 rfl) ?_
  refine t_get (C := RX3) (T := TX3) (N := 13) X hT m0 g0 rfl rfl 1 (by decide) qw_161 inlX3 rfl dX3_readHeir_1 (fun v148437 hv148437 ov148437 => ?_)
  obtain rfl : v148437 = .ref x1 := hv148437.symm.trans pf1
  refine t_get (C := RX1) (T := TX1) (N := 20) X hT mx1 gx1 rfl rfl 14 (by decide) qw_303 inlX1 rfl dX3_readHeir_4 (fun v148438 hv148438 ov148438 => ?_)
  obtain ⟨z148439, rfl, rz148439⟩ := okV_i ov148438
  refine lv_istore_n (lv' := [(1, .int z148439), (0, .ref p0)]) hx hb dX3_readHeir_7 rfl hl (by decide) rfl (fun ls hl => ?_)
  refine lv_aload_n hx hb dX3_readHeir_8 rfl (lv_at hl 1 rfl) ?_
  refine lv_bipush (v := 6) hx hb dX3_readHeir_9 (by decide) ?_
  refine lv_iload_n hx hb dX3_readHeir_11 rfl (lv_at hl 0 rfl) ?_
  refine t_cVv (n := 2) (C := RX3) (T := TX3) (N := 13) (As := [.int 6, .int z148439]) (rest := []) X hT (kt445_X3_newName l G tag L F hT.2.2.2 p0 6 z148439 x0 x1 x2 x3 x4 x5 m0 g0 (by decide) mx0 gx0 pf0 mx1 gx1 pf1 mx2 gx2 pf2 mx3 gx3 pf3 mx4 gx4 pf4 mx5 gx5 pf5 hrel) m0 g0 rfl rfl qw_356 qw_357 qw_358 qw_28 qw_359 ⟨rfl, by decide +kernel, by decide +kernel, by decide +kernel⟩ ⟨Nat.le_of_ble_eq_true rfl, Nat.le_of_ble_eq_true rfl⟩ hl rfl rfl (Nat.le_of_ble_eq_true rfl) dX3_readHeir_12 ⟨Nat.le_of_ble_eq_true rfl, Nat.le_of_ble_eq_true rfl⟩ (fun F H locs hT hz148440 => ?_)
  obtain ⟨yz148440, hrel⟩ := hz148440
  have pf0 := (yz148440 _ 0 (Or.inr (by decide)) (Or.inr (by decide)) (Or.inr (by decide)) (Or.inr (by decide)) (Or.inr (by decide)) (Or.inr (by decide)) (Or.inr (by decide)) (Or.inr (by decide)) (Or.inr (by decide))).trans pf0
  have pf1 := (yz148440 _ 1 (Or.inr (by decide)) (Or.inr (by decide)) (Or.inr (by decide)) (Or.inr (by decide)) (Or.inr (by decide)) (Or.inr (by decide)) (Or.inr (by decide)) (Or.inr (by decide)) (Or.inr (by decide))).trans pf1
  have pf2 := (yz148440 _ 2 (Or.inl (by rw [g0]; decide)) (Or.inr (by decide)) (Or.inr (by decide)) (Or.inr (by decide)) (Or.inr (by decide)) (Or.inr (by decide)) (Or.inr (by decide)) (Or.inr (by decide)) (Or.inr (by decide))).trans pf2
  have pf3 := (yz148440 _ 0 (Or.inr (by decide)) (Or.inr (by decide)) (Or.inr (by decide)) (Or.inr (by decide)) (Or.inr (by decide)) (Or.inr (by decide)) (Or.inr (by decide)) (Or.inr (by decide)) (Or.inr (by decide))).trans pf3
  have pf4 := (yz148440 _ 10 (Or.inr (by decide)) (Or.inr (by decide)) (Or.inr (by decide)) (Or.inr (by decide)) (Or.inr (by decide)) (Or.inr (by decide)) (Or.inr (by decide)) (Or.inr (by decide)) (Or.inr (by decide))).trans pf4
  have pf5 := (yz148440 _ 11 (Or.inr (by decide)) (Or.inr (by decide)) (Or.inr (by decide)) (Or.inr (by decide)) (Or.inr (by decide)) (Or.inr (by decide)) (Or.inr (by decide)) (Or.inr (by decide)) (Or.inr (by decide))).trans pf5
  have hv148438 := (yz148440 _ 14 (Or.inr (by decide)) (Or.inr (by decide)) (Or.inr (by decide)) (Or.inr (by decide)) (Or.inr (by decide)) (Or.inr (by decide)) (Or.inr (by decide)) (Or.inr (by decide)) (Or.inr (by decide))).trans hv148438
  have hfr : ∀ b j : Nat, (tag b ≠ 18 ∨ j ≠ 14) → (tag b ≠ 24 ∨ j ≠ 2) → (tag b ≠ 24 ∨ j ≠ 3) → (tag b ≠ 24 ∨ j ≠ 4) → (tag b ≠ 24 ∨ j ≠ 5) → (tag b ≠ 24 ∨ j ≠ 6) → (tag b ≠ 24 ∨ j ≠ 7) → (tag b ≠ 25 ∨ j ≠ 3) → (tag b ≠ 25 ∨ j ≠ 4) → (tag b ≠ 25 ∨ j ≠ 12) → fld F b j = fld Fo b j := fun b j n18_14 n24_2 n24_3 n24_4 n24_5 n24_6 n24_7 n25_3 n25_4 n25_12 => (yz148440 b j n24_2 n24_3 n24_4 n24_5 n24_6 n24_7 n25_3 n25_4 n25_12).trans (hfr b j n18_14 n24_2 n24_3 n24_4 n24_5 n24_6 n24_7 n25_3 n25_4 n25_12)
  refine lv_aload_n hx hb dX3_readHeir_15 rfl (lv_at hl 1 rfl) ?_
  refine lv_iconst (v := 4) hx hb dX3_readHeir_16 (by decide) ?_
  refine t_cVi (n := 1) (C := RX3) (T := TX3) (N := 13) (As := [.int 4]) (rest := []) X hT (kt446_X3_name l G tag L F hT.2.2.2 p0 4 x0 x1 x2 x3 x4 x5 m0 g0 (by decide) mx0 gx0 pf0 mx1 gx1 pf1 mx2 gx2 pf2 mx3 gx3 pf3 mx4 gx4 pf4 mx5 gx5 pf5 hrel) m0 g0 rfl rfl qw_393 qw_394 qw_395 qw_28 qw_396 ⟨rfl, by decide +kernel, by decide +kernel, by decide +kernel⟩ ⟨Nat.le_of_ble_eq_true rfl, Nat.le_of_ble_eq_true rfl⟩ hl rfl rfl (Nat.le_of_ble_eq_true rfl) dX3_readHeir_17 ⟨Nat.le_of_ble_eq_true rfl, Nat.le_of_ble_eq_true rfl⟩ (fun z148441 F H locs hT hz148441 => ?_)
  obtain ⟨hz148441, yz148441, hrel⟩ := hz148441
  have pf0 := (yz148441.1 _ 0 (Or.inr (by decide)) (Or.inr (by decide)) (Or.inr (by decide)) (Or.inr (by decide)) (Or.inr (by decide)) (Or.inr (by decide)) (Or.inr (by decide)) (Or.inr (by decide))).trans pf0
  have pf1 := (yz148441.1 _ 1 (Or.inr (by decide)) (Or.inr (by decide)) (Or.inr (by decide)) (Or.inr (by decide)) (Or.inr (by decide)) (Or.inr (by decide)) (Or.inr (by decide)) (Or.inr (by decide))).trans pf1
  have pf2 := (yz148441.1 _ 2 (Or.inl (by rw [g0]; decide)) (Or.inr (by decide)) (Or.inr (by decide)) (Or.inr (by decide)) (Or.inr (by decide)) (Or.inr (by decide)) (Or.inr (by decide)) (Or.inr (by decide))).trans pf2
  have pf3 := (yz148441.1 _ 0 (Or.inr (by decide)) (Or.inr (by decide)) (Or.inr (by decide)) (Or.inr (by decide)) (Or.inr (by decide)) (Or.inr (by decide)) (Or.inr (by decide)) (Or.inr (by decide))).trans pf3
  have pf4 := (yz148441.1 _ 10 (Or.inr (by decide)) (Or.inr (by decide)) (Or.inr (by decide)) (Or.inr (by decide)) (Or.inr (by decide)) (Or.inr (by decide)) (Or.inr (by decide)) (Or.inr (by decide))).trans pf4
  have pf5 := (yz148441.1 _ 11 (Or.inr (by decide)) (Or.inr (by decide)) (Or.inr (by decide)) (Or.inr (by decide)) (Or.inr (by decide)) (Or.inr (by decide)) (Or.inr (by decide)) (Or.inr (by decide))).trans pf5
  have hv148438 := (yz148441.1 _ 14 (Or.inr (by decide)) (Or.inr (by decide)) (Or.inr (by decide)) (Or.inr (by decide)) (Or.inr (by decide)) (Or.inr (by decide)) (Or.inr (by decide)) (Or.inr (by decide))).trans hv148438
  have hfr : ∀ b j : Nat, (tag b ≠ 18 ∨ j ≠ 14) → (tag b ≠ 24 ∨ j ≠ 2) → (tag b ≠ 24 ∨ j ≠ 3) → (tag b ≠ 24 ∨ j ≠ 4) → (tag b ≠ 24 ∨ j ≠ 5) → (tag b ≠ 24 ∨ j ≠ 6) → (tag b ≠ 24 ∨ j ≠ 7) → (tag b ≠ 25 ∨ j ≠ 3) → (tag b ≠ 25 ∨ j ≠ 4) → (tag b ≠ 25 ∨ j ≠ 12) → fld F b j = fld Fo b j := fun b j n18_14 n24_2 n24_3 n24_4 n24_5 n24_6 n24_7 n25_3 n25_4 n25_12 => (yz148441.1 b j n24_2 n24_3 n24_4 n24_5 n24_6 n24_7 n25_3 n25_4).trans (hfr b j n18_14 n24_2 n24_3 n24_4 n24_5 n24_6 n24_7 n25_3 n25_4 n25_12)
  refine lv_istore_n (lv' := [(2, .int z148441), (1, .int z148439), (0, .ref p0)]) hx hb dX3_readHeir_20 rfl hl (by decide) rfl (fun ls hl => ?_)
  refine lv_aload_n hx hb dX3_readHeir_21 rfl (lv_at hl 2 rfl) ?_
  refine lv_iconst (v := 0) hx hb dX3_readHeir_22 (by decide) ?_
  refine lv_aload_n hx hb dX3_readHeir_23 rfl (lv_at hl 2 rfl) ?_
  refine t_get (C := RX3) (T := TX3) (N := 13) X hT m0 g0 rfl rfl 2 (by decide) qw_162 inlX3 rfl dX3_readHeir_24 (fun v148442 hv148442 ov148442 => ?_)
  obtain rfl : v148442 = .ref x2 := hv148442.symm.trans pf2
  refine t_get (C := RX7) (T := TX7) (N := 7) X hT mx2 gx2 rfl rfl 2 (by decide) qw_401 inlX7 rfl dX3_readHeir_27 (fun v148443 hv148443 ov148443 => ?_)
  obtain ⟨b148444, rfl, mb148444, gb148444⟩ := okV_r ov148443
  have gb148444 : tag b148444 = 8 := tg_of gb148444
  refine lv_iload_n hx hb dX3_readHeir_30 rfl (lv_at hl 0 rfl) ?_
  refine t_ild X hT mb148444 gb148444 rfl (by omega) dX3_readHeir_31 (fun z148445 vz148445 rz148445 => ?_)
  have rz148445 : 0 ≤ z148445.toInt ∧ z148445.toInt ≤ 6 := rz148445
  refine t_cVi (n := 2) (C := RX3) (T := TX3) (N := 13) (As := [.int 0, .int z148445]) (rest := []) X hT (kt447_X3_whole l G tag L F hT.2.2.2 p0 0 z148445 x0 x1 x2 x3 x4 x5 m0 g0 (by decide) (by omega) mx0 gx0 pf0 mx1 gx1 pf1 mx2 gx2 pf2 mx3 gx3 pf3 mx4 gx4 pf4 mx5 gx5 pf5) m0 g0 rfl rfl qw_318 qw_319 qw_320 qw_28 qw_321 ⟨rfl, by decide +kernel, by decide +kernel, by decide +kernel⟩ ⟨Nat.le_of_ble_eq_true rfl, Nat.le_of_ble_eq_true rfl⟩ hl rfl rfl (Nat.le_of_ble_eq_true rfl) dX3_readHeir_32 ⟨Nat.le_of_ble_eq_true rfl, Nat.le_of_ble_eq_true rfl⟩ (fun z148446 F H locs hT hz148446 => ?_)
  obtain ⟨hz148446, yz148446⟩ := hz148446
  have pf0 := (yz148446.1 _ 0 (Or.inr (by decide)) (Or.inr (by decide)) (Or.inr (by decide)) (Or.inr (by decide)) (Or.inr (by decide)) (Or.inr (by decide)) (Or.inr (by decide)) (Or.inr (by decide))).trans pf0
  have pf1 := (yz148446.1 _ 1 (Or.inr (by decide)) (Or.inr (by decide)) (Or.inr (by decide)) (Or.inr (by decide)) (Or.inr (by decide)) (Or.inr (by decide)) (Or.inr (by decide)) (Or.inr (by decide))).trans pf1
  have pf2 := (yz148446.1 _ 2 (Or.inl (by rw [g0]; decide)) (Or.inr (by decide)) (Or.inr (by decide)) (Or.inr (by decide)) (Or.inr (by decide)) (Or.inr (by decide)) (Or.inr (by decide)) (Or.inr (by decide))).trans pf2
  have pf3 := (yz148446.1 _ 0 (Or.inr (by decide)) (Or.inr (by decide)) (Or.inr (by decide)) (Or.inr (by decide)) (Or.inr (by decide)) (Or.inr (by decide)) (Or.inr (by decide)) (Or.inr (by decide))).trans pf3
  have pf4 := (yz148446.1 _ 10 (Or.inr (by decide)) (Or.inr (by decide)) (Or.inr (by decide)) (Or.inr (by decide)) (Or.inr (by decide)) (Or.inr (by decide)) (Or.inr (by decide)) (Or.inr (by decide))).trans pf4
  have pf5 := (yz148446.1 _ 11 (Or.inr (by decide)) (Or.inr (by decide)) (Or.inr (by decide)) (Or.inr (by decide)) (Or.inr (by decide)) (Or.inr (by decide)) (Or.inr (by decide)) (Or.inr (by decide))).trans pf5
  have hv148438 := (yz148446.1 _ 14 (Or.inr (by decide)) (Or.inr (by decide)) (Or.inr (by decide)) (Or.inr (by decide)) (Or.inr (by decide)) (Or.inr (by decide)) (Or.inr (by decide)) (Or.inr (by decide))).trans hv148438
  have hv148443 := (yz148446.1 _ 2 (Or.inl (by rw [gx2]; decide)) (Or.inr (by decide)) (Or.inr (by decide)) (Or.inr (by decide)) (Or.inr (by decide)) (Or.inr (by decide)) (Or.inr (by decide)) (Or.inr (by decide))).trans hv148443
  have hfr : ∀ b j : Nat, (tag b ≠ 18 ∨ j ≠ 14) → (tag b ≠ 24 ∨ j ≠ 2) → (tag b ≠ 24 ∨ j ≠ 3) → (tag b ≠ 24 ∨ j ≠ 4) → (tag b ≠ 24 ∨ j ≠ 5) → (tag b ≠ 24 ∨ j ≠ 6) → (tag b ≠ 24 ∨ j ≠ 7) → (tag b ≠ 25 ∨ j ≠ 3) → (tag b ≠ 25 ∨ j ≠ 4) → (tag b ≠ 25 ∨ j ≠ 12) → fld F b j = fld Fo b j := fun b j n18_14 n24_2 n24_3 n24_4 n24_5 n24_6 n24_7 n25_3 n25_4 n25_12 => (yz148446.1 b j n24_2 n24_3 n24_4 n24_5 n24_6 n24_7 n25_3 n25_4).trans (hfr b j n18_14 n24_2 n24_3 n24_4 n24_5 n24_6 n24_7 n25_3 n25_4 n25_12)
  have hrel := nsr_of (fun j => yz148446.2 _ j (Or.inl gx4)) (fun j => yz148446.2 _ j (Or.inr gx5)) hrel
  refine lv_istore_n (lv' := [(3, .int z148446), (2, .int z148441), (1, .int z148439), (0, .ref p0)]) hx hb dX3_readHeir_35 rfl hl (by decide) rfl (fun ls hl => ?_)
  refine lv_aload_n hx hb dX3_readHeir_36 rfl (lv_at hl 3 rfl) ?_
  refine t_get (C := RX3) (T := TX3) (N := 13) X hT m0 g0 rfl rfl 3 (by decide) qw_163 inlX3 rfl dX3_readHeir_37 (fun v148447 hv148447 ov148447 => ?_)
  obtain ⟨z148448, rfl, rz148448⟩ := okV_i ov148447
  refine lv_if_ne (tgt := 82) hx hb dX3_readHeir_40 (by decide) (fun c148449 => ?_) (fun c148449 => ?_)
  · have w148450 := cv_ne (rfl : z148448.toInt = z148448.toInt) (by decide : (0 : Int32).toInt = 0) c148449
    exact t_vret hQ X hT ⟨hfr, hrel⟩ (Nat.le_of_ble_eq_true rfl) (Nat.le_of_ble_eq_true rfl) dX3_readHeir_82
  · have w148451 := cv_eq (rfl : z148448.toInt = z148448.toInt) (by decide : (0 : Int32).toInt = 0) c148449
    refine lv_iload_n hx hb dX3_readHeir_43 rfl (lv_at hl 2 rfl) ?_
    refine lv_bipush (v := 6) hx hb dX3_readHeir_44 (by decide) ?_
    refine lv_icmp_ge (tgt := 82) hx hb dX3_readHeir_46 (by decide) (fun c148452 => ?_) (fun c148452 => ?_)
    · have w148453 := cv_le (by decide : (6 : Int32).toInt = 6) (rfl : z148439.toInt = z148439.toInt) c148452
      exact t_vret hQ X hT ⟨hfr, hrel⟩ (Nat.le_of_ble_eq_true rfl) (Nat.le_of_ble_eq_true rfl) dX3_readHeir_82
    · have w148454 := cv_nle (by decide : (6 : Int32).toInt = 6) (rfl : z148439.toInt = z148439.toInt) c148452
      refine lv_aload_n hx hb dX3_readHeir_49 rfl (lv_at hl 3 rfl) ?_
      refine t_get (C := RX3) (T := TX3) (N := 13) X hT m0 g0 rfl rfl 1 (by decide) qw_161 inlX3 rfl dX3_readHeir_50 (fun v148455 hv148455 ov148455 => ?_)
      obtain rfl : v148455 = .ref x1 := hv148455.symm.trans pf1
      refine t_get (C := RX1) (T := TX1) (N := 20) X hT mx1 gx1 rfl rfl 15 (by decide) qw_430 inlX1 rfl dX3_readHeir_53 (fun v148456 hv148456 ov148456 => ?_)
      obtain ⟨b148457, rfl, mb148457, gb148457⟩ := okV_r ov148456
      have gb148457 : tag b148457 = 6 := tg_of gb148457
      refine lv_iload_n hx hb dX3_readHeir_56 rfl (lv_at hl 2 rfl) ?_
      refine lv_iload_n hx hb dX3_readHeir_57 rfl (lv_at hl 1 rfl) ?_
      refine t_ist X hT mb148457 gb148457 rfl (by omega) (show 0 ≤ (z148441 : Int32).toInt ∧ (z148441 : Int32).toInt ≤ 3 from (by omega)) dX3_readHeir_58 (fun F H locs hT v148458 h1v148458 h2v148458 => ?_)
      have pf0 := (h2v148458 _ _).trans pf0
      have pf1 := (h2v148458 _ _).trans pf1
      have pf2 := (h2v148458 _ _).trans pf2
      have pf3 := (h2v148458 _ _).trans pf3
      have pf4 := (h2v148458 _ _).trans pf4
      have pf5 := (h2v148458 _ _).trans pf5
      have hv148438 := (h2v148458 _ _).trans hv148438
      have hv148443 := (h2v148458 _ _).trans hv148443
      have hv148447 := (h2v148458 _ _).trans hv148447
      have hv148456 := (h2v148458 _ _).trans hv148456
      have hfr : ∀ b j : Nat, (tag b ≠ 18 ∨ j ≠ 14) → (tag b ≠ 24 ∨ j ≠ 2) → (tag b ≠ 24 ∨ j ≠ 3) → (tag b ≠ 24 ∨ j ≠ 4) → (tag b ≠ 24 ∨ j ≠ 5) → (tag b ≠ 24 ∨ j ≠ 6) → (tag b ≠ 24 ∨ j ≠ 7) → (tag b ≠ 25 ∨ j ≠ 3) → (tag b ≠ 25 ∨ j ≠ 4) → (tag b ≠ 25 ∨ j ≠ 12) → fld F b j = fld Fo b j := fun b j n18_14 n24_2 n24_3 n24_4 n24_5 n24_6 n24_7 n25_3 n25_4 n25_12 => (h2v148458 b j).trans (hfr b j n18_14 n24_2 n24_3 n24_4 n24_5 n24_6 n24_7 n25_3 n25_4 n25_12)
      have hrel := nsr_of (fun j => h1v148458 _ j (Or.inl (tne gx4 gb148457 (by decide)))) (fun j => h1v148458 _ j (Or.inl (tne gx5 gb148457 (by decide)))) hrel
      refine lv_aload_n hx hb dX3_readHeir_59 rfl (lv_at hl 3 rfl) ?_
      refine t_get (C := RX3) (T := TX3) (N := 13) X hT m0 g0 rfl rfl 2 (by decide) qw_162 inlX3 rfl dX3_readHeir_60 (fun v148459 hv148459 ov148459 => ?_)
      obtain rfl : v148459 = .ref x2 := hv148459.symm.trans pf2
      refine t_get (C := RX7) (T := TX7) (N := 7) X hT mx2 gx2 rfl rfl 5 (by decide) qw_431 inlX7 rfl dX3_readHeir_63 (fun v148460 hv148460 ov148460 => ?_)
      obtain ⟨b148461, rfl, mb148461, gb148461⟩ := okV_r ov148460
      have gb148461 : tag b148461 = 7 := tg_of gb148461
      refine lv_iload_n hx hb dX3_readHeir_66 rfl (lv_at hl 2 rfl) ?_
      refine lv_iload_n hx hb dX3_readHeir_67 rfl (lv_at hl 0 rfl) ?_
      refine t_ist X hT mb148461 gb148461 rfl (by omega) (show (-2147483648) ≤ (z148446 : Int32).toInt ∧ (z148446 : Int32).toInt ≤ 2147483647 from (by omega)) dX3_readHeir_68 (fun F H locs hT v148462 h1v148462 h2v148462 => ?_)
      have pf0 := (h2v148462 _ _).trans pf0
      have pf1 := (h2v148462 _ _).trans pf1
      have pf2 := (h2v148462 _ _).trans pf2
      have pf3 := (h2v148462 _ _).trans pf3
      have pf4 := (h2v148462 _ _).trans pf4
      have pf5 := (h2v148462 _ _).trans pf5
      have hv148438 := (h2v148462 _ _).trans hv148438
      have hv148443 := (h2v148462 _ _).trans hv148443
      have hv148447 := (h2v148462 _ _).trans hv148447
      have hv148456 := (h2v148462 _ _).trans hv148456
      have hv148460 := (h2v148462 _ _).trans hv148460
      have hfr : ∀ b j : Nat, (tag b ≠ 18 ∨ j ≠ 14) → (tag b ≠ 24 ∨ j ≠ 2) → (tag b ≠ 24 ∨ j ≠ 3) → (tag b ≠ 24 ∨ j ≠ 4) → (tag b ≠ 24 ∨ j ≠ 5) → (tag b ≠ 24 ∨ j ≠ 6) → (tag b ≠ 24 ∨ j ≠ 7) → (tag b ≠ 25 ∨ j ≠ 3) → (tag b ≠ 25 ∨ j ≠ 4) → (tag b ≠ 25 ∨ j ≠ 12) → fld F b j = fld Fo b j := fun b j n18_14 n24_2 n24_3 n24_4 n24_5 n24_6 n24_7 n25_3 n25_4 n25_12 => (h2v148462 b j).trans (hfr b j n18_14 n24_2 n24_3 n24_4 n24_5 n24_6 n24_7 n25_3 n25_4 n25_12)
      have hrel := nsr_of (fun j => h1v148462 _ j (Or.inl (tne gx4 gb148461 (by decide)))) (fun j => h1v148462 _ j (Or.inl (tne gx5 gb148461 (by decide)))) hrel
      refine lv_aload_n hx hb dX3_readHeir_69 rfl (lv_at hl 3 rfl) ?_
      refine t_get (C := RX3) (T := TX3) (N := 13) X hT m0 g0 rfl rfl 1 (by decide) qw_161 inlX3 rfl dX3_readHeir_70 (fun v148463 hv148463 ov148463 => ?_)
      obtain rfl : v148463 = .ref x1 := hv148463.symm.trans pf1
      refine lv_dup hx hb dX3_readHeir_73 rfl ?_
      refine t_get (C := RX1) (T := TX1) (N := 20) X hT mx1 gx1 rfl rfl 14 (by decide) qw_303 inlX1 rfl dX3_readHeir_74 (fun v148464 hv148464 ov148464 => ?_)
      obtain rfl : v148464 = .int z148439 := hv148464.symm.trans hv148438
      refine lv_iconst (v := 1) hx hb dX3_readHeir_77 (by decide) ?_
      refine lv_iadd hx hb dX3_readHeir_78 ?_
      refine lv_topi (fun z148465 ez148465 => ?_)
      have hz148465 : z148465.toInt = z148439.toInt + 1 := ar_add ez148465 (rfl : z148439.toInt = z148439.toInt) (by decide : (1 : Int32).toInt = 1) (by omega) (by omega)
      have rz148465 : 1 ≤ z148465.toInt ∧ z148465.toInt ≤ 6 := by omega
      refine t_put (C := RX1) (T := TX1) (N := 20) (v := .int z148465) X hT mx1 gx1 rfl tyX1 tyX1_ok nmX1 rfl 14 (by decide) qw_303 inlX1 rfl (by first | rfl | decide) (by first | rfl | decide) rfl (⟨_, rfl, (show 0 ≤ (z148465 : Int32).toInt from (by omega)), (show (z148465 : Int32).toInt ≤ 6 from (by omega))⟩) dX3_readHeir_79 (fun F H locs hT v148466 h1v148466 h2v148466 => ?_)
      have pf0 := (h1v148466 _ _ (Or.inr (by decide))).trans pf0
      have pf1 := (h1v148466 _ _ (Or.inr (by decide))).trans pf1
      have pf2 := (h1v148466 _ _ (Or.inr (by decide))).trans pf2
      have pf3 := (h1v148466 _ _ (Or.inr (by decide))).trans pf3
      have pf4 := (h1v148466 _ _ (Or.inr (by decide))).trans pf4
      have pf5 := (h1v148466 _ _ (Or.inr (by decide))).trans pf5
      have hv148443 := (h1v148466 _ _ (Or.inr (by decide))).trans hv148443
      have hv148447 := (h1v148466 _ _ (Or.inr (by decide))).trans hv148447
      have hv148456 := (h1v148466 _ _ (Or.inr (by decide))).trans hv148456
      have hv148460 := (h1v148466 _ _ (Or.inr (by decide))).trans hv148460
      have v148462 := (h2v148466 _ _).trans v148462
      have hfr : ∀ b j : Nat, (tag b ≠ 18 ∨ j ≠ 14) → (tag b ≠ 24 ∨ j ≠ 2) → (tag b ≠ 24 ∨ j ≠ 3) → (tag b ≠ 24 ∨ j ≠ 4) → (tag b ≠ 24 ∨ j ≠ 5) → (tag b ≠ 24 ∨ j ≠ 6) → (tag b ≠ 24 ∨ j ≠ 7) → (tag b ≠ 25 ∨ j ≠ 3) → (tag b ≠ 25 ∨ j ≠ 4) → (tag b ≠ 25 ∨ j ≠ 12) → fld F b j = fld Fo b j := fun b j n18_14 n24_2 n24_3 n24_4 n24_5 n24_6 n24_7 n25_3 n25_4 n25_12 => (h1v148466 b j (fr_ne gx1 n18_14)).trans (hfr b j n18_14 n24_2 n24_3 n24_4 n24_5 n24_6 n24_7 n25_3 n25_4 n25_12)
      have hrel := nsr_of (fun j => h2v148466 _ j) (fun j => h2v148466 _ j) hrel
      exact t_vret hQ X hT ⟨hfr, hrel⟩ (Nat.le_of_ble_eq_true rfl) (Nat.le_of_ble_eq_true rfl) dX3_readHeir_82
set_option maxHeartbeats 4000000 in
set_option maxRecDepth 100000 in
theorem kt449_X3_newName (l : Launch) (G : KG) (tag : Nat → Nat) (L : List Nat) (Fo : Nat → va_E) (ho : okT G ttC tag L Fo) (p0 : Nat) (p1 : Int32) (p2 : Int32) (x0 : Nat) (x1 : Nat) (x2 : Nat) (x3 : Nat) (x4 : Nat) (x5 : Nat) (m0 : p0 ∈ L) (g0 : tag p0 = 25) (h1 : 4 ≤ p1.toInt ∧ p1.toInt ≤ 4) (h2 : 0 ≤ p2.toInt ∧ p2.toInt ≤ 3) (mx0 : x0 ∈ L) (gx0 : tag x0 = 24) (pf0 : fld Fo p0 0 = .ref x0) (mx1 : x1 ∈ L) (gx1 : tag x1 = 18) (pf1 : fld Fo p0 1 = .ref x1) (mx2 : x2 ∈ L) (gx2 : tag x2 = 19) (pf2 : fld Fo p0 2 = .ref x2) (mx3 : x3 ∈ L) (gx3 : tag x3 = 1) (pf3 : fld Fo x0 0 = .ref x3) (mx4 : x4 ∈ L) (gx4 : tag x4 = 14) (pf4 : fld Fo p0 10 = .ref x4) (mx5 : x5 ∈ L) (gx5 : tag x5 = 15) (pf5 : fld Fo p0 11 = .ref x5) (hrel : NSR Fo x4 x5) : TMv l yX3_newName cX3_newName 3 { frames := 6, cells := 0, slots := 0, locals := 128 } G ttC tag L Fo [.ref p0, .int p1, .int p2] (fun F1 => (∀ b j : Nat, (tag b ≠ 24 ∨ j ≠ 2) → (tag b ≠ 24 ∨ j ≠ 3) → (tag b ≠ 24 ∨ j ≠ 4) → (tag b ≠ 24 ∨ j ≠ 5) → (tag b ≠ 24 ∨ j ≠ 6) → (tag b ≠ 24 ∨ j ≠ 7) → (tag b ≠ 25 ∨ j ≠ 3) → (tag b ≠ 25 ∨ j ≠ 4) → (tag b ≠ 25 ∨ j ≠ 12) → fld F1 b j = fld Fo b j) ∧ (NSR F1 x4 x5)) := by
  refine t_bodyv (y := yX3_newName) (cd := cX3_newName) (mL := 3) (rm := { frames := 6, cells := 0, slots := 0, locals := 128 }) (av := [.ref p0, .int p1, .int p2]) (by decide) (Nat.le_of_ble_eq_true rfl) ho ?_
  intro p e s m args below meth c ls A Q hQ X hT hl
  have hx := X.1.1
  have hb := X.1.2.1
  have hl : lv_has ls 3 [(0, .ref p0), (1, .int p1), (2, .int p2)] := hl
  obtain ⟨F, hFo⟩ : ∃ F : Nat → va_E, F = Fo := ⟨_, rfl⟩
  rw [← hFo] at hT pf0 pf1 pf2 pf3 pf4 pf5 hrel
  have hfr : ∀ b j : Nat, (tag b ≠ 24 ∨ j ≠ 2) → (tag b ≠ 24 ∨ j ≠ 3) → (tag b ≠ 24 ∨ j ≠ 4) → (tag b ≠ 24 ∨ j ≠ 5) → (tag b ≠ 24 ∨ j ≠ 6) → (tag b ≠ 24 ∨ j ≠ 7) → (tag b ≠ 25 ∨ j ≠ 3) → (tag b ≠ 25 ∨ j ≠ 4) → (tag b ≠ 25 ∨ j ≠ 12) → fld F b j = fld Fo b j := by
    rw [hFo]
    intros
    rfl
  have K51 : ∀  (F : Nat → va_E) (H : Heap) (locs : List Loc) (ls : Array Slot), TH G ttC A s tag L F H locs → (∀ b j : Nat, (tag b ≠ 24 ∨ j ≠ 2) → (tag b ≠ 24 ∨ j ≠ 3) → (tag b ≠ 24 ∨ j ≠ 4) → (tag b ≠ 24 ∨ j ≠ 5) → (tag b ≠ 24 ∨ j ≠ 6) → (tag b ≠ 24 ∨ j ≠ 7) → (tag b ≠ 25 ∨ j ≠ 3) → (tag b ≠ 25 ∨ j ≠ 4) → (tag b ≠ 25 ∨ j ≠ 12) → fld F b j = fld Fo b j) → NSR F x4 x5 → fld F p0 0 = .ref x0 → fld F p0 1 = .ref x1 → fld F p0 2 = .ref x2 → fld F x0 0 = .ref x3 → fld F p0 10 = .ref x4 → fld F p0 11 = .ref x5 → lv_has ls 3 [(0, .ref p0), (1, .int p1), (2, .int p2)] → W p l e { frames := 6, cells := 0, slots := 0, locals := 128 } s m args below meth c H locs 0 0 Q (F0 m 51 ls []) := by
    intro F H locs ls hT hfr hrel pf0 pf1 pf2 pf3 pf4 pf5 hl
    refine lv_aload_n hx hb dX3_newName_51 rfl (lv_at hl 0 rfl) ?_
    refine t_get (C := RX3) (T := TX3) (N := 13) X hT m0 g0 rfl rfl 3 (by decide) qw_163 inlX3 rfl dX3_newName_52 (fun v149300 hv149300 ov149300 => ?_)
    obtain ⟨z149301, rfl, rz149301⟩ := okV_i ov149300
    refine lv_if_ne (tgt := 67) hx hb dX3_newName_55 (by decide) (fun c149302 => ?_) (fun c149302 => ?_)
    · have w149303 := cv_ne (rfl : z149301.toInt = z149301.toInt) (by decide : (0 : Int32).toInt = 0) c149302
      exact t_vret hQ X hT ⟨hfr, hrel⟩ (Nat.le_of_ble_eq_true rfl) (Nat.le_of_ble_eq_true rfl) dX3_newName_67
    · have w149304 := cv_eq (rfl : z149301.toInt = z149301.toInt) (by decide : (0 : Int32).toInt = 0) c149302
      refine lv_aload_n hx hb dX3_newName_58 rfl (lv_at hl 0 rfl) ?_
      refine t_get (C := RX3) (T := TX3) (N := 13) X hT m0 g0 rfl rfl 12 (by decide) qw_169 inlX3 rfl dX3_newName_59 (fun v149305 hv149305 ov149305 => ?_)
      obtain ⟨z149306, rfl, rz149306⟩ := okV_i ov149305
      refine lv_bipush (v := 20) hx hb dX3_newName_62 (by decide) ?_
      refine lv_icmp_lt (tgt := 68) hx hb dX3_newName_64 (by decide) (fun c149307 => ?_) (fun c149307 => ?_)
      · have w149308 := cv_lt (rfl : z149306.toInt = z149306.toInt) (by decide : (20 : Int32).toInt = 20) c149307
        refine lv_aload_n hx hb dX3_newName_68 rfl (lv_at hl 0 rfl) ?_
        refine t_get (C := RX3) (T := TX3) (N := 13) X hT m0 g0 rfl rfl 9 (by decide) qw_74 inlX3 rfl dX3_newName_69 (fun v149309 hv149309 ov149309 => ?_)
        obtain ⟨b149310, rfl, mb149310, gb149310⟩ := okV_r ov149309
        have gb149310 : tag b149310 = 13 := tg_of gb149310
        refine lv_aload_n hx hb dX3_newName_72 rfl (lv_at hl 0 rfl) ?_
        refine t_get (C := RX3) (T := TX3) (N := 13) X hT m0 g0 rfl rfl 12 (by decide) qw_169 inlX3 rfl dX3_newName_73 (fun v149311 hv149311 ov149311 => ?_)
        obtain rfl : v149311 = .int z149306 := hv149311.symm.trans hv149305
        refine lv_aload_n hx hb dX3_newName_76 rfl (lv_at hl 0 rfl) ?_
        refine t_get (C := RX3) (T := TX3) (N := 13) X hT m0 g0 rfl rfl 0 (by decide) qw_73 inlX3 rfl dX3_newName_77 (fun v149312 hv149312 ov149312 => ?_)
        obtain rfl : v149312 = .ref x0 := hv149312.symm.trans pf0
        refine t_get (C := RX8) (T := TX8) (N := 8) X hT mx0 gx0 rfl rfl 7 (by decide) qw_360 inlX8 rfl dX3_newName_80 (fun v149313 hv149313 ov149313 => ?_)
        obtain ⟨z149314, rfl⟩ := ov149313
        refine t_lst X hT mb149310 gb149310 rfl (by omega) dX3_newName_83 (fun F H locs hT h1v149315 h2v149315 => ?_)
        have pf0 := (h2v149315 _ _).trans pf0
        have pf1 := (h2v149315 _ _).trans pf1
        have pf2 := (h2v149315 _ _).trans pf2
        have pf3 := (h2v149315 _ _).trans pf3
        have pf4 := (h2v149315 _ _).trans pf4
        have pf5 := (h2v149315 _ _).trans pf5
        have hv149300 := (h2v149315 _ _).trans hv149300
        have hv149305 := (h2v149315 _ _).trans hv149305
        have hv149309 := (h2v149315 _ _).trans hv149309
        have hfr : ∀ b j : Nat, (tag b ≠ 24 ∨ j ≠ 2) → (tag b ≠ 24 ∨ j ≠ 3) → (tag b ≠ 24 ∨ j ≠ 4) → (tag b ≠ 24 ∨ j ≠ 5) → (tag b ≠ 24 ∨ j ≠ 6) → (tag b ≠ 24 ∨ j ≠ 7) → (tag b ≠ 25 ∨ j ≠ 3) → (tag b ≠ 25 ∨ j ≠ 4) → (tag b ≠ 25 ∨ j ≠ 12) → fld F b j = fld Fo b j := fun b j n24_2 n24_3 n24_4 n24_5 n24_6 n24_7 n25_3 n25_4 n25_12 => (h2v149315 b j).trans (hfr b j n24_2 n24_3 n24_4 n24_5 n24_6 n24_7 n25_3 n25_4 n25_12)
        have hrel := nsr_of (fun j => h1v149315 _ j) (fun j => h1v149315 _ j) hrel
        refine lv_aload_n hx hb dX3_newName_84 rfl (lv_at hl 0 rfl) ?_
        refine t_get (C := RX3) (T := TX3) (N := 13) X hT m0 g0 rfl rfl 10 (by decide) qw_75 inlX3 rfl dX3_newName_85 (fun v149316 hv149316 ov149316 => ?_)
        obtain rfl : v149316 = .ref x4 := hv149316.symm.trans pf4
        refine lv_aload_n hx hb dX3_newName_88 rfl (lv_at hl 0 rfl) ?_
        refine t_get (C := RX3) (T := TX3) (N := 13) X hT m0 g0 rfl rfl 12 (by decide) qw_169 inlX3 rfl dX3_newName_89 (fun v149317 hv149317 ov149317 => ?_)
        obtain rfl : v149317 = .int z149306 := hv149317.symm.trans hv149305
        refine lv_iload_n hx hb dX3_newName_92 rfl (lv_at hl 1 rfl) ?_
        refine t_ist X hT mx4 gx4 rfl (by omega) (show (-2147483648) ≤ (p1 : Int32).toInt ∧ (p1 : Int32).toInt ≤ 2147483647 from (by omega)) dX3_newName_93 (fun F H locs hT v149318 h1v149318 h2v149318 => ?_)
        have pf0 := (h2v149318 _ _).trans pf0
        have pf1 := (h2v149318 _ _).trans pf1
        have pf2 := (h2v149318 _ _).trans pf2
        have pf3 := (h2v149318 _ _).trans pf3
        have pf4 := (h2v149318 _ _).trans pf4
        have pf5 := (h2v149318 _ _).trans pf5
        have hv149300 := (h2v149318 _ _).trans hv149300
        have hv149305 := (h2v149318 _ _).trans hv149305
        have hv149309 := (h2v149318 _ _).trans hv149309
        have hfr : ∀ b j : Nat, (tag b ≠ 24 ∨ j ≠ 2) → (tag b ≠ 24 ∨ j ≠ 3) → (tag b ≠ 24 ∨ j ≠ 4) → (tag b ≠ 24 ∨ j ≠ 5) → (tag b ≠ 24 ∨ j ≠ 6) → (tag b ≠ 24 ∨ j ≠ 7) → (tag b ≠ 25 ∨ j ≠ 3) → (tag b ≠ 25 ∨ j ≠ 4) → (tag b ≠ 25 ∨ j ≠ 12) → fld F b j = fld Fo b j := fun b j n24_2 n24_3 n24_4 n24_5 n24_6 n24_7 n25_3 n25_4 n25_12 => (h2v149318 b j).trans (hfr b j n24_2 n24_3 n24_4 n24_5 n24_6 n24_7 n25_3 n25_4 n25_12)
        have hrel := nsr_s hrel h1v149318 (tne gx5 gx4 (by decide))
        refine lv_aload_n hx hb dX3_newName_94 rfl (lv_at hl 0 rfl) ?_
        refine t_get (C := RX3) (T := TX3) (N := 13) X hT m0 g0 rfl rfl 11 (by decide) qw_76 inlX3 rfl dX3_newName_95 (fun v149319 hv149319 ov149319 => ?_)
        obtain rfl : v149319 = .ref x5 := hv149319.symm.trans pf5
        refine lv_aload_n hx hb dX3_newName_98 rfl (lv_at hl 0 rfl) ?_
        refine t_get (C := RX3) (T := TX3) (N := 13) X hT m0 g0 rfl rfl 12 (by decide) qw_169 inlX3 rfl dX3_newName_99 (fun v149320 hv149320 ov149320 => ?_)
        obtain rfl : v149320 = .int z149306 := hv149320.symm.trans hv149305
        refine lv_iload_n hx hb dX3_newName_102 rfl (lv_at hl 2 rfl) ?_
        refine t_ist X hT mx5 gx5 rfl (by omega) (show (-2147483648) ≤ (p2 : Int32).toInt ∧ (p2 : Int32).toInt ≤ 2147483647 from (by omega)) dX3_newName_103 (fun F H locs hT v149321 h1v149321 h2v149321 => ?_)
        have pf0 := (h2v149321 _ _).trans pf0
        have pf1 := (h2v149321 _ _).trans pf1
        have pf2 := (h2v149321 _ _).trans pf2
        have pf3 := (h2v149321 _ _).trans pf3
        have pf4 := (h2v149321 _ _).trans pf4
        have pf5 := (h2v149321 _ _).trans pf5
        have hv149300 := (h2v149321 _ _).trans hv149300
        have hv149305 := (h2v149321 _ _).trans hv149305
        have hv149309 := (h2v149321 _ _).trans hv149309
        have hfr : ∀ b j : Nat, (tag b ≠ 24 ∨ j ≠ 2) → (tag b ≠ 24 ∨ j ≠ 3) → (tag b ≠ 24 ∨ j ≠ 4) → (tag b ≠ 24 ∨ j ≠ 5) → (tag b ≠ 24 ∨ j ≠ 6) → (tag b ≠ 24 ∨ j ≠ 7) → (tag b ≠ 25 ∨ j ≠ 3) → (tag b ≠ 25 ∨ j ≠ 4) → (tag b ≠ 25 ∨ j ≠ 12) → fld F b j = fld Fo b j := fun b j n24_2 n24_3 n24_4 n24_5 n24_6 n24_7 n25_3 n25_4 n25_12 => (h2v149321 b j).trans (hfr b j n24_2 n24_3 n24_4 n24_5 n24_6 n24_7 n25_3 n25_4 n25_12)
        have hrel := nsr_n hrel v149318 h1v149321 v149321 (tne gx4 gx5 (by decide)) ⟨fun h9 => ⟨(by omega), (by omega)⟩, fun h9 => (by have h8 := congrArg Int32.toInt h9; rw [show ((7 : Int32).toInt = 7) from by decide] at h8; omega)⟩
        refine lv_aload_n hx hb dX3_newName_104 rfl (lv_at hl 0 rfl) ?_
        refine lv_dup hx hb dX3_newName_105 rfl ?_
        refine t_get (C := RX3) (T := TX3) (N := 13) X hT m0 g0 rfl rfl 12 (by decide) qw_169 inlX3 rfl dX3_newName_106 (fun v149322 hv149322 ov149322 => ?_)
        obtain rfl : v149322 = .int z149306 := hv149322.symm.trans hv149305
        refine lv_iconst (v := 1) hx hb dX3_newName_109 (by decide) ?_
        refine lv_iadd hx hb dX3_newName_110 ?_
        refine lv_topi (fun z149323 ez149323 => ?_)
        have hz149323 : z149323.toInt = z149306.toInt + 1 := ar_add ez149323 (rfl : z149306.toInt = z149306.toInt) (by decide : (1 : Int32).toInt = 1) (by omega) (by omega)
        have rz149323 : 1 ≤ z149323.toInt ∧ z149323.toInt ≤ 20 := by omega
        refine t_put (C := RX3) (T := TX3) (N := 13) (v := .int z149323) X hT m0 g0 rfl tyX3 tyX3_ok nmX3 rfl 12 (by decide) qw_169 inlX3 rfl (by first | rfl | decide) (by first | rfl | decide) rfl (⟨_, rfl, (show 0 ≤ (z149323 : Int32).toInt from (by omega)), (show (z149323 : Int32).toInt ≤ 20 from (by omega))⟩) dX3_newName_111 (fun F H locs hT v149324 h1v149324 h2v149324 => ?_)
        have pf0 := (h1v149324 _ _ (Or.inr (by decide))).trans pf0
        have pf1 := (h1v149324 _ _ (Or.inr (by decide))).trans pf1
        have pf2 := (h1v149324 _ _ (Or.inr (by decide))).trans pf2
        have pf3 := (h1v149324 _ _ (Or.inr (by decide))).trans pf3
        have pf4 := (h1v149324 _ _ (Or.inr (by decide))).trans pf4
        have pf5 := (h1v149324 _ _ (Or.inr (by decide))).trans pf5
        have hv149300 := (h1v149324 _ _ (Or.inr (by decide))).trans hv149300
        have hv149309 := (h1v149324 _ _ (Or.inr (by decide))).trans hv149309
        have v149321 := (h2v149324 _ _).trans v149321
        have hfr : ∀ b j : Nat, (tag b ≠ 24 ∨ j ≠ 2) → (tag b ≠ 24 ∨ j ≠ 3) → (tag b ≠ 24 ∨ j ≠ 4) → (tag b ≠ 24 ∨ j ≠ 5) → (tag b ≠ 24 ∨ j ≠ 6) → (tag b ≠ 24 ∨ j ≠ 7) → (tag b ≠ 25 ∨ j ≠ 3) → (tag b ≠ 25 ∨ j ≠ 4) → (tag b ≠ 25 ∨ j ≠ 12) → fld F b j = fld Fo b j := fun b j n24_2 n24_3 n24_4 n24_5 n24_6 n24_7 n25_3 n25_4 n25_12 => (h1v149324 b j (fr_ne g0 n25_12)).trans (hfr b j n24_2 n24_3 n24_4 n24_5 n24_6 n24_7 n25_3 n25_4 n25_12)
        have hrel := nsr_of (fun j => h2v149324 _ j) (fun j => h2v149324 _ j) hrel
        refine lv_aload_n hx hb dX3_newName_114 rfl (lv_at hl 0 rfl) ?_
        refine t_get (C := RX3) (T := TX3) (N := 13) X hT m0 g0 rfl rfl 0 (by decide) qw_73 inlX3 rfl dX3_newName_115 (fun v149325 hv149325 ov149325 => ?_)
        obtain rfl : v149325 = .ref x0 := hv149325.symm.trans pf0
        refine t_cVv (n := 0) (C := RX8) (T := TX8) (N := 8) (As := []) (rest := []) X hT (kt440_X8_advance l G tag L F hT.2.2.2 x0 x3 mx0 gx0 mx3 gx3 pf3) mx0 gx0 rfl rfl qw_305 qw_197 qw_198 qw_72 qw_199 ⟨rfl, by decide +kernel, by decide +kernel, by decide +kernel⟩ ⟨Nat.le_of_ble_eq_true rfl, Nat.le_of_ble_eq_true rfl⟩ hl rfl rfl (Nat.le_of_ble_eq_true rfl) dX3_newName_118 ⟨Nat.le_of_ble_eq_true rfl, Nat.le_of_ble_eq_true rfl⟩ (fun F H locs hT hz149326 => ?_)
        have yz149326 := hz149326
        have pf0 := (yz149326.1 _ 0 (Or.inr (by decide)) (Or.inr (by decide)) (Or.inr (by decide)) (Or.inr (by decide)) (Or.inr (by decide)) (Or.inr (by decide))).trans pf0
        have pf1 := (yz149326.1 _ 1 (Or.inr (by decide)) (Or.inr (by decide)) (Or.inr (by decide)) (Or.inr (by decide)) (Or.inr (by decide)) (Or.inr (by decide))).trans pf1
        have pf2 := (yz149326.1 _ 2 (Or.inl (by rw [g0]; decide)) (Or.inr (by decide)) (Or.inr (by decide)) (Or.inr (by decide)) (Or.inr (by decide)) (Or.inr (by decide))).trans pf2
        have pf3 := (yz149326.1 _ 0 (Or.inr (by decide)) (Or.inr (by decide)) (Or.inr (by decide)) (Or.inr (by decide)) (Or.inr (by decide)) (Or.inr (by decide))).trans pf3
        have pf4 := (yz149326.1 _ 10 (Or.inr (by decide)) (Or.inr (by decide)) (Or.inr (by decide)) (Or.inr (by decide)) (Or.inr (by decide)) (Or.inr (by decide))).trans pf4
        have pf5 := (yz149326.1 _ 11 (Or.inr (by decide)) (Or.inr (by decide)) (Or.inr (by decide)) (Or.inr (by decide)) (Or.inr (by decide)) (Or.inr (by decide))).trans pf5
        have hv149300 := (yz149326.1 _ 3 (Or.inr (by decide)) (Or.inl (by rw [g0]; decide)) (Or.inr (by decide)) (Or.inr (by decide)) (Or.inr (by decide)) (Or.inr (by decide))).trans hv149300
        have hv149309 := (yz149326.1 _ 9 (Or.inr (by decide)) (Or.inr (by decide)) (Or.inr (by decide)) (Or.inr (by decide)) (Or.inr (by decide)) (Or.inr (by decide))).trans hv149309
        have v149321 := (yz149326.2 _ _ (Or.inr gx5)).trans v149321
        have v149324 := (yz149326.1 _ 12 (Or.inr (by decide)) (Or.inr (by decide)) (Or.inr (by decide)) (Or.inr (by decide)) (Or.inr (by decide)) (Or.inr (by decide))).trans v149324
        have hfr : ∀ b j : Nat, (tag b ≠ 24 ∨ j ≠ 2) → (tag b ≠ 24 ∨ j ≠ 3) → (tag b ≠ 24 ∨ j ≠ 4) → (tag b ≠ 24 ∨ j ≠ 5) → (tag b ≠ 24 ∨ j ≠ 6) → (tag b ≠ 24 ∨ j ≠ 7) → (tag b ≠ 25 ∨ j ≠ 3) → (tag b ≠ 25 ∨ j ≠ 4) → (tag b ≠ 25 ∨ j ≠ 12) → fld F b j = fld Fo b j := fun b j n24_2 n24_3 n24_4 n24_5 n24_6 n24_7 n25_3 n25_4 n25_12 => (yz149326.1 b j n24_2 n24_3 n24_4 n24_5 n24_6 n24_7).trans (hfr b j n24_2 n24_3 n24_4 n24_5 n24_6 n24_7 n25_3 n25_4 n25_12)
        have hrel := nsr_of (fun j => yz149326.2 _ j (Or.inl gx4)) (fun j => yz149326.2 _ j (Or.inr gx5)) hrel
        exact t_vret hQ X hT ⟨hfr, hrel⟩ (Nat.le_of_ble_eq_true rfl) (Nat.le_of_ble_eq_true rfl) dX3_newName_121
      · have w149327 := cv_nlt (rfl : z149306.toInt = z149306.toInt) (by decide : (20 : Int32).toInt = 20) c149307
        exact t_vret hQ X hT ⟨hfr, hrel⟩ (Nat.le_of_ble_eq_true rfl) (Nat.le_of_ble_eq_true rfl) dX3_newName_67
  have K31 : ∀  (F : Nat → va_E) (H : Heap) (locs : List Loc) (ls : Array Slot), TH G ttC A s tag L F H locs → (∀ b j : Nat, (tag b ≠ 24 ∨ j ≠ 2) → (tag b ≠ 24 ∨ j ≠ 3) → (tag b ≠ 24 ∨ j ≠ 4) → (tag b ≠ 24 ∨ j ≠ 5) → (tag b ≠ 24 ∨ j ≠ 6) → (tag b ≠ 24 ∨ j ≠ 7) → (tag b ≠ 25 ∨ j ≠ 3) → (tag b ≠ 25 ∨ j ≠ 4) → (tag b ≠ 25 ∨ j ≠ 12) → fld F b j = fld Fo b j) → NSR F x4 x5 → fld F p0 0 = .ref x0 → fld F p0 1 = .ref x1 → fld F p0 2 = .ref x2 → fld F x0 0 = .ref x3 → fld F p0 10 = .ref x4 → fld F p0 11 = .ref x5 → lv_has ls 3 [(0, .ref p0), (1, .int p1), (2, .int p2)] → W p l e { frames := 6, cells := 0, slots := 0, locals := 128 } s m args below meth c H locs 0 0 Q (F0 m 31 ls []) := by
    intro F H locs ls hT hfr hrel pf0 pf1 pf2 pf3 pf4 pf5 hl
    refine lv_aload_n hx hb dX3_newName_31 rfl (lv_at hl 0 rfl) ?_
    refine t_cVi (n := 0) (C := RX3) (T := TX3) (N := 13) (As := []) (rest := []) X hT (kt442_X3_findName l G tag L F hT.2.2.2 p0 x0 x1 x2 x3 x4 x5 m0 g0 mx0 gx0 pf0 mx1 gx1 pf1 mx2 gx2 pf2 mx3 gx3 pf3 mx4 gx4 pf4 mx5 gx5 pf5) m0 g0 rfl rfl qw_361 qw_362 qw_363 qw_28 qw_364 ⟨rfl, by decide +kernel, by decide +kernel, by decide +kernel⟩ ⟨Nat.le_of_ble_eq_true rfl, Nat.le_of_ble_eq_true rfl⟩ hl rfl rfl (Nat.le_of_ble_eq_true rfl) dX3_newName_32 ⟨Nat.le_of_ble_eq_true rfl, Nat.le_of_ble_eq_true rfl⟩ (fun z149328 F9 H locs hT hz149328 => ?_)
    obtain ⟨fz149328, hz149328⟩ := hz149328
    rw [fz149328] at hT
    refine lv_iconst (v := (-1)) hx hb dX3_newName_35 (by decide) ?_
    refine lv_icmp_eq (tgt := 51) hx hb dX3_newName_36 (by decide) (fun c149329 => ?_) (fun c149329 => ?_)
    · have w149330 := cv_eq (rfl : z149328.toInt = z149328.toInt) (by decide : ((-1) : Int32).toInt = (-1)) c149329
      exact K51  _ _ _ _  hT hfr hrel pf0 pf1 pf2 pf3 pf4 pf5 (lv_sub hl [0, 1, 2] rfl)
    · have w149331 := cv_ne (rfl : z149328.toInt = z149328.toInt) (by decide : ((-1) : Int32).toInt = (-1)) c149329
      refine lv_aload_n hx hb dX3_newName_39 rfl (lv_at hl 0 rfl) ?_
      refine lv_iconst (v := 3) hx hb dX3_newName_40 (by decide) ?_
      refine lv_aload_n hx hb dX3_newName_41 rfl (lv_at hl 0 rfl) ?_
      refine t_get (C := RX3) (T := TX3) (N := 13) X hT m0 g0 rfl rfl 0 (by decide) qw_73 inlX3 rfl dX3_newName_42 (fun v149332 hv149332 ov149332 => ?_)
      obtain rfl : v149332 = .ref x0 := hv149332.symm.trans pf0
      refine t_get (C := RX8) (T := TX8) (N := 8) X hT mx0 gx0 rfl rfl 4 (by decide) qw_227 inlX8 rfl dX3_newName_45 (fun v149333 hv149333 ov149333 => ?_)
      obtain ⟨z149334, rfl, rz149334⟩ := okV_i ov149333
      refine t_cVv (n := 2) (C := RX3) (T := TX3) (N := 13) (As := [.int 3, .int z149334]) (rest := []) X hT (kt432_X3_fail l G tag L F hT.2.2.2 p0 3 z149334 m0 g0 (by decide)) m0 g0 rfl rfl qw_287 qw_288 qw_289 qw_28 qw_290 ⟨rfl, by decide +kernel, by decide +kernel, by decide +kernel⟩ ⟨Nat.le_of_ble_eq_true rfl, Nat.le_of_ble_eq_true rfl⟩ hl rfl rfl (Nat.le_of_ble_eq_true rfl) dX3_newName_48 ⟨Nat.le_of_ble_eq_true rfl, Nat.le_of_ble_eq_true rfl⟩ (fun F H locs hT hz149335 => ?_)
      obtain ⟨yz149335, xz149335_0⟩ := hz149335
      have pf0 := (yz149335.1 _ 0 (Or.inr (by decide)) (Or.inr (by decide))).trans pf0
      have pf1 := (yz149335.1 _ 1 (Or.inr (by decide)) (Or.inr (by decide))).trans pf1
      have pf2 := (yz149335.1 _ 2 (Or.inr (by decide)) (Or.inr (by decide))).trans pf2
      have pf3 := (yz149335.1 _ 0 (Or.inr (by decide)) (Or.inr (by decide))).trans pf3
      have pf4 := (yz149335.1 _ 10 (Or.inr (by decide)) (Or.inr (by decide))).trans pf4
      have pf5 := (yz149335.1 _ 11 (Or.inr (by decide)) (Or.inr (by decide))).trans pf5
      have hv149333 := (yz149335.1 _ 4 (Or.inr (by decide)) (Or.inl (by rw [gx0]; decide))).trans hv149333
      have hfr : ∀ b j : Nat, (tag b ≠ 24 ∨ j ≠ 2) → (tag b ≠ 24 ∨ j ≠ 3) → (tag b ≠ 24 ∨ j ≠ 4) → (tag b ≠ 24 ∨ j ≠ 5) → (tag b ≠ 24 ∨ j ≠ 6) → (tag b ≠ 24 ∨ j ≠ 7) → (tag b ≠ 25 ∨ j ≠ 3) → (tag b ≠ 25 ∨ j ≠ 4) → (tag b ≠ 25 ∨ j ≠ 12) → fld F b j = fld Fo b j := fun b j n24_2 n24_3 n24_4 n24_5 n24_6 n24_7 n25_3 n25_4 n25_12 => (yz149335.1 b j n25_3 n25_4).trans (hfr b j n24_2 n24_3 n24_4 n24_5 n24_6 n24_7 n25_3 n25_4 n25_12)
      have hrel := nsr_of (fun j => yz149335.2 _ j (Or.inl gx4)) (fun j => yz149335.2 _ j (Or.inr gx5)) hrel
      obtain ⟨z149336, qz149336, rz149336⟩ := xz149335_0
      exact K51  _ _ _ _  hT hfr hrel pf0 pf1 pf2 pf3 pf4 pf5 (lv_sub hl [0, 1, 2] rfl)
  have K19 : ∀  (F : Nat → va_E) (H : Heap) (locs : List Loc) (ls : Array Slot), TH G ttC A s tag L F H locs → (∀ b j : Nat, (tag b ≠ 24 ∨ j ≠ 2) → (tag b ≠ 24 ∨ j ≠ 3) → (tag b ≠ 24 ∨ j ≠ 4) → (tag b ≠ 24 ∨ j ≠ 5) → (tag b ≠ 24 ∨ j ≠ 6) → (tag b ≠ 24 ∨ j ≠ 7) → (tag b ≠ 25 ∨ j ≠ 3) → (tag b ≠ 25 ∨ j ≠ 4) → (tag b ≠ 25 ∨ j ≠ 12) → fld F b j = fld Fo b j) → NSR F x4 x5 → fld F p0 0 = .ref x0 → fld F p0 1 = .ref x1 → fld F p0 2 = .ref x2 → fld F x0 0 = .ref x3 → fld F p0 10 = .ref x4 → fld F p0 11 = .ref x5 → lv_has ls 3 [(0, .ref p0), (1, .int p1), (2, .int p2)] → W p l e { frames := 6, cells := 0, slots := 0, locals := 128 } s m args below meth c H locs 0 0 Q (F0 m 19 ls []) := by
    intro F H locs ls hT hfr hrel pf0 pf1 pf2 pf3 pf4 pf5 hl
    refine lv_aload_n hx hb dX3_newName_19 rfl (lv_at hl 0 rfl) ?_
    refine lv_iconst (v := 1) hx hb dX3_newName_20 (by decide) ?_
    refine lv_aload_n hx hb dX3_newName_21 rfl (lv_at hl 0 rfl) ?_
    refine t_get (C := RX3) (T := TX3) (N := 13) X hT m0 g0 rfl rfl 0 (by decide) qw_73 inlX3 rfl dX3_newName_22 (fun v149337 hv149337 ov149337 => ?_)
    obtain rfl : v149337 = .ref x0 := hv149337.symm.trans pf0
    refine t_get (C := RX8) (T := TX8) (N := 8) X hT mx0 gx0 rfl rfl 4 (by decide) qw_227 inlX8 rfl dX3_newName_25 (fun v149338 hv149338 ov149338 => ?_)
    obtain ⟨z149339, rfl, rz149339⟩ := okV_i ov149338
    refine t_cVv (n := 2) (C := RX3) (T := TX3) (N := 13) (As := [.int 1, .int z149339]) (rest := []) X hT (kt432_X3_fail l G tag L F hT.2.2.2 p0 1 z149339 m0 g0 (by decide)) m0 g0 rfl rfl qw_287 qw_288 qw_289 qw_28 qw_290 ⟨rfl, by decide +kernel, by decide +kernel, by decide +kernel⟩ ⟨Nat.le_of_ble_eq_true rfl, Nat.le_of_ble_eq_true rfl⟩ hl rfl rfl (Nat.le_of_ble_eq_true rfl) dX3_newName_28 ⟨Nat.le_of_ble_eq_true rfl, Nat.le_of_ble_eq_true rfl⟩ (fun F H locs hT hz149340 => ?_)
    obtain ⟨yz149340, xz149340_0⟩ := hz149340
    have pf0 := (yz149340.1 _ 0 (Or.inr (by decide)) (Or.inr (by decide))).trans pf0
    have pf1 := (yz149340.1 _ 1 (Or.inr (by decide)) (Or.inr (by decide))).trans pf1
    have pf2 := (yz149340.1 _ 2 (Or.inr (by decide)) (Or.inr (by decide))).trans pf2
    have pf3 := (yz149340.1 _ 0 (Or.inr (by decide)) (Or.inr (by decide))).trans pf3
    have pf4 := (yz149340.1 _ 10 (Or.inr (by decide)) (Or.inr (by decide))).trans pf4
    have pf5 := (yz149340.1 _ 11 (Or.inr (by decide)) (Or.inr (by decide))).trans pf5
    have hv149338 := (yz149340.1 _ 4 (Or.inr (by decide)) (Or.inl (by rw [gx0]; decide))).trans hv149338
    have hfr : ∀ b j : Nat, (tag b ≠ 24 ∨ j ≠ 2) → (tag b ≠ 24 ∨ j ≠ 3) → (tag b ≠ 24 ∨ j ≠ 4) → (tag b ≠ 24 ∨ j ≠ 5) → (tag b ≠ 24 ∨ j ≠ 6) → (tag b ≠ 24 ∨ j ≠ 7) → (tag b ≠ 25 ∨ j ≠ 3) → (tag b ≠ 25 ∨ j ≠ 4) → (tag b ≠ 25 ∨ j ≠ 12) → fld F b j = fld Fo b j := fun b j n24_2 n24_3 n24_4 n24_5 n24_6 n24_7 n25_3 n25_4 n25_12 => (yz149340.1 b j n25_3 n25_4).trans (hfr b j n24_2 n24_3 n24_4 n24_5 n24_6 n24_7 n25_3 n25_4 n25_12)
    have hrel := nsr_of (fun j => yz149340.2 _ j (Or.inl gx4)) (fun j => yz149340.2 _ j (Or.inr gx5)) hrel
    obtain ⟨z149341, qz149341, rz149341⟩ := xz149340_0
    exact K31  _ _ _ _  hT hfr hrel pf0 pf1 pf2 pf3 pf4 pf5 (lv_sub hl [0, 1, 2] rfl)
  refine lv_aload_n hx hb dX3_newName_0 rfl (lv_at hl 0 rfl) ?_
  refine t_get (C := RX3) (T := TX3) (N := 13) X hT m0 g0 rfl rfl 0 (by decide) qw_73 inlX3 rfl dX3_newName_1 (fun v149342 hv149342 ov149342 => ?_)
  obtain rfl : v149342 = .ref x0 := hv149342.symm.trans pf0
  refine t_get (C := RX8) (T := TX8) (N := 8) X hT mx0 gx0 rfl rfl 3 (by decide) qw_170 inlX8 rfl dX3_newName_4 (fun v149343 hv149343 ov149343 => ?_)
  obtain ⟨z149344, rfl, rz149344⟩ := okV_i ov149343
  refine lv_iconst (v := 1) hx hb dX3_newName_7 (by decide) ?_
  refine lv_icmp_ne (tgt := 19) hx hb dX3_newName_8 (by decide) (fun c149345 => ?_) (fun c149345 => ?_)
  · have w149346 := cv_ne (rfl : z149344.toInt = z149344.toInt) (by decide : (1 : Int32).toInt = 1) c149345
    exact K19  _ _ _ _  hT hfr hrel pf0 pf1 pf2 pf3 pf4 pf5 (lv_sub hl [0, 1, 2] rfl)
  · have w149347 := cv_eq (rfl : z149344.toInt = z149344.toInt) (by decide : (1 : Int32).toInt = 1) c149345
    refine lv_aload_n hx hb dX3_newName_11 rfl (lv_at hl 0 rfl) ?_
    refine t_cVi (n := 0) (C := RX3) (T := TX3) (N := 13) (As := []) (rest := []) X hT (kt443_X3_lineSort l G tag L F hT.2.2.2 p0 x0 x1 x2 x3 x4 x5 m0 g0 mx0 gx0 pf0 mx1 gx1 pf1 mx2 gx2 pf2 mx3 gx3 pf3 mx4 gx4 pf4 mx5 gx5 pf5) m0 g0 rfl rfl qw_230 qw_231 qw_232 qw_28 qw_233 ⟨rfl, by decide +kernel, by decide +kernel, by decide +kernel⟩ ⟨Nat.le_of_ble_eq_true rfl, Nat.le_of_ble_eq_true rfl⟩ hl rfl rfl (Nat.le_of_ble_eq_true rfl) dX3_newName_12 ⟨Nat.le_of_ble_eq_true rfl, Nat.le_of_ble_eq_true rfl⟩ (fun z149348 F9 H locs hT hz149348 => ?_)
    obtain ⟨fz149348, hz149348⟩ := hz149348
    rw [fz149348] at hT
    refine lv_iconst (v := (-1)) hx hb dX3_newName_15 (by decide) ?_
    refine lv_icmp_eq (tgt := 31) hx hb dX3_newName_16 (by decide) (fun c149349 => ?_) (fun c149349 => ?_)
    · have w149350 := cv_eq (rfl : z149348.toInt = z149348.toInt) (by decide : ((-1) : Int32).toInt = (-1)) c149349
      exact K31  _ _ _ _  hT hfr hrel pf0 pf1 pf2 pf3 pf4 pf5 (lv_sub hl [0, 1, 2] rfl)
    · have w149351 := cv_ne (rfl : z149348.toInt = z149348.toInt) (by decide : ((-1) : Int32).toInt = (-1)) c149349
      exact K19  _ _ _ _  hT hfr hrel pf0 pf1 pf2 pf3 pf4 pf5 (lv_sub hl [0, 1, 2] rfl)
