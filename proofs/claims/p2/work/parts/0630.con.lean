set_option maxHeartbeats 4000000 in
set_option maxRecDepth 100000 in
theorem kt473_X3_whole (l : Launch) (G : KG) (tag : Nat → Nat) (L : List Nat) (Fo : Nat → va_E) (ho : okT G ttC tag L Fo) (p0 : Nat) (p1 : Int32) (p2 : Int32) (x0 : Nat) (x1 : Nat) (x2 : Nat) (x3 : Nat) (x4 : Nat) (x5 : Nat) (m0 : p0 ∈ L) (g0 : tag p0 = 25) (h1 : 0 ≤ p1.toInt ∧ p1.toInt ≤ 0) (h2 : 0 ≤ p2.toInt ∧ p2.toInt ≤ 12) (mx0 : x0 ∈ L) (gx0 : tag x0 = 24) (pf0 : fld Fo p0 0 = .ref x0) (mx1 : x1 ∈ L) (gx1 : tag x1 = 18) (pf1 : fld Fo p0 1 = .ref x1) (mx2 : x2 ∈ L) (gx2 : tag x2 = 19) (pf2 : fld Fo p0 2 = .ref x2) (mx3 : x3 ∈ L) (gx3 : tag x3 = 1) (pf3 : fld Fo x0 0 = .ref x3) (mx4 : x4 ∈ L) (gx4 : tag x4 = 14) (pf4 : fld Fo p0 10 = .ref x4) (mx5 : x5 ∈ L) (gx5 : tag x5 = 15) (pf5 : fld Fo p0 11 = .ref x5) : TMi l yX3_whole cX3_whole 4 (some .int) { frames := 3, cells := 0, slots := 0, locals := 62 } G ttC tag L Fo [.ref p0, .int p1, .int p2] (fun r F1 => (0 ≤ r.toInt ∧ r.toInt ≤ 12) ∧ ((∀ b j : Nat, (tag b ≠ 24 ∨ j ≠ 2) → (tag b ≠ 24 ∨ j ≠ 3) → (tag b ≠ 24 ∨ j ≠ 4) → (tag b ≠ 24 ∨ j ≠ 5) → (tag b ≠ 24 ∨ j ≠ 6) → (tag b ≠ 24 ∨ j ≠ 7) → (tag b ≠ 25 ∨ j ≠ 3) → (tag b ≠ 25 ∨ j ≠ 4) → fld F1 b j = fld Fo b j) ∧ EF tag F1 Fo)) := by
  refine t_bodyi (y := yX3_whole) (cd := cX3_whole) (mL := 4) (rt := (some .int)) (rm := { frames := 3, cells := 0, slots := 0, locals := 62 }) (av := [.ref p0, .int p1, .int p2]) (by decide) (Nat.le_of_ble_eq_true rfl) ho ?_
  intro p e s m args below meth c ls A Q hQ X hT hl
  have hx := X.1.1
  have hb := X.1.2.1
  have hl : lv_has ls 4 [(0, .ref p0), (1, .int p1), (2, .int p2)] := hl
  obtain ⟨F, hFo⟩ : ∃ F : Nat → va_E, F = Fo := ⟨_, rfl⟩
  rw [← hFo] at hT pf0 pf1 pf2 pf3 pf4 pf5
  have hfr : (∀ b j : Nat, (tag b ≠ 24 ∨ j ≠ 2) → (tag b ≠ 24 ∨ j ≠ 3) → (tag b ≠ 24 ∨ j ≠ 4) → (tag b ≠ 24 ∨ j ≠ 5) → (tag b ≠ 24 ∨ j ≠ 6) → (tag b ≠ 24 ∨ j ≠ 7) → (tag b ≠ 25 ∨ j ≠ 3) → (tag b ≠ 25 ∨ j ≠ 4) → fld F b j = fld Fo b j) ∧ EF tag F Fo := by
    rw [hFo]
    exact ⟨by intros; rfl, fun _ _ _ => rfl⟩
  refine lv_aload_n hx hb dX3_whole_0 rfl (lv_at hl 0 rfl) ?_
  refine t_get (C := RX3) (T := TX3) (N := 13) X hT m0 g0 rfl rfl 0 (by decide) qw_73 inlX3 rfl dX3_whole_1 (fun v163092 hv163092 ov163092 => ?_)
  obtain rfl : v163092 = .ref x0 := hv163092.symm.trans pf0
  refine t_get (C := RX8) (T := TX8) (N := 8) X hT mx0 gx0 rfl rfl 3 (by decide) qw_170 inlX8 rfl dX3_whole_4 (fun v163093 hv163093 ov163093 => ?_)
  obtain ⟨z163094, rfl, rz163094⟩ := okV_i ov163093
  refine lv_iconst (v := 2) hx hb dX3_whole_7 (by decide) ?_
  refine lv_icmp_eq (tgt := 26) hx hb dX3_whole_8 (by decide) (fun c163095 => ?_) (fun c163095 => ?_)
  · have w163096 := cv_eq (rfl : z163094.toInt = z163094.toInt) (by decide : (2 : Int32).toInt = 2) c163095
    refine lv_aload_n hx hb dX3_whole_26 rfl (lv_at hl 0 rfl) ?_
    refine t_get (C := RX3) (T := TX3) (N := 13) X hT m0 g0 rfl rfl 0 (by decide) qw_73 inlX3 rfl dX3_whole_27 (fun v163097 hv163097 ov163097 => ?_)
    obtain rfl : v163097 = .ref x0 := hv163097.symm.trans pf0
    refine t_get (C := RX8) (T := TX8) (N := 8) X hT mx0 gx0 rfl rfl 6 (by decide) qw_322 inlX8 rfl dX3_whole_30 (fun v163098 hv163098 ov163098 => ?_)
    obtain ⟨z163099, rfl, rz163099⟩ := okV_i ov163098
    refine lv_iload_n hx hb dX3_whole_33 rfl (lv_at hl 1 rfl) ?_
    refine lv_icmp_lt (tgt := 48) hx hb dX3_whole_34 (by decide) (fun c163100 => ?_) (fun c163100 => ?_)
    · have w163101 := cv_lt (rfl : z163099.toInt = z163099.toInt) (rfl : p1.toInt = p1.toInt) c163100
      refine lv_aload_n hx hb dX3_whole_48 rfl (lv_at hl 0 rfl) ?_
      refine lv_iconst (v := 4) hx hb dX3_whole_49 (by decide) ?_
      refine lv_aload_n hx hb dX3_whole_50 rfl (lv_at hl 0 rfl) ?_
      refine t_get (C := RX3) (T := TX3) (N := 13) X hT m0 g0 rfl rfl 0 (by decide) qw_73 inlX3 rfl dX3_whole_51 (fun v163102 hv163102 ov163102 => ?_)
      obtain rfl : v163102 = .ref x0 := hv163102.symm.trans pf0
      refine t_get (C := RX8) (T := TX8) (N := 8) X hT mx0 gx0 rfl rfl 4 (by decide) qw_227 inlX8 rfl dX3_whole_54 (fun v163103 hv163103 ov163103 => ?_)
      obtain ⟨z163104, rfl, rz163104⟩ := okV_i ov163103
      refine t_cVv (n := 2) (C := RX3) (T := TX3) (N := 13) (As := [.int 4, .int z163104]) (rest := []) X hT (kt432_X3_fail l G tag L F hT.2.2.2 p0 4 z163104 m0 g0 (by decide)) m0 g0 rfl rfl qw_287 qw_288 qw_289 qw_28 qw_290 ⟨rfl, by decide +kernel, by decide +kernel, by decide +kernel⟩ ⟨Nat.le_of_ble_eq_true rfl, Nat.le_of_ble_eq_true rfl⟩ hl rfl rfl (Nat.le_of_ble_eq_true rfl) dX3_whole_57 ⟨Nat.le_of_ble_eq_true rfl, Nat.le_of_ble_eq_true rfl⟩ (fun F H locs hT hz163105 => ?_)
      obtain ⟨yz163105, xz163105_0⟩ := hz163105
      have pf0 := (yz163105.1 _ 0 (Or.inr (by decide)) (Or.inr (by decide))).trans pf0
      have pf1 := (yz163105.1 _ 1 (Or.inr (by decide)) (Or.inr (by decide))).trans pf1
      have pf2 := (yz163105.1 _ 2 (Or.inr (by decide)) (Or.inr (by decide))).trans pf2
      have pf3 := (yz163105.1 _ 0 (Or.inr (by decide)) (Or.inr (by decide))).trans pf3
      have pf4 := (yz163105.1 _ 10 (Or.inr (by decide)) (Or.inr (by decide))).trans pf4
      have pf5 := (yz163105.1 _ 11 (Or.inr (by decide)) (Or.inr (by decide))).trans pf5
      have hv163093 := (yz163105.1 _ 3 (Or.inl (by rw [gx0]; decide)) (Or.inr (by decide))).trans hv163093
      have hv163098 := (yz163105.1 _ 6 (Or.inr (by decide)) (Or.inr (by decide))).trans hv163098
      have hv163103 := (yz163105.1 _ 4 (Or.inr (by decide)) (Or.inl (by rw [gx0]; decide))).trans hv163103
      have hfr : (∀ b j : Nat, (tag b ≠ 24 ∨ j ≠ 2) → (tag b ≠ 24 ∨ j ≠ 3) → (tag b ≠ 24 ∨ j ≠ 4) → (tag b ≠ 24 ∨ j ≠ 5) → (tag b ≠ 24 ∨ j ≠ 6) → (tag b ≠ 24 ∨ j ≠ 7) → (tag b ≠ 25 ∨ j ≠ 3) → (tag b ≠ 25 ∨ j ≠ 4) → fld F b j = fld Fo b j) ∧ EF tag F Fo := ⟨fun b j n24_2 n24_3 n24_4 n24_5 n24_6 n24_7 n25_3 n25_4 => (yz163105.1 b j n25_3 n25_4).trans (hfr.1 b j n24_2 n24_3 n24_4 n24_5 n24_6 n24_7 n25_3 n25_4), fun b j hb => (yz163105.2 b j hb).trans (hfr.2 b j hb)⟩
      obtain ⟨z163106, qz163106, rz163106⟩ := xz163105_0
      refine lv_aload_n hx hb dX3_whole_60 rfl (lv_at hl 0 rfl) ?_
      refine t_get (C := RX3) (T := TX3) (N := 13) X hT m0 g0 rfl rfl 3 (by decide) qw_163 inlX3 rfl dX3_whole_61 (fun v163107 hv163107 ov163107 => ?_)
      obtain rfl : v163107 = .int z163106 := hv163107.symm.trans qz163106
      refine lv_if_eq (tgt := 69) hx hb dX3_whole_64 (by decide) (fun c163108 => ?_) (fun c163108 => ?_)
      · have w163109 := cv_eq (rfl : z163106.toInt = z163106.toInt) (by decide : (0 : Int32).toInt = 0) c163108
        exfalso
        omega
      · have w163110 := cv_ne (rfl : z163106.toInt = z163106.toInt) (by decide : (0 : Int32).toInt = 0) c163108
        refine lv_iload_n hx hb dX3_whole_67 rfl (lv_at hl 1 rfl) ?_
        exact t_iret hQ X hT (⟨(by omega), hfr⟩) (Nat.le_of_ble_eq_true rfl) (Nat.le_of_ble_eq_true rfl) dX3_whole_68
    · have w163111 := cv_nlt (rfl : z163099.toInt = z163099.toInt) (rfl : p1.toInt = p1.toInt) c163100
      refine lv_aload_n hx hb dX3_whole_37 rfl (lv_at hl 0 rfl) ?_
      refine t_get (C := RX3) (T := TX3) (N := 13) X hT m0 g0 rfl rfl 0 (by decide) qw_73 inlX3 rfl dX3_whole_38 (fun v163112 hv163112 ov163112 => ?_)
      obtain rfl : v163112 = .ref x0 := hv163112.symm.trans pf0
      refine t_get (C := RX8) (T := TX8) (N := 8) X hT mx0 gx0 rfl rfl 6 (by decide) qw_322 inlX8 rfl dX3_whole_41 (fun v163113 hv163113 ov163113 => ?_)
      obtain rfl : v163113 = .int z163099 := hv163113.symm.trans hv163098
      refine lv_iload_n hx hb dX3_whole_44 rfl (lv_at hl 2 rfl) ?_
      refine lv_icmp_le (tgt := 60) hx hb dX3_whole_45 (by decide) (fun c163114 => ?_) (fun c163114 => ?_)
      · have w163115 := cv_le (rfl : z163099.toInt = z163099.toInt) (rfl : p2.toInt = p2.toInt) c163114
        refine lv_aload_n hx hb dX3_whole_60 rfl (lv_at hl 0 rfl) ?_
        refine t_get (C := RX3) (T := TX3) (N := 13) X hT m0 g0 rfl rfl 3 (by decide) qw_163 inlX3 rfl dX3_whole_61 (fun v163116 hv163116 ov163116 => ?_)
        obtain ⟨z163117, rfl, rz163117⟩ := okV_i ov163116
        refine lv_if_eq (tgt := 69) hx hb dX3_whole_64 (by decide) (fun c163118 => ?_) (fun c163118 => ?_)
        · have w163119 := cv_eq (rfl : z163117.toInt = z163117.toInt) (by decide : (0 : Int32).toInt = 0) c163118
          refine lv_aload_n hx hb dX3_whole_69 rfl (lv_at hl 0 rfl) ?_
          refine t_get (C := RX3) (T := TX3) (N := 13) X hT m0 g0 rfl rfl 0 (by decide) qw_73 inlX3 rfl dX3_whole_70 (fun v163120 hv163120 ov163120 => ?_)
          obtain rfl : v163120 = .ref x0 := hv163120.symm.trans pf0
          refine t_get (C := RX8) (T := TX8) (N := 8) X hT mx0 gx0 rfl rfl 6 (by decide) qw_322 inlX8 rfl dX3_whole_73 (fun v163121 hv163121 ov163121 => ?_)
          obtain rfl : v163121 = .int z163099 := hv163121.symm.trans hv163098
          refine lv_istore_n (lv' := [(3, .int z163099), (0, .ref p0), (1, .int p1), (2, .int p2)]) hx hb dX3_whole_76 rfl hl (by decide) rfl (fun ls hl => ?_)
          refine lv_aload_n hx hb dX3_whole_77 rfl (lv_at hl 1 rfl) ?_
          refine t_get (C := RX3) (T := TX3) (N := 13) X hT m0 g0 rfl rfl 0 (by decide) qw_73 inlX3 rfl dX3_whole_78 (fun v163122 hv163122 ov163122 => ?_)
          obtain rfl : v163122 = .ref x0 := hv163122.symm.trans pf0
          refine t_cVv (n := 0) (C := RX8) (T := TX8) (N := 8) (As := []) (rest := []) X hT (kt440_X8_advance l G tag L F hT.2.2.2 x0 x3 mx0 gx0 mx3 gx3 pf3) mx0 gx0 rfl rfl qw_305 qw_197 qw_198 qw_72 qw_199 ⟨rfl, by decide +kernel, by decide +kernel, by decide +kernel⟩ ⟨Nat.le_of_ble_eq_true rfl, Nat.le_of_ble_eq_true rfl⟩ hl rfl rfl (Nat.le_of_ble_eq_true rfl) dX3_whole_81 ⟨Nat.le_of_ble_eq_true rfl, Nat.le_of_ble_eq_true rfl⟩ (fun F H locs hT hz163123 => ?_)
          have yz163123 := hz163123
          have pf0 := (yz163123.1 _ 0 (Or.inr (by decide)) (Or.inr (by decide)) (Or.inr (by decide)) (Or.inr (by decide)) (Or.inr (by decide)) (Or.inr (by decide))).trans pf0
          have pf1 := (yz163123.1 _ 1 (Or.inr (by decide)) (Or.inr (by decide)) (Or.inr (by decide)) (Or.inr (by decide)) (Or.inr (by decide)) (Or.inr (by decide))).trans pf1
          have pf2 := (yz163123.1 _ 2 (Or.inl (by rw [g0]; decide)) (Or.inr (by decide)) (Or.inr (by decide)) (Or.inr (by decide)) (Or.inr (by decide)) (Or.inr (by decide))).trans pf2
          have pf3 := (yz163123.1 _ 0 (Or.inr (by decide)) (Or.inr (by decide)) (Or.inr (by decide)) (Or.inr (by decide)) (Or.inr (by decide)) (Or.inr (by decide))).trans pf3
          have pf4 := (yz163123.1 _ 10 (Or.inr (by decide)) (Or.inr (by decide)) (Or.inr (by decide)) (Or.inr (by decide)) (Or.inr (by decide)) (Or.inr (by decide))).trans pf4
          have pf5 := (yz163123.1 _ 11 (Or.inr (by decide)) (Or.inr (by decide)) (Or.inr (by decide)) (Or.inr (by decide)) (Or.inr (by decide)) (Or.inr (by decide))).trans pf5
          have hv163116 := (yz163123.1 _ 3 (Or.inr (by decide)) (Or.inl (by rw [g0]; decide)) (Or.inr (by decide)) (Or.inr (by decide)) (Or.inr (by decide)) (Or.inr (by decide))).trans hv163116
          have hfr : (∀ b j : Nat, (tag b ≠ 24 ∨ j ≠ 2) → (tag b ≠ 24 ∨ j ≠ 3) → (tag b ≠ 24 ∨ j ≠ 4) → (tag b ≠ 24 ∨ j ≠ 5) → (tag b ≠ 24 ∨ j ≠ 6) → (tag b ≠ 24 ∨ j ≠ 7) → (tag b ≠ 25 ∨ j ≠ 3) → (tag b ≠ 25 ∨ j ≠ 4) → fld F b j = fld Fo b j) ∧ EF tag F Fo := ⟨fun b j n24_2 n24_3 n24_4 n24_5 n24_6 n24_7 n25_3 n25_4 => (yz163123.1 b j n24_2 n24_3 n24_4 n24_5 n24_6 n24_7).trans (hfr.1 b j n24_2 n24_3 n24_4 n24_5 n24_6 n24_7 n25_3 n25_4), fun b j hb => (yz163123.2 b j hb).trans (hfr.2 b j hb)⟩
          refine lv_iload_n hx hb dX3_whole_84 rfl (lv_at hl 0 rfl) ?_
          exact t_iret hQ X hT (⟨(by omega), hfr⟩) (Nat.le_of_ble_eq_true rfl) (Nat.le_of_ble_eq_true rfl) dX3_whole_85
        · have w163124 := cv_ne (rfl : z163117.toInt = z163117.toInt) (by decide : (0 : Int32).toInt = 0) c163118
          refine lv_iload_n hx hb dX3_whole_67 rfl (lv_at hl 1 rfl) ?_
          exact t_iret hQ X hT (⟨(by omega), hfr⟩) (Nat.le_of_ble_eq_true rfl) (Nat.le_of_ble_eq_true rfl) dX3_whole_68
      · have w163125 := cv_nle (rfl : z163099.toInt = z163099.toInt) (rfl : p2.toInt = p2.toInt) c163114
        refine lv_aload_n hx hb dX3_whole_48 rfl (lv_at hl 0 rfl) ?_
        refine lv_iconst (v := 4) hx hb dX3_whole_49 (by decide) ?_
        refine lv_aload_n hx hb dX3_whole_50 rfl (lv_at hl 0 rfl) ?_
        refine t_get (C := RX3) (T := TX3) (N := 13) X hT m0 g0 rfl rfl 0 (by decide) qw_73 inlX3 rfl dX3_whole_51 (fun v163126 hv163126 ov163126 => ?_)
        obtain rfl : v163126 = .ref x0 := hv163126.symm.trans pf0
        refine t_get (C := RX8) (T := TX8) (N := 8) X hT mx0 gx0 rfl rfl 4 (by decide) qw_227 inlX8 rfl dX3_whole_54 (fun v163127 hv163127 ov163127 => ?_)
        obtain ⟨z163128, rfl, rz163128⟩ := okV_i ov163127
        refine t_cVv (n := 2) (C := RX3) (T := TX3) (N := 13) (As := [.int 4, .int z163128]) (rest := []) X hT (kt432_X3_fail l G tag L F hT.2.2.2 p0 4 z163128 m0 g0 (by decide)) m0 g0 rfl rfl qw_287 qw_288 qw_289 qw_28 qw_290 ⟨rfl, by decide +kernel, by decide +kernel, by decide +kernel⟩ ⟨Nat.le_of_ble_eq_true rfl, Nat.le_of_ble_eq_true rfl⟩ hl rfl rfl (Nat.le_of_ble_eq_true rfl) dX3_whole_57 ⟨Nat.le_of_ble_eq_true rfl, Nat.le_of_ble_eq_true rfl⟩ (fun F H locs hT hz163129 => ?_)
        obtain ⟨yz163129, xz163129_0⟩ := hz163129
        have pf0 := (yz163129.1 _ 0 (Or.inr (by decide)) (Or.inr (by decide))).trans pf0
        have pf1 := (yz163129.1 _ 1 (Or.inr (by decide)) (Or.inr (by decide))).trans pf1
        have pf2 := (yz163129.1 _ 2 (Or.inr (by decide)) (Or.inr (by decide))).trans pf2
        have pf3 := (yz163129.1 _ 0 (Or.inr (by decide)) (Or.inr (by decide))).trans pf3
        have pf4 := (yz163129.1 _ 10 (Or.inr (by decide)) (Or.inr (by decide))).trans pf4
        have pf5 := (yz163129.1 _ 11 (Or.inr (by decide)) (Or.inr (by decide))).trans pf5
        have hv163093 := (yz163129.1 _ 3 (Or.inl (by rw [gx0]; decide)) (Or.inr (by decide))).trans hv163093
        have hv163098 := (yz163129.1 _ 6 (Or.inr (by decide)) (Or.inr (by decide))).trans hv163098
        have hv163127 := (yz163129.1 _ 4 (Or.inr (by decide)) (Or.inl (by rw [gx0]; decide))).trans hv163127
        have hfr : (∀ b j : Nat, (tag b ≠ 24 ∨ j ≠ 2) → (tag b ≠ 24 ∨ j ≠ 3) → (tag b ≠ 24 ∨ j ≠ 4) → (tag b ≠ 24 ∨ j ≠ 5) → (tag b ≠ 24 ∨ j ≠ 6) → (tag b ≠ 24 ∨ j ≠ 7) → (tag b ≠ 25 ∨ j ≠ 3) → (tag b ≠ 25 ∨ j ≠ 4) → fld F b j = fld Fo b j) ∧ EF tag F Fo := ⟨fun b j n24_2 n24_3 n24_4 n24_5 n24_6 n24_7 n25_3 n25_4 => (yz163129.1 b j n25_3 n25_4).trans (hfr.1 b j n24_2 n24_3 n24_4 n24_5 n24_6 n24_7 n25_3 n25_4), fun b j hb => (yz163129.2 b j hb).trans (hfr.2 b j hb)⟩
        obtain ⟨z163130, qz163130, rz163130⟩ := xz163129_0
        refine lv_aload_n hx hb dX3_whole_60 rfl (lv_at hl 0 rfl) ?_
        refine t_get (C := RX3) (T := TX3) (N := 13) X hT m0 g0 rfl rfl 3 (by decide) qw_163 inlX3 rfl dX3_whole_61 (fun v163131 hv163131 ov163131 => ?_)
        obtain rfl : v163131 = .int z163130 := hv163131.symm.trans qz163130
        refine lv_if_eq (tgt := 69) hx hb dX3_whole_64 (by decide) (fun c163132 => ?_) (fun c163132 => ?_)
        · have w163133 := cv_eq (rfl : z163130.toInt = z163130.toInt) (by decide : (0 : Int32).toInt = 0) c163132
          exfalso
          omega
        · have w163134 := cv_ne (rfl : z163130.toInt = z163130.toInt) (by decide : (0 : Int32).toInt = 0) c163132
          refine lv_iload_n hx hb dX3_whole_67 rfl (lv_at hl 1 rfl) ?_
          exact t_iret hQ X hT (⟨(by omega), hfr⟩) (Nat.le_of_ble_eq_true rfl) (Nat.le_of_ble_eq_true rfl) dX3_whole_68
  · have w163135 := cv_ne (rfl : z163094.toInt = z163094.toInt) (by decide : (2 : Int32).toInt = 2) c163095
    refine lv_aload_n hx hb dX3_whole_11 rfl (lv_at hl 0 rfl) ?_
    refine lv_iconst (v := 1) hx hb dX3_whole_12 (by decide) ?_
    refine lv_aload_n hx hb dX3_whole_13 rfl (lv_at hl 0 rfl) ?_
    refine t_get (C := RX3) (T := TX3) (N := 13) X hT m0 g0 rfl rfl 0 (by decide) qw_73 inlX3 rfl dX3_whole_14 (fun v163136 hv163136 ov163136 => ?_)
    obtain rfl : v163136 = .ref x0 := hv163136.symm.trans pf0
    refine t_get (C := RX8) (T := TX8) (N := 8) X hT mx0 gx0 rfl rfl 4 (by decide) qw_227 inlX8 rfl dX3_whole_17 (fun v163137 hv163137 ov163137 => ?_)
    obtain ⟨z163138, rfl, rz163138⟩ := okV_i ov163137
    refine t_cVv (n := 2) (C := RX3) (T := TX3) (N := 13) (As := [.int 1, .int z163138]) (rest := []) X hT (kt432_X3_fail l G tag L F hT.2.2.2 p0 1 z163138 m0 g0 (by decide)) m0 g0 rfl rfl qw_287 qw_288 qw_289 qw_28 qw_290 ⟨rfl, by decide +kernel, by decide +kernel, by decide +kernel⟩ ⟨Nat.le_of_ble_eq_true rfl, Nat.le_of_ble_eq_true rfl⟩ hl rfl rfl (Nat.le_of_ble_eq_true rfl) dX3_whole_20 ⟨Nat.le_of_ble_eq_true rfl, Nat.le_of_ble_eq_true rfl⟩ (fun F H locs hT hz163139 => ?_)
    obtain ⟨yz163139, xz163139_0⟩ := hz163139
    have pf0 := (yz163139.1 _ 0 (Or.inr (by decide)) (Or.inr (by decide))).trans pf0
    have pf1 := (yz163139.1 _ 1 (Or.inr (by decide)) (Or.inr (by decide))).trans pf1
    have pf2 := (yz163139.1 _ 2 (Or.inr (by decide)) (Or.inr (by decide))).trans pf2
    have pf3 := (yz163139.1 _ 0 (Or.inr (by decide)) (Or.inr (by decide))).trans pf3
    have pf4 := (yz163139.1 _ 10 (Or.inr (by decide)) (Or.inr (by decide))).trans pf4
    have pf5 := (yz163139.1 _ 11 (Or.inr (by decide)) (Or.inr (by decide))).trans pf5
    have hv163093 := (yz163139.1 _ 3 (Or.inl (by rw [gx0]; decide)) (Or.inr (by decide))).trans hv163093
    have hv163137 := (yz163139.1 _ 4 (Or.inr (by decide)) (Or.inl (by rw [gx0]; decide))).trans hv163137
    have hfr : (∀ b j : Nat, (tag b ≠ 24 ∨ j ≠ 2) → (tag b ≠ 24 ∨ j ≠ 3) → (tag b ≠ 24 ∨ j ≠ 4) → (tag b ≠ 24 ∨ j ≠ 5) → (tag b ≠ 24 ∨ j ≠ 6) → (tag b ≠ 24 ∨ j ≠ 7) → (tag b ≠ 25 ∨ j ≠ 3) → (tag b ≠ 25 ∨ j ≠ 4) → fld F b j = fld Fo b j) ∧ EF tag F Fo := ⟨fun b j n24_2 n24_3 n24_4 n24_5 n24_6 n24_7 n25_3 n25_4 => (yz163139.1 b j n25_3 n25_4).trans (hfr.1 b j n24_2 n24_3 n24_4 n24_5 n24_6 n24_7 n25_3 n25_4), fun b j hb => (yz163139.2 b j hb).trans (hfr.2 b j hb)⟩
    obtain ⟨z163140, qz163140, rz163140⟩ := xz163139_0
    refine lv_goto (tgt := 60) hx hb dX3_whole_23 (by decide) ?_
    refine lv_aload_n hx hb dX3_whole_60 rfl (lv_at hl 0 rfl) ?_
    refine t_get (C := RX3) (T := TX3) (N := 13) X hT m0 g0 rfl rfl 3 (by decide) qw_163 inlX3 rfl dX3_whole_61 (fun v163141 hv163141 ov163141 => ?_)
    obtain rfl : v163141 = .int z163140 := hv163141.symm.trans qz163140
    refine lv_if_eq (tgt := 69) hx hb dX3_whole_64 (by decide) (fun c163142 => ?_) (fun c163142 => ?_)
    · have w163143 := cv_eq (rfl : z163140.toInt = z163140.toInt) (by decide : (0 : Int32).toInt = 0) c163142
      exfalso
      omega
    · have w163144 := cv_ne (rfl : z163140.toInt = z163140.toInt) (by decide : (0 : Int32).toInt = 0) c163142
      refine lv_iload_n hx hb dX3_whole_67 rfl (lv_at hl 1 rfl) ?_
      exact t_iret hQ X hT (⟨(by omega), hfr⟩) (Nat.le_of_ble_eq_true rfl) (Nat.le_of_ble_eq_true rfl) dX3_whole_68
set_option maxHeartbeats 4000000 in
set_option maxRecDepth 100000 in
theorem kt474_X3_readSkin (l : Launch) (G : KG) (tag : Nat → Nat) (L : List Nat) (Fo : Nat → va_E) (ho : okT G ttC tag L Fo) (p0 : Nat) (x0 : Nat) (x1 : Nat) (x2 : Nat) (x3 : Nat) (x4 : Nat) (x5 : Nat) (m0 : p0 ∈ L) (g0 : tag p0 = 25) (mx0 : x0 ∈ L) (gx0 : tag x0 = 24) (pf0 : fld Fo p0 0 = .ref x0) (mx1 : x1 ∈ L) (gx1 : tag x1 = 18) (pf1 : fld Fo p0 1 = .ref x1) (mx2 : x2 ∈ L) (gx2 : tag x2 = 19) (pf2 : fld Fo p0 2 = .ref x2) (mx3 : x3 ∈ L) (gx3 : tag x3 = 1) (pf3 : fld Fo x0 0 = .ref x3) (mx4 : x4 ∈ L) (gx4 : tag x4 = 14) (pf4 : fld Fo p0 10 = .ref x4) (mx5 : x5 ∈ L) (gx5 : tag x5 = 15) (pf5 : fld Fo p0 11 = .ref x5) (hrel : NSR Fo x4 x5) : TMv l yX3_readSkin cX3_readSkin 6 { frames := 7, cells := 0, slots := 0, locals := 150 } G ttC tag L Fo [.ref p0] (fun F1 => ((∀ b j : Nat, (tag b ≠ 24 ∨ j ≠ 2) → (tag b ≠ 24 ∨ j ≠ 3) → (tag b ≠ 24 ∨ j ≠ 4) → (tag b ≠ 24 ∨ j ≠ 5) → (tag b ≠ 24 ∨ j ≠ 6) → (tag b ≠ 24 ∨ j ≠ 7) → (tag b ≠ 25 ∨ j ≠ 3) → (tag b ≠ 25 ∨ j ≠ 4) → fld F1 b j = fld Fo b j) ∧ EF tag F1 Fo) ∧ (NSR F1 x4 x5)) := by
  refine t_bodyv (y := yX3_readSkin) (cd := cX3_readSkin) (mL := 6) (rm := { frames := 7, cells := 0, slots := 0, locals := 150 }) (av := [.ref p0]) (by decide) (Nat.le_of_ble_eq_true rfl) ho ?_
  intro p e s m args below meth c ls A Q hQ X hT hl
  have hx := X.1.1
  have hb := X.1.2.1
  have hl : lv_has ls 6 [(0, .ref p0)] := hl
  obtain ⟨F, hFo⟩ : ∃ F : Nat → va_E, F = Fo := ⟨_, rfl⟩
  rw [← hFo] at hT pf0 pf1 pf2 pf3 pf4 pf5 hrel
  have hfr : (∀ b j : Nat, (tag b ≠ 24 ∨ j ≠ 2) → (tag b ≠ 24 ∨ j ≠ 3) → (tag b ≠ 24 ∨ j ≠ 4) → (tag b ≠ 24 ∨ j ≠ 5) → (tag b ≠ 24 ∨ j ≠ 6) → (tag b ≠ 24 ∨ j ≠ 7) → (tag b ≠ 25 ∨ j ≠ 3) → (tag b ≠ 25 ∨ j ≠ 4) → fld F b j = fld Fo b j) ∧ EF tag F Fo := by
    rw [hFo]
    exact ⟨by intros; rfl, fun _ _ _ => rfl⟩
  have K68 : ∀ (z163755 : Int32) (z163756 : Int32) (F : Nat → va_E) (H : Heap) (locs : List Loc) (ls : Array Slot), (0 ≤ z163755.toInt ∧ z163755.toInt ≤ 3) → (0 ≤ z163756.toInt ∧ z163756.toInt ≤ 7) → TH G ttC A s tag L F H locs → ((∀ b j : Nat, (tag b ≠ 24 ∨ j ≠ 2) → (tag b ≠ 24 ∨ j ≠ 3) → (tag b ≠ 24 ∨ j ≠ 4) → (tag b ≠ 24 ∨ j ≠ 5) → (tag b ≠ 24 ∨ j ≠ 6) → (tag b ≠ 24 ∨ j ≠ 7) → (tag b ≠ 25 ∨ j ≠ 3) → (tag b ≠ 25 ∨ j ≠ 4) → fld F b j = fld Fo b j) ∧ EF tag F Fo) → NSR F x4 x5 → fld F p0 0 = .ref x0 → fld F p0 1 = .ref x1 → fld F p0 2 = .ref x2 → fld F x0 0 = .ref x3 → fld F p0 10 = .ref x4 → fld F p0 11 = .ref x5 → fld F p0 3 = .int z163756 → lv_has ls 6 [(0, .ref p0), (1, .int z163755)] → W p l e { frames := 7, cells := 0, slots := 0, locals := 150 } s m args below meth c H locs 0 0 Q (F0 m 68 ls []) := by
    intro z163755 z163756 F H locs ls rz163755 rz163756 hT hfr hrel pf0 pf1 pf2 pf3 pf4 pf5 qz163756 hl
    refine lv_aload_n hx hb dX3_readSkin_68 rfl (lv_at hl 0 rfl) ?_
    refine lv_iconst (v := 3) hx hb dX3_readSkin_69 (by decide) ?_
    refine t_cVi (n := 1) (C := RX3) (T := TX3) (N := 13) (As := [.int 3]) (rest := []) X hT (kt453_X3_name l G tag L F hT.2.2.2 p0 3 x0 x1 x2 x3 x4 x5 m0 g0 (by decide) mx0 gx0 pf0 mx1 gx1 pf1 mx2 gx2 pf2 mx3 gx3 pf3 mx4 gx4 pf4 mx5 gx5 pf5 hrel) m0 g0 rfl rfl qw_393 qw_394 qw_395 qw_28 qw_396 ⟨rfl, by decide +kernel, by decide +kernel, by decide +kernel⟩ ⟨Nat.le_of_ble_eq_true rfl, Nat.le_of_ble_eq_true rfl⟩ hl rfl rfl (Nat.le_of_ble_eq_true rfl) dX3_readSkin_70 ⟨Nat.le_of_ble_eq_true rfl, Nat.le_of_ble_eq_true rfl⟩ (fun z163757 F H locs hT hz163757 => ?_)
    obtain ⟨hz163757, yz163757, hrel⟩ := hz163757
    have pf0 := (yz163757.1 _ 0 (Or.inr (by decide)) (Or.inr (by decide)) (Or.inr (by decide)) (Or.inr (by decide)) (Or.inr (by decide)) (Or.inr (by decide)) (Or.inr (by decide)) (Or.inr (by decide))).trans pf0
    have pf1 := (yz163757.1 _ 1 (Or.inr (by decide)) (Or.inr (by decide)) (Or.inr (by decide)) (Or.inr (by decide)) (Or.inr (by decide)) (Or.inr (by decide)) (Or.inr (by decide)) (Or.inr (by decide))).trans pf1
    have pf2 := (yz163757.1 _ 2 (Or.inl (by rw [g0]; decide)) (Or.inr (by decide)) (Or.inr (by decide)) (Or.inr (by decide)) (Or.inr (by decide)) (Or.inr (by decide)) (Or.inr (by decide)) (Or.inr (by decide))).trans pf2
    have pf3 := (yz163757.1 _ 0 (Or.inr (by decide)) (Or.inr (by decide)) (Or.inr (by decide)) (Or.inr (by decide)) (Or.inr (by decide)) (Or.inr (by decide)) (Or.inr (by decide)) (Or.inr (by decide))).trans pf3
    have pf4 := (yz163757.1 _ 10 (Or.inr (by decide)) (Or.inr (by decide)) (Or.inr (by decide)) (Or.inr (by decide)) (Or.inr (by decide)) (Or.inr (by decide)) (Or.inr (by decide)) (Or.inr (by decide))).trans pf4
    have pf5 := (yz163757.1 _ 11 (Or.inr (by decide)) (Or.inr (by decide)) (Or.inr (by decide)) (Or.inr (by decide)) (Or.inr (by decide)) (Or.inr (by decide)) (Or.inr (by decide)) (Or.inr (by decide))).trans pf5
    have hfr : (∀ b j : Nat, (tag b ≠ 24 ∨ j ≠ 2) → (tag b ≠ 24 ∨ j ≠ 3) → (tag b ≠ 24 ∨ j ≠ 4) → (tag b ≠ 24 ∨ j ≠ 5) → (tag b ≠ 24 ∨ j ≠ 6) → (tag b ≠ 24 ∨ j ≠ 7) → (tag b ≠ 25 ∨ j ≠ 3) → (tag b ≠ 25 ∨ j ≠ 4) → fld F b j = fld Fo b j) ∧ EF tag F Fo := ⟨fun b j n24_2 n24_3 n24_4 n24_5 n24_6 n24_7 n25_3 n25_4 => (yz163757.1 b j n24_2 n24_3 n24_4 n24_5 n24_6 n24_7 n25_3 n25_4).trans (hfr.1 b j n24_2 n24_3 n24_4 n24_5 n24_6 n24_7 n25_3 n25_4), fun b j hb => (yz163757.2 b j hb).trans (hfr.2 b j hb)⟩
    refine lv_istore_n (lv' := [(2, .int z163757), (0, .ref p0), (1, .int z163755)]) hx hb dX3_readSkin_73 rfl hl (by decide) rfl (fun ls hl => ?_)
    refine lv_aload_n hx hb dX3_readSkin_74 rfl (lv_at hl 1 rfl) ?_
    refine m_ldcKw X 34 rfl dX3_readSkin_75 ?_
    refine m_ldcKw X 35 rfl dX3_readSkin_78 ?_
    refine m_ldcKw X 36 rfl dX3_readSkin_81 ?_
    refine m_ldcKw X 37 rfl dX3_readSkin_84 ?_
    refine t_cVi (n := 4) (C := RX3) (T := TX3) (N := 13) (As := [.ref (G.2 (100 + 34)), .ref (G.2 (100 + 35)), .ref (G.2 (100 + 36)), .ref (G.2 (100 + 37))]) (rest := []) X hT (kt441_X3_choice l G tag L F hT.2.2.2 p0 34 35 36 37 x0 x1 x2 x3 x4 x5 m0 g0 (by decide) (by decide) (by decide) (by decide) mx0 gx0 pf0 mx1 gx1 pf1 mx2 gx2 pf2 mx3 gx3 pf3 mx4 gx4 pf4 mx5 gx5 pf5) m0 g0 rfl rfl qw_323 qw_324 qw_325 qw_28 qw_326 ⟨rfl, by decide +kernel, by decide +kernel, by decide +kernel⟩ ⟨Nat.le_of_ble_eq_true rfl, Nat.le_of_ble_eq_true rfl⟩ hl rfl rfl (Nat.le_of_ble_eq_true rfl) dX3_readSkin_87 ⟨Nat.le_of_ble_eq_true rfl, Nat.le_of_ble_eq_true rfl⟩ (fun z163758 F H locs hT hz163758 => ?_)
    obtain ⟨hz163758, yz163758⟩ := hz163758
    have pf0 := (yz163758.1 _ 0 (Or.inr (by decide)) (Or.inr (by decide)) (Or.inr (by decide)) (Or.inr (by decide)) (Or.inr (by decide)) (Or.inr (by decide)) (Or.inr (by decide)) (Or.inr (by decide))).trans pf0
    have pf1 := (yz163758.1 _ 1 (Or.inr (by decide)) (Or.inr (by decide)) (Or.inr (by decide)) (Or.inr (by decide)) (Or.inr (by decide)) (Or.inr (by decide)) (Or.inr (by decide)) (Or.inr (by decide))).trans pf1
    have pf2 := (yz163758.1 _ 2 (Or.inl (by rw [g0]; decide)) (Or.inr (by decide)) (Or.inr (by decide)) (Or.inr (by decide)) (Or.inr (by decide)) (Or.inr (by decide)) (Or.inr (by decide)) (Or.inr (by decide))).trans pf2
    have pf3 := (yz163758.1 _ 0 (Or.inr (by decide)) (Or.inr (by decide)) (Or.inr (by decide)) (Or.inr (by decide)) (Or.inr (by decide)) (Or.inr (by decide)) (Or.inr (by decide)) (Or.inr (by decide))).trans pf3
    have pf4 := (yz163758.1 _ 10 (Or.inr (by decide)) (Or.inr (by decide)) (Or.inr (by decide)) (Or.inr (by decide)) (Or.inr (by decide)) (Or.inr (by decide)) (Or.inr (by decide)) (Or.inr (by decide))).trans pf4
    have pf5 := (yz163758.1 _ 11 (Or.inr (by decide)) (Or.inr (by decide)) (Or.inr (by decide)) (Or.inr (by decide)) (Or.inr (by decide)) (Or.inr (by decide)) (Or.inr (by decide)) (Or.inr (by decide))).trans pf5
    have hfr : (∀ b j : Nat, (tag b ≠ 24 ∨ j ≠ 2) → (tag b ≠ 24 ∨ j ≠ 3) → (tag b ≠ 24 ∨ j ≠ 4) → (tag b ≠ 24 ∨ j ≠ 5) → (tag b ≠ 24 ∨ j ≠ 6) → (tag b ≠ 24 ∨ j ≠ 7) → (tag b ≠ 25 ∨ j ≠ 3) → (tag b ≠ 25 ∨ j ≠ 4) → fld F b j = fld Fo b j) ∧ EF tag F Fo := ⟨fun b j n24_2 n24_3 n24_4 n24_5 n24_6 n24_7 n25_3 n25_4 => (yz163758.1 b j n24_2 n24_3 n24_4 n24_5 n24_6 n24_7 n25_3 n25_4).trans (hfr.1 b j n24_2 n24_3 n24_4 n24_5 n24_6 n24_7 n25_3 n25_4), fun b j hb => (yz163758.2 b j hb).trans (hfr.2 b j hb)⟩
    have hrel := nsr_of (fun j => yz163758.2 _ j (Or.inl gx4)) (fun j => yz163758.2 _ j (Or.inr gx5)) hrel
    refine lv_istore_n (lv' := [(3, .int z163758), (2, .int z163757), (0, .ref p0), (1, .int z163755)]) hx hb dX3_readSkin_90 rfl hl (by decide) rfl (fun ls hl => ?_)
    refine lv_aload_n hx hb dX3_readSkin_91 rfl (lv_at hl 2 rfl) ?_
    refine lv_iconst (v := 0) hx hb dX3_readSkin_92 (by decide) ?_
    refine lv_iconst (v := 2) hx hb dX3_readSkin_93 (by decide) ?_
    refine lv_aload_n hx hb dX3_readSkin_94 rfl (lv_at hl 2 rfl) ?_
    refine t_get (C := RX3) (T := TX3) (N := 13) X hT m0 g0 rfl rfl 2 (by decide) qw_162 inlX3 rfl dX3_readSkin_95 (fun v163759 hv163759 ov163759 => ?_)
    obtain rfl : v163759 = .ref x2 := hv163759.symm.trans pf2
    refine t_get (C := RX7) (T := TX7) (N := 7) X hT mx2 gx2 rfl rfl 2 (by decide) qw_401 inlX7 rfl dX3_readSkin_98 (fun v163760 hv163760 ov163760 => ?_)
    obtain ⟨b163761, rfl, mb163761, gb163761⟩ := okV_r ov163760
    have gb163761 : tag b163761 = 8 := tg_of gb163761
    refine lv_iload_n hx hb dX3_readSkin_101 rfl (lv_at hl 3 rfl) ?_
    refine t_ild X hT mb163761 gb163761 rfl (by omega) dX3_readSkin_102 (fun z163762 vz163762 rz163762 => ?_)
    have rz163762 : 0 ≤ z163762.toInt ∧ z163762.toInt ≤ 6 := rz163762
    refine lv_imul hx hb dX3_readSkin_103 ?_
    refine lv_topi (fun z163763 ez163763 => ?_)
    have hz163763 : z163763.toInt = 2 * z163762.toInt := ar_mul ez163763 (by decide : (2 : Int32).toInt = 2) (rfl : z163762.toInt = z163762.toInt) (by omega) (by omega)
    have rz163763 : 0 ≤ z163763.toInt ∧ z163763.toInt ≤ 12 := by omega
    refine t_cVi (n := 2) (C := RX3) (T := TX3) (N := 13) (As := [.int 0, .int z163763]) (rest := []) X hT (kt473_X3_whole l G tag L F hT.2.2.2 p0 0 z163763 x0 x1 x2 x3 x4 x5 m0 g0 (by decide) (by omega) mx0 gx0 pf0 mx1 gx1 pf1 mx2 gx2 pf2 mx3 gx3 pf3 mx4 gx4 pf4 mx5 gx5 pf5) m0 g0 rfl rfl qw_318 qw_319 qw_320 qw_28 qw_321 ⟨rfl, by decide +kernel, by decide +kernel, by decide +kernel⟩ ⟨Nat.le_of_ble_eq_true rfl, Nat.le_of_ble_eq_true rfl⟩ hl rfl rfl (Nat.le_of_ble_eq_true rfl) dX3_readSkin_104 ⟨Nat.le_of_ble_eq_true rfl, Nat.le_of_ble_eq_true rfl⟩ (fun z163764 F H locs hT hz163764 => ?_)
    obtain ⟨hz163764, yz163764⟩ := hz163764
    have pf0 := (yz163764.1 _ 0 (Or.inr (by decide)) (Or.inr (by decide)) (Or.inr (by decide)) (Or.inr (by decide)) (Or.inr (by decide)) (Or.inr (by decide)) (Or.inr (by decide)) (Or.inr (by decide))).trans pf0
    have pf1 := (yz163764.1 _ 1 (Or.inr (by decide)) (Or.inr (by decide)) (Or.inr (by decide)) (Or.inr (by decide)) (Or.inr (by decide)) (Or.inr (by decide)) (Or.inr (by decide)) (Or.inr (by decide))).trans pf1
    have pf2 := (yz163764.1 _ 2 (Or.inl (by rw [g0]; decide)) (Or.inr (by decide)) (Or.inr (by decide)) (Or.inr (by decide)) (Or.inr (by decide)) (Or.inr (by decide)) (Or.inr (by decide)) (Or.inr (by decide))).trans pf2
    have pf3 := (yz163764.1 _ 0 (Or.inr (by decide)) (Or.inr (by decide)) (Or.inr (by decide)) (Or.inr (by decide)) (Or.inr (by decide)) (Or.inr (by decide)) (Or.inr (by decide)) (Or.inr (by decide))).trans pf3
    have pf4 := (yz163764.1 _ 10 (Or.inr (by decide)) (Or.inr (by decide)) (Or.inr (by decide)) (Or.inr (by decide)) (Or.inr (by decide)) (Or.inr (by decide)) (Or.inr (by decide)) (Or.inr (by decide))).trans pf4
    have pf5 := (yz163764.1 _ 11 (Or.inr (by decide)) (Or.inr (by decide)) (Or.inr (by decide)) (Or.inr (by decide)) (Or.inr (by decide)) (Or.inr (by decide)) (Or.inr (by decide)) (Or.inr (by decide))).trans pf5
    have hv163760 := (yz163764.1 _ 2 (Or.inl (by rw [gx2]; decide)) (Or.inr (by decide)) (Or.inr (by decide)) (Or.inr (by decide)) (Or.inr (by decide)) (Or.inr (by decide)) (Or.inr (by decide)) (Or.inr (by decide))).trans hv163760
    have hfr : (∀ b j : Nat, (tag b ≠ 24 ∨ j ≠ 2) → (tag b ≠ 24 ∨ j ≠ 3) → (tag b ≠ 24 ∨ j ≠ 4) → (tag b ≠ 24 ∨ j ≠ 5) → (tag b ≠ 24 ∨ j ≠ 6) → (tag b ≠ 24 ∨ j ≠ 7) → (tag b ≠ 25 ∨ j ≠ 3) → (tag b ≠ 25 ∨ j ≠ 4) → fld F b j = fld Fo b j) ∧ EF tag F Fo := ⟨fun b j n24_2 n24_3 n24_4 n24_5 n24_6 n24_7 n25_3 n25_4 => (yz163764.1 b j n24_2 n24_3 n24_4 n24_5 n24_6 n24_7 n25_3 n25_4).trans (hfr.1 b j n24_2 n24_3 n24_4 n24_5 n24_6 n24_7 n25_3 n25_4), fun b j hb => (yz163764.2 b j hb).trans (hfr.2 b j hb)⟩
    have hrel := nsr_of (fun j => yz163764.2 _ j (Or.inl gx4)) (fun j => yz163764.2 _ j (Or.inr gx5)) hrel
    refine lv_istore (lv' := [(4, .int z163764), (3, .int z163758), (2, .int z163757), (0, .ref p0), (1, .int z163755)]) hx hb dX3_readSkin_107 hl (by decide) rfl (fun ls hl => ?_)
    refine lv_aload_n hx hb dX3_readSkin_109 rfl (lv_at hl 3 rfl) ?_
    refine m_ldcKw X 38 rfl dX3_readSkin_110 ?_
    refine t_cVv (n := 1) (C := RX3) (T := TX3) (N := 13) (As := [.ref (G.2 (100 + 38))]) (rest := []) X hT (kt450_X3_word l G tag L F hT.2.2.2 p0 38 x0 x1 x2 x3 x4 x5 m0 g0 (by decide) mx0 gx0 pf0 mx1 gx1 pf1 mx2 gx2 pf2 mx3 gx3 pf3 mx4 gx4 pf4 mx5 gx5 pf5) m0 g0 rfl rfl qw_314 qw_315 qw_316 qw_28 qw_317 ⟨rfl, by decide +kernel, by decide +kernel, by decide +kernel⟩ ⟨Nat.le_of_ble_eq_true rfl, Nat.le_of_ble_eq_true rfl⟩ hl rfl rfl (Nat.le_of_ble_eq_true rfl) dX3_readSkin_113 ⟨Nat.le_of_ble_eq_true rfl, Nat.le_of_ble_eq_true rfl⟩ (fun F H locs hT hz163765 => ?_)
    have yz163765 := hz163765
    have pf0 := (yz163765.1 _ 0 (Or.inr (by decide)) (Or.inr (by decide)) (Or.inr (by decide)) (Or.inr (by decide)) (Or.inr (by decide)) (Or.inr (by decide)) (Or.inr (by decide)) (Or.inr (by decide))).trans pf0
    have pf1 := (yz163765.1 _ 1 (Or.inr (by decide)) (Or.inr (by decide)) (Or.inr (by decide)) (Or.inr (by decide)) (Or.inr (by decide)) (Or.inr (by decide)) (Or.inr (by decide)) (Or.inr (by decide))).trans pf1
    have pf2 := (yz163765.1 _ 2 (Or.inl (by rw [g0]; decide)) (Or.inr (by decide)) (Or.inr (by decide)) (Or.inr (by decide)) (Or.inr (by decide)) (Or.inr (by decide)) (Or.inr (by decide)) (Or.inr (by decide))).trans pf2
    have pf3 := (yz163765.1 _ 0 (Or.inr (by decide)) (Or.inr (by decide)) (Or.inr (by decide)) (Or.inr (by decide)) (Or.inr (by decide)) (Or.inr (by decide)) (Or.inr (by decide)) (Or.inr (by decide))).trans pf3
    have pf4 := (yz163765.1 _ 10 (Or.inr (by decide)) (Or.inr (by decide)) (Or.inr (by decide)) (Or.inr (by decide)) (Or.inr (by decide)) (Or.inr (by decide)) (Or.inr (by decide)) (Or.inr (by decide))).trans pf4
    have pf5 := (yz163765.1 _ 11 (Or.inr (by decide)) (Or.inr (by decide)) (Or.inr (by decide)) (Or.inr (by decide)) (Or.inr (by decide)) (Or.inr (by decide)) (Or.inr (by decide)) (Or.inr (by decide))).trans pf5
    have hv163760 := (yz163765.1 _ 2 (Or.inl (by rw [gx2]; decide)) (Or.inr (by decide)) (Or.inr (by decide)) (Or.inr (by decide)) (Or.inr (by decide)) (Or.inr (by decide)) (Or.inr (by decide)) (Or.inr (by decide))).trans hv163760
    have hfr : (∀ b j : Nat, (tag b ≠ 24 ∨ j ≠ 2) → (tag b ≠ 24 ∨ j ≠ 3) → (tag b ≠ 24 ∨ j ≠ 4) → (tag b ≠ 24 ∨ j ≠ 5) → (tag b ≠ 24 ∨ j ≠ 6) → (tag b ≠ 24 ∨ j ≠ 7) → (tag b ≠ 25 ∨ j ≠ 3) → (tag b ≠ 25 ∨ j ≠ 4) → fld F b j = fld Fo b j) ∧ EF tag F Fo := ⟨fun b j n24_2 n24_3 n24_4 n24_5 n24_6 n24_7 n25_3 n25_4 => (yz163765.1 b j n24_2 n24_3 n24_4 n24_5 n24_6 n24_7 n25_3 n25_4).trans (hfr.1 b j n24_2 n24_3 n24_4 n24_5 n24_6 n24_7 n25_3 n25_4), fun b j hb => (yz163765.2 b j hb).trans (hfr.2 b j hb)⟩
    have hrel := nsr_of (fun j => yz163765.2 _ j (Or.inl gx4)) (fun j => yz163765.2 _ j (Or.inr gx5)) hrel
    refine lv_aload_n hx hb dX3_readSkin_116 rfl (lv_at hl 3 rfl) ?_
    refine lv_iconst (v := 0) hx hb dX3_readSkin_117 (by decide) ?_
    refine lv_bipush (v := 99) hx hb dX3_readSkin_118 (by decide) ?_
    refine t_cVi (n := 2) (C := RX3) (T := TX3) (N := 13) (As := [.int 0, .int 99]) (rest := []) X hT (kt454_X3_whole l G tag L F hT.2.2.2 p0 0 99 x0 x1 x2 x3 x4 x5 m0 g0 (by decide) (by decide) mx0 gx0 pf0 mx1 gx1 pf1 mx2 gx2 pf2 mx3 gx3 pf3 mx4 gx4 pf4 mx5 gx5 pf5) m0 g0 rfl rfl qw_318 qw_319 qw_320 qw_28 qw_321 ⟨rfl, by decide +kernel, by decide +kernel, by decide +kernel⟩ ⟨Nat.le_of_ble_eq_true rfl, Nat.le_of_ble_eq_true rfl⟩ hl rfl rfl (Nat.le_of_ble_eq_true rfl) dX3_readSkin_120 ⟨Nat.le_of_ble_eq_true rfl, Nat.le_of_ble_eq_true rfl⟩ (fun z163766 F H locs hT hz163766 => ?_)
    obtain ⟨hz163766, yz163766⟩ := hz163766
    have pf0 := (yz163766.1 _ 0 (Or.inr (by decide)) (Or.inr (by decide)) (Or.inr (by decide)) (Or.inr (by decide)) (Or.inr (by decide)) (Or.inr (by decide)) (Or.inr (by decide)) (Or.inr (by decide))).trans pf0
    have pf1 := (yz163766.1 _ 1 (Or.inr (by decide)) (Or.inr (by decide)) (Or.inr (by decide)) (Or.inr (by decide)) (Or.inr (by decide)) (Or.inr (by decide)) (Or.inr (by decide)) (Or.inr (by decide))).trans pf1
    have pf2 := (yz163766.1 _ 2 (Or.inl (by rw [g0]; decide)) (Or.inr (by decide)) (Or.inr (by decide)) (Or.inr (by decide)) (Or.inr (by decide)) (Or.inr (by decide)) (Or.inr (by decide)) (Or.inr (by decide))).trans pf2
    have pf3 := (yz163766.1 _ 0 (Or.inr (by decide)) (Or.inr (by decide)) (Or.inr (by decide)) (Or.inr (by decide)) (Or.inr (by decide)) (Or.inr (by decide)) (Or.inr (by decide)) (Or.inr (by decide))).trans pf3
    have pf4 := (yz163766.1 _ 10 (Or.inr (by decide)) (Or.inr (by decide)) (Or.inr (by decide)) (Or.inr (by decide)) (Or.inr (by decide)) (Or.inr (by decide)) (Or.inr (by decide)) (Or.inr (by decide))).trans pf4
    have pf5 := (yz163766.1 _ 11 (Or.inr (by decide)) (Or.inr (by decide)) (Or.inr (by decide)) (Or.inr (by decide)) (Or.inr (by decide)) (Or.inr (by decide)) (Or.inr (by decide)) (Or.inr (by decide))).trans pf5
    have hv163760 := (yz163766.1 _ 2 (Or.inl (by rw [gx2]; decide)) (Or.inr (by decide)) (Or.inr (by decide)) (Or.inr (by decide)) (Or.inr (by decide)) (Or.inr (by decide)) (Or.inr (by decide)) (Or.inr (by decide))).trans hv163760
    have hfr : (∀ b j : Nat, (tag b ≠ 24 ∨ j ≠ 2) → (tag b ≠ 24 ∨ j ≠ 3) → (tag b ≠ 24 ∨ j ≠ 4) → (tag b ≠ 24 ∨ j ≠ 5) → (tag b ≠ 24 ∨ j ≠ 6) → (tag b ≠ 24 ∨ j ≠ 7) → (tag b ≠ 25 ∨ j ≠ 3) → (tag b ≠ 25 ∨ j ≠ 4) → fld F b j = fld Fo b j) ∧ EF tag F Fo := ⟨fun b j n24_2 n24_3 n24_4 n24_5 n24_6 n24_7 n25_3 n25_4 => (yz163766.1 b j n24_2 n24_3 n24_4 n24_5 n24_6 n24_7 n25_3 n25_4).trans (hfr.1 b j n24_2 n24_3 n24_4 n24_5 n24_6 n24_7 n25_3 n25_4), fun b j hb => (yz163766.2 b j hb).trans (hfr.2 b j hb)⟩
    have hrel := nsr_of (fun j => yz163766.2 _ j (Or.inl gx4)) (fun j => yz163766.2 _ j (Or.inr gx5)) hrel
    refine lv_istore (lv' := [(5, .int z163766), (4, .int z163764), (3, .int z163758), (2, .int z163757), (0, .ref p0), (1, .int z163755)]) hx hb dX3_readSkin_123 hl (by decide) rfl (fun ls hl => ?_)
    refine lv_aload_n hx hb dX3_readSkin_125 rfl (lv_at hl 4 rfl) ?_
    refine t_get (C := RX3) (T := TX3) (N := 13) X hT m0 g0 rfl rfl 3 (by decide) qw_163 inlX3 rfl dX3_readSkin_126 (fun v163767 hv163767 ov163767 => ?_)
    obtain ⟨z163768, rfl, rz163768⟩ := okV_i ov163767
    refine lv_if_ne (tgt := 148) hx hb dX3_readSkin_129 (by decide) (fun c163769 => ?_) (fun c163769 => ?_)
    · have w163770 := cv_ne (rfl : z163768.toInt = z163768.toInt) (by decide : (0 : Int32).toInt = 0) c163769
      exact t_vret hQ X hT ⟨hfr, hrel⟩ (Nat.le_of_ble_eq_true rfl) (Nat.le_of_ble_eq_true rfl) dX3_readSkin_148
    · have w163771 := cv_eq (rfl : z163768.toInt = z163768.toInt) (by decide : (0 : Int32).toInt = 0) c163769
      refine lv_aload_n hx hb dX3_readSkin_132 rfl (lv_at hl 4 rfl) ?_
      refine t_get (C := RX3) (T := TX3) (N := 13) X hT m0 g0 rfl rfl 2 (by decide) qw_162 inlX3 rfl dX3_readSkin_133 (fun v163772 hv163772 ov163772 => ?_)
      obtain rfl : v163772 = .ref x2 := hv163772.symm.trans pf2
      refine lv_iload_n hx hb dX3_readSkin_136 rfl (lv_at hl 5 rfl) ?_
      refine lv_iload_n hx hb dX3_readSkin_137 rfl (lv_at hl 3 rfl) ?_
      refine lv_iload_n hx hb dX3_readSkin_138 rfl (lv_at hl 2 rfl) ?_
      refine lv_iload hx hb dX3_readSkin_139 (lv_at hl 1 rfl) ?_
      refine lv_iload hx hb dX3_readSkin_141 (lv_at hl 0 rfl) ?_
      refine lv_bipush (v := (-2)) hx hb dX3_readSkin_143 (by decide) ?_
      refine t_cVv (n := 6) (C := RX7) (T := TX7) (N := 7) (As := [.int z163755, .int z163757, .int z163758, .int z163764, .int z163766, .int (-2)]) (rest := []) X hT (kt311_X7_addSkin l G tag L F hT.2.2.2 x2 z163755 z163757 z163758 z163764 z163766 (-2) mx2 gx2 (by omega)) mx2 gx2 rfl rfl qw_418 qw_419 qw_420 qw_22 qw_421 ⟨rfl, by decide +kernel, by decide +kernel, by decide +kernel⟩ ⟨Nat.le_of_ble_eq_true rfl, Nat.le_of_ble_eq_true rfl⟩ hl rfl rfl (Nat.le_of_ble_eq_true rfl) dX3_readSkin_145 ⟨Nat.le_of_ble_eq_true rfl, Nat.le_of_ble_eq_true rfl⟩ (fun F H locs hT hz163773 => ?_)
      have yz163773 := hz163773
      have pf0 := (yz163773.1 _ 0 ).trans pf0
      have pf1 := (yz163773.1 _ 1 ).trans pf1
      have pf2 := (yz163773.1 _ 2 ).trans pf2
      have pf3 := (yz163773.1 _ 0 ).trans pf3
      have pf4 := (yz163773.1 _ 10 ).trans pf4
      have pf5 := (yz163773.1 _ 11 ).trans pf5
      have hv163760 := (yz163773.1 _ 2 ).trans hv163760
      have hv163767 := (yz163773.1 _ 3 ).trans hv163767
      have hfr : (∀ b j : Nat, (tag b ≠ 24 ∨ j ≠ 2) → (tag b ≠ 24 ∨ j ≠ 3) → (tag b ≠ 24 ∨ j ≠ 4) → (tag b ≠ 24 ∨ j ≠ 5) → (tag b ≠ 24 ∨ j ≠ 6) → (tag b ≠ 24 ∨ j ≠ 7) → (tag b ≠ 25 ∨ j ≠ 3) → (tag b ≠ 25 ∨ j ≠ 4) → fld F b j = fld Fo b j) ∧ EF tag F Fo := ⟨fun b j n24_2 n24_3 n24_4 n24_5 n24_6 n24_7 n25_3 n25_4 => (yz163773.1 b j ).trans (hfr.1 b j n24_2 n24_3 n24_4 n24_5 n24_6 n24_7 n25_3 n25_4), fun b j hb => (yz163773.2 b j hb).trans (hfr.2 b j hb)⟩
      have hrel := nsr_of (fun j => yz163773.2 _ j (Or.inl gx4)) (fun j => yz163773.2 _ j (Or.inr gx5)) hrel
      exact t_vret hQ X hT ⟨hfr, hrel⟩ (Nat.le_of_ble_eq_true rfl) (Nat.le_of_ble_eq_true rfl) dX3_readSkin_148
  have K40 : ∀ (z163774 : Int32) (z163775 : Int32) (F : Nat → va_E) (H : Heap) (locs : List Loc) (ls : Array Slot), (0 ≤ z163774.toInt ∧ z163774.toInt ≤ 3) → (0 ≤ z163775.toInt ∧ z163775.toInt ≤ 7) → TH G ttC A s tag L F H locs → ((∀ b j : Nat, (tag b ≠ 24 ∨ j ≠ 2) → (tag b ≠ 24 ∨ j ≠ 3) → (tag b ≠ 24 ∨ j ≠ 4) → (tag b ≠ 24 ∨ j ≠ 5) → (tag b ≠ 24 ∨ j ≠ 6) → (tag b ≠ 24 ∨ j ≠ 7) → (tag b ≠ 25 ∨ j ≠ 3) → (tag b ≠ 25 ∨ j ≠ 4) → fld F b j = fld Fo b j) ∧ EF tag F Fo) → NSR F x4 x5 → fld F p0 0 = .ref x0 → fld F p0 1 = .ref x1 → fld F p0 2 = .ref x2 → fld F x0 0 = .ref x3 → fld F p0 10 = .ref x4 → fld F p0 11 = .ref x5 → fld F p0 3 = .int z163775 → lv_has ls 6 [(0, .ref p0), (1, .int z163774)] → W p l e { frames := 7, cells := 0, slots := 0, locals := 150 } s m args below meth c H locs 0 0 Q (F0 m 40 ls []) := by
    intro z163774 z163775 F H locs ls rz163774 rz163775 hT hfr hrel pf0 pf1 pf2 pf3 pf4 pf5 qz163775 hl
    refine lv_aload_n hx hb dX3_readSkin_40 rfl (lv_at hl 0 rfl) ?_
    refine t_get (C := RX3) (T := TX3) (N := 13) X hT m0 g0 rfl rfl 1 (by decide) qw_161 inlX3 rfl dX3_readSkin_41 (fun v163776 hv163776 ov163776 => ?_)
    obtain rfl : v163776 = .ref x1 := hv163776.symm.trans pf1
    refine lv_aload_n hx hb dX3_readSkin_44 rfl (lv_at hl 0 rfl) ?_
    refine t_get (C := RX3) (T := TX3) (N := 13) X hT m0 g0 rfl rfl 2 (by decide) qw_162 inlX3 rfl dX3_readSkin_45 (fun v163777 hv163777 ov163777 => ?_)
    obtain rfl : v163777 = .ref x2 := hv163777.symm.trans pf2
    refine lv_iload_n hx hb dX3_readSkin_48 rfl (lv_at hl 1 rfl) ?_
    refine t_cSi (n := 3) (As := [.ref x1, .ref x2, .int z163774]) (rest := []) X hT (kt325_X6_isFit l G tag L F hT.2.2.2 x1 x2 z163774 mx1 gx1 mx2 gx2 (by omega)) qw_402 qw_403 qw_380 qw_404 ⟨by decide +kernel, by decide +kernel, by decide +kernel⟩ ⟨Nat.le_of_ble_eq_true rfl, Nat.le_of_ble_eq_true rfl⟩ hl rfl rfl (Nat.le_of_ble_eq_true rfl) dX3_readSkin_49 ⟨Nat.le_of_ble_eq_true rfl, Nat.le_of_ble_eq_true rfl⟩ (fun z163778 F9 H locs hT hz163778 => ?_)
    obtain ⟨fz163778, hz163778⟩ := hz163778
    rw [fz163778] at hT
    refine lv_if_ne (tgt := 68) hx hb dX3_readSkin_52 (by decide) (fun c163779 => ?_) (fun c163779 => ?_)
    · have w163780 := cv_ne (rfl : z163778.toInt = z163778.toInt) (by decide : (0 : Int32).toInt = 0) c163779
      exact K68 z163774 z163775 _ _ _ _ (by omega) (by omega) hT hfr hrel pf0 pf1 pf2 pf3 pf4 pf5 qz163775 (lv_sub hl [0, 1] rfl)
    · have w163781 := cv_eq (rfl : z163778.toInt = z163778.toInt) (by decide : (0 : Int32).toInt = 0) c163779
      refine lv_aload_n hx hb dX3_readSkin_55 rfl (lv_at hl 0 rfl) ?_
      refine lv_bipush (v := 7) hx hb dX3_readSkin_56 (by decide) ?_
      refine lv_aload_n hx hb dX3_readSkin_58 rfl (lv_at hl 0 rfl) ?_
      refine t_get (C := RX3) (T := TX3) (N := 13) X hT m0 g0 rfl rfl 0 (by decide) qw_73 inlX3 rfl dX3_readSkin_59 (fun v163782 hv163782 ov163782 => ?_)
      obtain rfl : v163782 = .ref x0 := hv163782.symm.trans pf0
      refine t_get (C := RX8) (T := TX8) (N := 8) X hT mx0 gx0 rfl rfl 5 (by decide) qw_339 inlX8 rfl dX3_readSkin_62 (fun v163783 hv163783 ov163783 => ?_)
      obtain ⟨z163784, rfl, rz163784⟩ := okV_i ov163783
      refine t_cVv (n := 2) (C := RX3) (T := TX3) (N := 13) (As := [.int 7, .int z163784]) (rest := []) X hT (kt432_X3_fail l G tag L F hT.2.2.2 p0 7 z163784 m0 g0 (by decide)) m0 g0 rfl rfl qw_287 qw_288 qw_289 qw_28 qw_290 ⟨rfl, by decide +kernel, by decide +kernel, by decide +kernel⟩ ⟨Nat.le_of_ble_eq_true rfl, Nat.le_of_ble_eq_true rfl⟩ hl rfl rfl (Nat.le_of_ble_eq_true rfl) dX3_readSkin_65 ⟨Nat.le_of_ble_eq_true rfl, Nat.le_of_ble_eq_true rfl⟩ (fun F H locs hT hz163785 => ?_)
      obtain ⟨yz163785, xz163785_0⟩ := hz163785
      have pf0 := (yz163785.1 _ 0 (Or.inr (by decide)) (Or.inr (by decide))).trans pf0
      have pf1 := (yz163785.1 _ 1 (Or.inr (by decide)) (Or.inr (by decide))).trans pf1
      have pf2 := (yz163785.1 _ 2 (Or.inr (by decide)) (Or.inr (by decide))).trans pf2
      have pf3 := (yz163785.1 _ 0 (Or.inr (by decide)) (Or.inr (by decide))).trans pf3
      have pf4 := (yz163785.1 _ 10 (Or.inr (by decide)) (Or.inr (by decide))).trans pf4
      have pf5 := (yz163785.1 _ 11 (Or.inr (by decide)) (Or.inr (by decide))).trans pf5
      have hv163783 := (yz163785.1 _ 5 (Or.inr (by decide)) (Or.inr (by decide))).trans hv163783
      have hfr : (∀ b j : Nat, (tag b ≠ 24 ∨ j ≠ 2) → (tag b ≠ 24 ∨ j ≠ 3) → (tag b ≠ 24 ∨ j ≠ 4) → (tag b ≠ 24 ∨ j ≠ 5) → (tag b ≠ 24 ∨ j ≠ 6) → (tag b ≠ 24 ∨ j ≠ 7) → (tag b ≠ 25 ∨ j ≠ 3) → (tag b ≠ 25 ∨ j ≠ 4) → fld F b j = fld Fo b j) ∧ EF tag F Fo := ⟨fun b j n24_2 n24_3 n24_4 n24_5 n24_6 n24_7 n25_3 n25_4 => (yz163785.1 b j n25_3 n25_4).trans (hfr.1 b j n24_2 n24_3 n24_4 n24_5 n24_6 n24_7 n25_3 n25_4), fun b j hb => (yz163785.2 b j hb).trans (hfr.2 b j hb)⟩
      have hrel := nsr_of (fun j => yz163785.2 _ j (Or.inl gx4)) (fun j => yz163785.2 _ j (Or.inr gx5)) hrel
      obtain ⟨z163786, qz163786, rz163786⟩ := xz163785_0
      exact K68 z163774 z163786 _ _ _ _ (by omega) (by omega) hT hfr hrel pf0 pf1 pf2 pf3 pf4 pf5 qz163786 (lv_sub hl [0, 1] rfl)
  refine lv_aload_n hx hb dX3_readSkin_0 rfl (lv_at hl 0 rfl) ?_
  refine lv_iconst (v := 4) hx hb dX3_readSkin_1 (by decide) ?_
  refine t_cVi (n := 1) (C := RX3) (T := TX3) (N := 13) (As := [.int 4]) (rest := []) X hT (kt446_X3_name l G tag L F hT.2.2.2 p0 4 x0 x1 x2 x3 x4 x5 m0 g0 (by decide) mx0 gx0 pf0 mx1 gx1 pf1 mx2 gx2 pf2 mx3 gx3 pf3 mx4 gx4 pf4 mx5 gx5 pf5 hrel) m0 g0 rfl rfl qw_393 qw_394 qw_395 qw_28 qw_396 ⟨rfl, by decide +kernel, by decide +kernel, by decide +kernel⟩ ⟨Nat.le_of_ble_eq_true rfl, Nat.le_of_ble_eq_true rfl⟩ hl rfl rfl (Nat.le_of_ble_eq_true rfl) dX3_readSkin_2 ⟨Nat.le_of_ble_eq_true rfl, Nat.le_of_ble_eq_true rfl⟩ (fun z163787 F H locs hT hz163787 => ?_)
  obtain ⟨hz163787, yz163787, hrel⟩ := hz163787
  have pf0 := (yz163787.1 _ 0 (Or.inr (by decide)) (Or.inr (by decide)) (Or.inr (by decide)) (Or.inr (by decide)) (Or.inr (by decide)) (Or.inr (by decide)) (Or.inr (by decide)) (Or.inr (by decide))).trans pf0
  have pf1 := (yz163787.1 _ 1 (Or.inr (by decide)) (Or.inr (by decide)) (Or.inr (by decide)) (Or.inr (by decide)) (Or.inr (by decide)) (Or.inr (by decide)) (Or.inr (by decide)) (Or.inr (by decide))).trans pf1
  have pf2 := (yz163787.1 _ 2 (Or.inl (by rw [g0]; decide)) (Or.inr (by decide)) (Or.inr (by decide)) (Or.inr (by decide)) (Or.inr (by decide)) (Or.inr (by decide)) (Or.inr (by decide)) (Or.inr (by decide))).trans pf2
  have pf3 := (yz163787.1 _ 0 (Or.inr (by decide)) (Or.inr (by decide)) (Or.inr (by decide)) (Or.inr (by decide)) (Or.inr (by decide)) (Or.inr (by decide)) (Or.inr (by decide)) (Or.inr (by decide))).trans pf3
  have pf4 := (yz163787.1 _ 10 (Or.inr (by decide)) (Or.inr (by decide)) (Or.inr (by decide)) (Or.inr (by decide)) (Or.inr (by decide)) (Or.inr (by decide)) (Or.inr (by decide)) (Or.inr (by decide))).trans pf4
  have pf5 := (yz163787.1 _ 11 (Or.inr (by decide)) (Or.inr (by decide)) (Or.inr (by decide)) (Or.inr (by decide)) (Or.inr (by decide)) (Or.inr (by decide)) (Or.inr (by decide)) (Or.inr (by decide))).trans pf5
  have hfr : (∀ b j : Nat, (tag b ≠ 24 ∨ j ≠ 2) → (tag b ≠ 24 ∨ j ≠ 3) → (tag b ≠ 24 ∨ j ≠ 4) → (tag b ≠ 24 ∨ j ≠ 5) → (tag b ≠ 24 ∨ j ≠ 6) → (tag b ≠ 24 ∨ j ≠ 7) → (tag b ≠ 25 ∨ j ≠ 3) → (tag b ≠ 25 ∨ j ≠ 4) → fld F b j = fld Fo b j) ∧ EF tag F Fo := ⟨fun b j n24_2 n24_3 n24_4 n24_5 n24_6 n24_7 n25_3 n25_4 => (yz163787.1 b j n24_2 n24_3 n24_4 n24_5 n24_6 n24_7 n25_3 n25_4).trans (hfr.1 b j n24_2 n24_3 n24_4 n24_5 n24_6 n24_7 n25_3 n25_4), fun b j hb => (yz163787.2 b j hb).trans (hfr.2 b j hb)⟩
  refine lv_istore_n (lv' := [(1, .int z163787), (0, .ref p0)]) hx hb dX3_readSkin_5 rfl hl (by decide) rfl (fun ls hl => ?_)
  refine lv_aload_n hx hb dX3_readSkin_6 rfl (lv_at hl 1 rfl) ?_
  refine t_get (C := RX3) (T := TX3) (N := 13) X hT m0 g0 rfl rfl 3 (by decide) qw_163 inlX3 rfl dX3_readSkin_7 (fun v163788 hv163788 ov163788 => ?_)
  obtain ⟨z163789, rfl, rz163789⟩ := okV_i ov163788
  refine lv_if_eq (tgt := 14) hx hb dX3_readSkin_10 (by decide) (fun c163790 => ?_) (fun c163790 => ?_)
  · have w163791 := cv_eq (rfl : z163789.toInt = z163789.toInt) (by decide : (0 : Int32).toInt = 0) c163790
    refine lv_aload_n hx hb dX3_readSkin_14 rfl (lv_at hl 1 rfl) ?_
    refine t_get (C := RX3) (T := TX3) (N := 13) X hT m0 g0 rfl rfl 2 (by decide) qw_162 inlX3 rfl dX3_readSkin_15 (fun v163792 hv163792 ov163792 => ?_)
    obtain rfl : v163792 = .ref x2 := hv163792.symm.trans pf2
    refine t_get (C := RX7) (T := TX7) (N := 7) X hT mx2 gx2 rfl rfl 2 (by decide) qw_401 inlX7 rfl dX3_readSkin_18 (fun v163793 hv163793 ov163793 => ?_)
    obtain ⟨b163794, rfl, mb163794, gb163794⟩ := okV_r ov163793
    have gb163794 : tag b163794 = 8 := tg_of gb163794
    refine lv_iload_n hx hb dX3_readSkin_21 rfl (lv_at hl 0 rfl) ?_
    refine t_ild X hT mb163794 gb163794 rfl (by omega) dX3_readSkin_22 (fun z163795 vz163795 rz163795 => ?_)
    have rz163795 : 0 ≤ z163795.toInt ∧ z163795.toInt ≤ 6 := rz163795
    refine lv_bipush (v := 6) hx hb dX3_readSkin_23 (by decide) ?_
    refine lv_icmp_lt (tgt := 40) hx hb dX3_readSkin_25 (by decide) (fun c163796 => ?_) (fun c163796 => ?_)
    · have w163797 := cv_lt (rfl : z163795.toInt = z163795.toInt) (by decide : (6 : Int32).toInt = 6) c163796
      exact K40 z163787 z163789 _ _ _ _ (by omega) (by omega) hT hfr hrel pf0 pf1 pf2 pf3 pf4 pf5 hv163788 (lv_sub hl [1, 0] rfl)
    · have w163798 := cv_nlt (rfl : z163795.toInt = z163795.toInt) (by decide : (6 : Int32).toInt = 6) c163796
      refine lv_aload_n hx hb dX3_readSkin_28 rfl (lv_at hl 1 rfl) ?_
      refine lv_iconst (v := 5) hx hb dX3_readSkin_29 (by decide) ?_
      refine lv_aload_n hx hb dX3_readSkin_30 rfl (lv_at hl 1 rfl) ?_
      refine t_get (C := RX3) (T := TX3) (N := 13) X hT m0 g0 rfl rfl 0 (by decide) qw_73 inlX3 rfl dX3_readSkin_31 (fun v163799 hv163799 ov163799 => ?_)
      obtain rfl : v163799 = .ref x0 := hv163799.symm.trans pf0
      refine t_get (C := RX8) (T := TX8) (N := 8) X hT mx0 gx0 rfl rfl 5 (by decide) qw_339 inlX8 rfl dX3_readSkin_34 (fun v163800 hv163800 ov163800 => ?_)
      obtain ⟨z163801, rfl, rz163801⟩ := okV_i ov163800
      refine t_cVv (n := 2) (C := RX3) (T := TX3) (N := 13) (As := [.int 5, .int z163801]) (rest := []) X hT (kt432_X3_fail l G tag L F hT.2.2.2 p0 5 z163801 m0 g0 (by decide)) m0 g0 rfl rfl qw_287 qw_288 qw_289 qw_28 qw_290 ⟨rfl, by decide +kernel, by decide +kernel, by decide +kernel⟩ ⟨Nat.le_of_ble_eq_true rfl, Nat.le_of_ble_eq_true rfl⟩ hl rfl rfl (Nat.le_of_ble_eq_true rfl) dX3_readSkin_37 ⟨Nat.le_of_ble_eq_true rfl, Nat.le_of_ble_eq_true rfl⟩ (fun F H locs hT hz163802 => ?_)
      obtain ⟨yz163802, xz163802_0⟩ := hz163802
      have pf0 := (yz163802.1 _ 0 (Or.inr (by decide)) (Or.inr (by decide))).trans pf0
      have pf1 := (yz163802.1 _ 1 (Or.inr (by decide)) (Or.inr (by decide))).trans pf1
      have pf2 := (yz163802.1 _ 2 (Or.inr (by decide)) (Or.inr (by decide))).trans pf2
      have pf3 := (yz163802.1 _ 0 (Or.inr (by decide)) (Or.inr (by decide))).trans pf3
      have pf4 := (yz163802.1 _ 10 (Or.inr (by decide)) (Or.inr (by decide))).trans pf4
      have pf5 := (yz163802.1 _ 11 (Or.inr (by decide)) (Or.inr (by decide))).trans pf5
      have hv163793 := (yz163802.1 _ 2 (Or.inr (by decide)) (Or.inr (by decide))).trans hv163793
      have hv163800 := (yz163802.1 _ 5 (Or.inr (by decide)) (Or.inr (by decide))).trans hv163800
      have hfr : (∀ b j : Nat, (tag b ≠ 24 ∨ j ≠ 2) → (tag b ≠ 24 ∨ j ≠ 3) → (tag b ≠ 24 ∨ j ≠ 4) → (tag b ≠ 24 ∨ j ≠ 5) → (tag b ≠ 24 ∨ j ≠ 6) → (tag b ≠ 24 ∨ j ≠ 7) → (tag b ≠ 25 ∨ j ≠ 3) → (tag b ≠ 25 ∨ j ≠ 4) → fld F b j = fld Fo b j) ∧ EF tag F Fo := ⟨fun b j n24_2 n24_3 n24_4 n24_5 n24_6 n24_7 n25_3 n25_4 => (yz163802.1 b j n25_3 n25_4).trans (hfr.1 b j n24_2 n24_3 n24_4 n24_5 n24_6 n24_7 n25_3 n25_4), fun b j hb => (yz163802.2 b j hb).trans (hfr.2 b j hb)⟩
      have hrel := nsr_of (fun j => yz163802.2 _ j (Or.inl gx4)) (fun j => yz163802.2 _ j (Or.inr gx5)) hrel
      obtain ⟨z163803, qz163803, rz163803⟩ := xz163802_0
      exact K40 z163787 z163803 _ _ _ _ (by omega) (by omega) hT hfr hrel pf0 pf1 pf2 pf3 pf4 pf5 qz163803 (lv_sub hl [1, 0] rfl)
  · have w163804 := cv_ne (rfl : z163789.toInt = z163789.toInt) (by decide : (0 : Int32).toInt = 0) c163790
    exact t_vret hQ X hT ⟨hfr, hrel⟩ (Nat.le_of_ble_eq_true rfl) (Nat.le_of_ble_eq_true rfl) dX3_readSkin_13
set_option maxHeartbeats 4000000 in
set_option maxRecDepth 100000 in
theorem kt475_X3_name (l : Launch) (G : KG) (tag : Nat → Nat) (L : List Nat) (Fo : Nat → va_E) (ho : okT G ttC tag L Fo) (p0 : Nat) (p1 : Int32) (x0 : Nat) (x1 : Nat) (x2 : Nat) (x3 : Nat) (x4 : Nat) (x5 : Nat) (m0 : p0 ∈ L) (g0 : tag p0 = 25) (h1 : 7 ≤ p1.toInt ∧ p1.toInt ≤ 7) (mx0 : x0 ∈ L) (gx0 : tag x0 = 24) (pf0 : fld Fo p0 0 = .ref x0) (mx1 : x1 ∈ L) (gx1 : tag x1 = 18) (pf1 : fld Fo p0 1 = .ref x1) (mx2 : x2 ∈ L) (gx2 : tag x2 = 19) (pf2 : fld Fo p0 2 = .ref x2) (mx3 : x3 ∈ L) (gx3 : tag x3 = 1) (pf3 : fld Fo x0 0 = .ref x3) (mx4 : x4 ∈ L) (gx4 : tag x4 = 14) (pf4 : fld Fo p0 10 = .ref x4) (mx5 : x5 ∈ L) (gx5 : tag x5 = 15) (pf5 : fld Fo p0 11 = .ref x5) (hrel : NSR Fo x4 x5) : TMi l yX3_name cX3_name 3 (some .int) { frames := 6, cells := 0, slots := 0, locals := 128 } G ttC tag L Fo [.ref p0, .int p1] (fun r F1 => (0 ≤ r.toInt ∧ r.toInt ≤ 5) ∧ ((∀ b j : Nat, (tag b ≠ 24 ∨ j ≠ 2) → (tag b ≠ 24 ∨ j ≠ 3) → (tag b ≠ 24 ∨ j ≠ 4) → (tag b ≠ 24 ∨ j ≠ 5) → (tag b ≠ 24 ∨ j ≠ 6) → (tag b ≠ 24 ∨ j ≠ 7) → (tag b ≠ 25 ∨ j ≠ 3) → (tag b ≠ 25 ∨ j ≠ 4) → fld F1 b j = fld Fo b j) ∧ EF tag F1 Fo) ∧ (NSR F1 x4 x5)) := by
  refine t_bodyi (y := yX3_name) (cd := cX3_name) (mL := 3) (rt := (some .int)) (rm := { frames := 6, cells := 0, slots := 0, locals := 128 }) (av := [.ref p0, .int p1]) (by decide) (Nat.le_of_ble_eq_true rfl) ho ?_
  intro p e s m args below meth c ls A Q hQ X hT hl
  have hx := X.1.1
  have hb := X.1.2.1
  have hl : lv_has ls 3 [(0, .ref p0), (1, .int p1)] := hl
  obtain ⟨F, hFo⟩ : ∃ F : Nat → va_E, F = Fo := ⟨_, rfl⟩
  rw [← hFo] at hT pf0 pf1 pf2 pf3 pf4 pf5 hrel
  have hfr : (∀ b j : Nat, (tag b ≠ 24 ∨ j ≠ 2) → (tag b ≠ 24 ∨ j ≠ 3) → (tag b ≠ 24 ∨ j ≠ 4) → (tag b ≠ 24 ∨ j ≠ 5) → (tag b ≠ 24 ∨ j ≠ 6) → (tag b ≠ 24 ∨ j ≠ 7) → (tag b ≠ 25 ∨ j ≠ 3) → (tag b ≠ 25 ∨ j ≠ 4) → fld F b j = fld Fo b j) ∧ EF tag F Fo := by
    rw [hFo]
    exact ⟨by intros; rfl, fun _ _ _ => rfl⟩
  refine lv_aload_n hx hb dX3_name_0 rfl (lv_at hl 0 rfl) ?_
  refine t_get (C := RX3) (T := TX3) (N := 13) X hT m0 g0 rfl rfl 0 (by decide) qw_73 inlX3 rfl dX3_name_1 (fun v165103 hv165103 ov165103 => ?_)
  obtain rfl : v165103 = .ref x0 := hv165103.symm.trans pf0
  refine t_get (C := RX8) (T := TX8) (N := 8) X hT mx0 gx0 rfl rfl 3 (by decide) qw_170 inlX8 rfl dX3_name_4 (fun v165104 hv165104 ov165104 => ?_)
  obtain ⟨z165105, rfl, rz165105⟩ := okV_i ov165104
  refine lv_iconst (v := 1) hx hb dX3_name_7 (by decide) ?_
  refine lv_icmp_ne (tgt := 19) hx hb dX3_name_8 (by decide) (fun c165106 => ?_) (fun c165106 => ?_)
  · have w165107 := cv_ne (rfl : z165105.toInt = z165105.toInt) (by decide : (1 : Int32).toInt = 1) c165106
    refine lv_aload_n hx hb dX3_name_19 rfl (lv_at hl 0 rfl) ?_
    refine lv_iconst (v := 1) hx hb dX3_name_20 (by decide) ?_
    refine lv_aload_n hx hb dX3_name_21 rfl (lv_at hl 0 rfl) ?_
    refine t_get (C := RX3) (T := TX3) (N := 13) X hT m0 g0 rfl rfl 0 (by decide) qw_73 inlX3 rfl dX3_name_22 (fun v165108 hv165108 ov165108 => ?_)
    obtain rfl : v165108 = .ref x0 := hv165108.symm.trans pf0
    refine t_get (C := RX8) (T := TX8) (N := 8) X hT mx0 gx0 rfl rfl 4 (by decide) qw_227 inlX8 rfl dX3_name_25 (fun v165109 hv165109 ov165109 => ?_)
    obtain ⟨z165110, rfl, rz165110⟩ := okV_i ov165109
    refine t_cVv (n := 2) (C := RX3) (T := TX3) (N := 13) (As := [.int 1, .int z165110]) (rest := []) X hT (kt432_X3_fail l G tag L F hT.2.2.2 p0 1 z165110 m0 g0 (by decide)) m0 g0 rfl rfl qw_287 qw_288 qw_289 qw_28 qw_290 ⟨rfl, by decide +kernel, by decide +kernel, by decide +kernel⟩ ⟨Nat.le_of_ble_eq_true rfl, Nat.le_of_ble_eq_true rfl⟩ hl rfl rfl (Nat.le_of_ble_eq_true rfl) dX3_name_28 ⟨Nat.le_of_ble_eq_true rfl, Nat.le_of_ble_eq_true rfl⟩ (fun F H locs hT hz165111 => ?_)
    obtain ⟨yz165111, xz165111_0⟩ := hz165111
    have pf0 := (yz165111.1 _ 0 (Or.inr (by decide)) (Or.inr (by decide))).trans pf0
    have pf1 := (yz165111.1 _ 1 (Or.inr (by decide)) (Or.inr (by decide))).trans pf1
    have pf2 := (yz165111.1 _ 2 (Or.inr (by decide)) (Or.inr (by decide))).trans pf2
    have pf3 := (yz165111.1 _ 0 (Or.inr (by decide)) (Or.inr (by decide))).trans pf3
    have pf4 := (yz165111.1 _ 10 (Or.inr (by decide)) (Or.inr (by decide))).trans pf4
    have pf5 := (yz165111.1 _ 11 (Or.inr (by decide)) (Or.inr (by decide))).trans pf5
    have hv165104 := (yz165111.1 _ 3 (Or.inl (by rw [gx0]; decide)) (Or.inr (by decide))).trans hv165104
    have hv165109 := (yz165111.1 _ 4 (Or.inr (by decide)) (Or.inl (by rw [gx0]; decide))).trans hv165109
    have hfr : (∀ b j : Nat, (tag b ≠ 24 ∨ j ≠ 2) → (tag b ≠ 24 ∨ j ≠ 3) → (tag b ≠ 24 ∨ j ≠ 4) → (tag b ≠ 24 ∨ j ≠ 5) → (tag b ≠ 24 ∨ j ≠ 6) → (tag b ≠ 24 ∨ j ≠ 7) → (tag b ≠ 25 ∨ j ≠ 3) → (tag b ≠ 25 ∨ j ≠ 4) → fld F b j = fld Fo b j) ∧ EF tag F Fo := ⟨fun b j n24_2 n24_3 n24_4 n24_5 n24_6 n24_7 n25_3 n25_4 => (yz165111.1 b j n25_3 n25_4).trans (hfr.1 b j n24_2 n24_3 n24_4 n24_5 n24_6 n24_7 n25_3 n25_4), fun b j hb => (yz165111.2 b j hb).trans (hfr.2 b j hb)⟩
    have hrel := nsr_of (fun j => yz165111.2 _ j (Or.inl gx4)) (fun j => yz165111.2 _ j (Or.inr gx5)) hrel
    obtain ⟨z165112, qz165112, rz165112⟩ := xz165111_0
    refine lv_aload_n hx hb dX3_name_31 rfl (lv_at hl 0 rfl) ?_
    refine t_cVi (n := 0) (C := RX3) (T := TX3) (N := 13) (As := []) (rest := []) X hT (kt442_X3_findName l G tag L F hT.2.2.2 p0 x0 x1 x2 x3 x4 x5 m0 g0 mx0 gx0 pf0 mx1 gx1 pf1 mx2 gx2 pf2 mx3 gx3 pf3 mx4 gx4 pf4 mx5 gx5 pf5) m0 g0 rfl rfl qw_361 qw_362 qw_363 qw_28 qw_364 ⟨rfl, by decide +kernel, by decide +kernel, by decide +kernel⟩ ⟨Nat.le_of_ble_eq_true rfl, Nat.le_of_ble_eq_true rfl⟩ hl rfl rfl (Nat.le_of_ble_eq_true rfl) dX3_name_32 ⟨Nat.le_of_ble_eq_true rfl, Nat.le_of_ble_eq_true rfl⟩ (fun z165113 F9 H locs hT hz165113 => ?_)
    obtain ⟨fz165113, hz165113⟩ := hz165113
    rw [fz165113] at hT
    refine lv_istore_n (lv' := [(2, .int z165113), (0, .ref p0), (1, .int p1)]) hx hb dX3_name_35 rfl hl (by decide) rfl (fun ls hl => ?_)
    refine lv_iload_n hx hb dX3_name_36 rfl (lv_at hl 0 rfl) ?_
    refine lv_iconst (v := (-1)) hx hb dX3_name_37 (by decide) ?_
    refine lv_icmp_eq (tgt := 51) hx hb dX3_name_38 (by decide) (fun c165114 => ?_) (fun c165114 => ?_)
    · have w165115 := cv_eq (rfl : z165113.toInt = z165113.toInt) (by decide : ((-1) : Int32).toInt = (-1)) c165114
      refine lv_aload_n hx hb dX3_name_51 rfl (lv_at hl 1 rfl) ?_
      refine lv_iconst (v := 2) hx hb dX3_name_52 (by decide) ?_
      refine lv_aload_n hx hb dX3_name_53 rfl (lv_at hl 1 rfl) ?_
      refine t_get (C := RX3) (T := TX3) (N := 13) X hT m0 g0 rfl rfl 0 (by decide) qw_73 inlX3 rfl dX3_name_54 (fun v165116 hv165116 ov165116 => ?_)
      obtain rfl : v165116 = .ref x0 := hv165116.symm.trans pf0
      refine t_get (C := RX8) (T := TX8) (N := 8) X hT mx0 gx0 rfl rfl 4 (by decide) qw_227 inlX8 rfl dX3_name_57 (fun v165117 hv165117 ov165117 => ?_)
      obtain rfl : v165117 = .int z165110 := hv165117.symm.trans hv165109
      refine t_cVv (n := 2) (C := RX3) (T := TX3) (N := 13) (As := [.int 2, .int z165110]) (rest := []) X hT (kt432_X3_fail l G tag L F hT.2.2.2 p0 2 z165110 m0 g0 (by decide)) m0 g0 rfl rfl qw_287 qw_288 qw_289 qw_28 qw_290 ⟨rfl, by decide +kernel, by decide +kernel, by decide +kernel⟩ ⟨Nat.le_of_ble_eq_true rfl, Nat.le_of_ble_eq_true rfl⟩ hl rfl rfl (Nat.le_of_ble_eq_true rfl) dX3_name_60 ⟨Nat.le_of_ble_eq_true rfl, Nat.le_of_ble_eq_true rfl⟩ (fun F H locs hT hz165118 => ?_)
      obtain ⟨yz165118, xz165118_0⟩ := hz165118
      have pf0 := (yz165118.1 _ 0 (Or.inr (by decide)) (Or.inr (by decide))).trans pf0
      have pf1 := (yz165118.1 _ 1 (Or.inr (by decide)) (Or.inr (by decide))).trans pf1
      have pf2 := (yz165118.1 _ 2 (Or.inr (by decide)) (Or.inr (by decide))).trans pf2
      have pf3 := (yz165118.1 _ 0 (Or.inr (by decide)) (Or.inr (by decide))).trans pf3
      have pf4 := (yz165118.1 _ 10 (Or.inr (by decide)) (Or.inr (by decide))).trans pf4
      have pf5 := (yz165118.1 _ 11 (Or.inr (by decide)) (Or.inr (by decide))).trans pf5
      have hv165104 := (yz165118.1 _ 3 (Or.inl (by rw [gx0]; decide)) (Or.inr (by decide))).trans hv165104
      have hv165109 := (yz165118.1 _ 4 (Or.inr (by decide)) (Or.inl (by rw [gx0]; decide))).trans hv165109
      have hfr : (∀ b j : Nat, (tag b ≠ 24 ∨ j ≠ 2) → (tag b ≠ 24 ∨ j ≠ 3) → (tag b ≠ 24 ∨ j ≠ 4) → (tag b ≠ 24 ∨ j ≠ 5) → (tag b ≠ 24 ∨ j ≠ 6) → (tag b ≠ 24 ∨ j ≠ 7) → (tag b ≠ 25 ∨ j ≠ 3) → (tag b ≠ 25 ∨ j ≠ 4) → fld F b j = fld Fo b j) ∧ EF tag F Fo := ⟨fun b j n24_2 n24_3 n24_4 n24_5 n24_6 n24_7 n25_3 n25_4 => (yz165118.1 b j n25_3 n25_4).trans (hfr.1 b j n24_2 n24_3 n24_4 n24_5 n24_6 n24_7 n25_3 n25_4), fun b j hb => (yz165118.2 b j hb).trans (hfr.2 b j hb)⟩
      have hrel := nsr_of (fun j => yz165118.2 _ j (Or.inl gx4)) (fun j => yz165118.2 _ j (Or.inr gx5)) hrel
      obtain ⟨z165119, qz165119, rz165119⟩ := xz165118_0
      refine lv_aload_n hx hb dX3_name_63 rfl (lv_at hl 1 rfl) ?_
      refine t_get (C := RX3) (T := TX3) (N := 13) X hT m0 g0 rfl rfl 3 (by decide) qw_163 inlX3 rfl dX3_name_64 (fun v165120 hv165120 ov165120 => ?_)
      obtain rfl : v165120 = .int z165119 := hv165120.symm.trans qz165119
      refine lv_if_ne (tgt := 75) hx hb dX3_name_67 (by decide) (fun c165121 => ?_) (fun c165121 => ?_)
      · have w165122 := cv_ne (rfl : z165119.toInt = z165119.toInt) (by decide : (0 : Int32).toInt = 0) c165121
        refine lv_iconst (v := 0) hx hb dX3_name_75 (by decide) ?_
        exact t_iret hQ X hT (⟨(by decide), hfr, hrel⟩) (Nat.le_of_ble_eq_true rfl) (Nat.le_of_ble_eq_true rfl) dX3_name_76
      · have w165123 := cv_eq (rfl : z165119.toInt = z165119.toInt) (by decide : (0 : Int32).toInt = 0) c165121
        exfalso
        omega
    · have w165124 := cv_ne (rfl : z165113.toInt = z165113.toInt) (by decide : ((-1) : Int32).toInt = (-1)) c165114
      refine lv_aload_n hx hb dX3_name_41 rfl (lv_at hl 1 rfl) ?_
      refine t_get (C := RX3) (T := TX3) (N := 13) X hT m0 g0 rfl rfl 10 (by decide) qw_75 inlX3 rfl dX3_name_42 (fun v165125 hv165125 ov165125 => ?_)
      obtain rfl : v165125 = .ref x4 := hv165125.symm.trans pf4
      refine lv_iload_n hx hb dX3_name_45 rfl (lv_at hl 0 rfl) ?_
      refine t_ild X hT mx4 gx4 rfl (by omega) dX3_name_46 (fun z165126 vz165126 rz165126 => ?_)
      have rz165126 : (-2147483648) ≤ z165126.toInt ∧ z165126.toInt ≤ 2147483647 := rz165126
      refine lv_iload_n hx hb dX3_name_47 rfl (lv_at hl 2 rfl) ?_
      refine lv_icmp_eq (tgt := 63) hx hb dX3_name_48 (by decide) (fun c165127 => ?_) (fun c165127 => ?_)
      · have w165128 := cv_eq (rfl : z165126.toInt = z165126.toInt) (rfl : p1.toInt = p1.toInt) c165127
        refine lv_aload_n hx hb dX3_name_63 rfl (lv_at hl 1 rfl) ?_
        refine t_get (C := RX3) (T := TX3) (N := 13) X hT m0 g0 rfl rfl 3 (by decide) qw_163 inlX3 rfl dX3_name_64 (fun v165129 hv165129 ov165129 => ?_)
        obtain rfl : v165129 = .int z165112 := hv165129.symm.trans qz165112
        refine lv_if_ne (tgt := 75) hx hb dX3_name_67 (by decide) (fun c165130 => ?_) (fun c165130 => ?_)
        · have w165131 := cv_ne (rfl : z165112.toInt = z165112.toInt) (by decide : (0 : Int32).toInt = 0) c165130
          refine lv_iconst (v := 0) hx hb dX3_name_75 (by decide) ?_
          exact t_iret hQ X hT (⟨(by decide), hfr, hrel⟩) (Nat.le_of_ble_eq_true rfl) (Nat.le_of_ble_eq_true rfl) dX3_name_76
        · have w165132 := cv_eq (rfl : z165112.toInt = z165112.toInt) (by decide : (0 : Int32).toInt = 0) c165130
          exfalso
          omega
      · have w165133 := cv_ne (rfl : z165126.toInt = z165126.toInt) (rfl : p1.toInt = p1.toInt) c165127
        refine lv_aload_n hx hb dX3_name_51 rfl (lv_at hl 1 rfl) ?_
        refine lv_iconst (v := 2) hx hb dX3_name_52 (by decide) ?_
        refine lv_aload_n hx hb dX3_name_53 rfl (lv_at hl 1 rfl) ?_
        refine t_get (C := RX3) (T := TX3) (N := 13) X hT m0 g0 rfl rfl 0 (by decide) qw_73 inlX3 rfl dX3_name_54 (fun v165134 hv165134 ov165134 => ?_)
        obtain rfl : v165134 = .ref x0 := hv165134.symm.trans pf0
        refine t_get (C := RX8) (T := TX8) (N := 8) X hT mx0 gx0 rfl rfl 4 (by decide) qw_227 inlX8 rfl dX3_name_57 (fun v165135 hv165135 ov165135 => ?_)
        obtain rfl : v165135 = .int z165110 := hv165135.symm.trans hv165109
        refine t_cVv (n := 2) (C := RX3) (T := TX3) (N := 13) (As := [.int 2, .int z165110]) (rest := []) X hT (kt432_X3_fail l G tag L F hT.2.2.2 p0 2 z165110 m0 g0 (by decide)) m0 g0 rfl rfl qw_287 qw_288 qw_289 qw_28 qw_290 ⟨rfl, by decide +kernel, by decide +kernel, by decide +kernel⟩ ⟨Nat.le_of_ble_eq_true rfl, Nat.le_of_ble_eq_true rfl⟩ hl rfl rfl (Nat.le_of_ble_eq_true rfl) dX3_name_60 ⟨Nat.le_of_ble_eq_true rfl, Nat.le_of_ble_eq_true rfl⟩ (fun F H locs hT hz165136 => ?_)
        obtain ⟨yz165136, xz165136_0⟩ := hz165136
        have pf0 := (yz165136.1 _ 0 (Or.inr (by decide)) (Or.inr (by decide))).trans pf0
        have pf1 := (yz165136.1 _ 1 (Or.inr (by decide)) (Or.inr (by decide))).trans pf1
        have pf2 := (yz165136.1 _ 2 (Or.inr (by decide)) (Or.inr (by decide))).trans pf2
        have pf3 := (yz165136.1 _ 0 (Or.inr (by decide)) (Or.inr (by decide))).trans pf3
        have pf4 := (yz165136.1 _ 10 (Or.inr (by decide)) (Or.inr (by decide))).trans pf4
        have pf5 := (yz165136.1 _ 11 (Or.inr (by decide)) (Or.inr (by decide))).trans pf5
        have hv165104 := (yz165136.1 _ 3 (Or.inl (by rw [gx0]; decide)) (Or.inr (by decide))).trans hv165104
        have hv165109 := (yz165136.1 _ 4 (Or.inr (by decide)) (Or.inl (by rw [gx0]; decide))).trans hv165109
        have vz165126 := (yz165136.2 _ _ (Or.inl gx4)).trans vz165126
        have hfr : (∀ b j : Nat, (tag b ≠ 24 ∨ j ≠ 2) → (tag b ≠ 24 ∨ j ≠ 3) → (tag b ≠ 24 ∨ j ≠ 4) → (tag b ≠ 24 ∨ j ≠ 5) → (tag b ≠ 24 ∨ j ≠ 6) → (tag b ≠ 24 ∨ j ≠ 7) → (tag b ≠ 25 ∨ j ≠ 3) → (tag b ≠ 25 ∨ j ≠ 4) → fld F b j = fld Fo b j) ∧ EF tag F Fo := ⟨fun b j n24_2 n24_3 n24_4 n24_5 n24_6 n24_7 n25_3 n25_4 => (yz165136.1 b j n25_3 n25_4).trans (hfr.1 b j n24_2 n24_3 n24_4 n24_5 n24_6 n24_7 n25_3 n25_4), fun b j hb => (yz165136.2 b j hb).trans (hfr.2 b j hb)⟩
        have hrel := nsr_of (fun j => yz165136.2 _ j (Or.inl gx4)) (fun j => yz165136.2 _ j (Or.inr gx5)) hrel
        obtain ⟨z165137, qz165137, rz165137⟩ := xz165136_0
        refine lv_aload_n hx hb dX3_name_63 rfl (lv_at hl 1 rfl) ?_
        refine t_get (C := RX3) (T := TX3) (N := 13) X hT m0 g0 rfl rfl 3 (by decide) qw_163 inlX3 rfl dX3_name_64 (fun v165138 hv165138 ov165138 => ?_)
        obtain rfl : v165138 = .int z165137 := hv165138.symm.trans qz165137
        refine lv_if_ne (tgt := 75) hx hb dX3_name_67 (by decide) (fun c165139 => ?_) (fun c165139 => ?_)
        · have w165140 := cv_ne (rfl : z165137.toInt = z165137.toInt) (by decide : (0 : Int32).toInt = 0) c165139
          refine lv_iconst (v := 0) hx hb dX3_name_75 (by decide) ?_
          exact t_iret hQ X hT (⟨(by decide), hfr, hrel⟩) (Nat.le_of_ble_eq_true rfl) (Nat.le_of_ble_eq_true rfl) dX3_name_76
        · have w165141 := cv_eq (rfl : z165137.toInt = z165137.toInt) (by decide : (0 : Int32).toInt = 0) c165139
          exfalso
          omega
  · have w165142 := cv_eq (rfl : z165105.toInt = z165105.toInt) (by decide : (1 : Int32).toInt = 1) c165106
    refine lv_aload_n hx hb dX3_name_11 rfl (lv_at hl 0 rfl) ?_
    refine t_cVi (n := 0) (C := RX3) (T := TX3) (N := 13) (As := []) (rest := []) X hT (kt443_X3_lineSort l G tag L F hT.2.2.2 p0 x0 x1 x2 x3 x4 x5 m0 g0 mx0 gx0 pf0 mx1 gx1 pf1 mx2 gx2 pf2 mx3 gx3 pf3 mx4 gx4 pf4 mx5 gx5 pf5) m0 g0 rfl rfl qw_230 qw_231 qw_232 qw_28 qw_233 ⟨rfl, by decide +kernel, by decide +kernel, by decide +kernel⟩ ⟨Nat.le_of_ble_eq_true rfl, Nat.le_of_ble_eq_true rfl⟩ hl rfl rfl (Nat.le_of_ble_eq_true rfl) dX3_name_12 ⟨Nat.le_of_ble_eq_true rfl, Nat.le_of_ble_eq_true rfl⟩ (fun z165143 F9 H locs hT hz165143 => ?_)
    obtain ⟨fz165143, hz165143⟩ := hz165143
    rw [fz165143] at hT
    refine lv_iconst (v := (-1)) hx hb dX3_name_15 (by decide) ?_
    refine lv_icmp_eq (tgt := 31) hx hb dX3_name_16 (by decide) (fun c165144 => ?_) (fun c165144 => ?_)
    · have w165145 := cv_eq (rfl : z165143.toInt = z165143.toInt) (by decide : ((-1) : Int32).toInt = (-1)) c165144
      refine lv_aload_n hx hb dX3_name_31 rfl (lv_at hl 0 rfl) ?_
      refine t_cVi (n := 0) (C := RX3) (T := TX3) (N := 13) (As := []) (rest := []) X hT (kt442_X3_findName l G tag L F hT.2.2.2 p0 x0 x1 x2 x3 x4 x5 m0 g0 mx0 gx0 pf0 mx1 gx1 pf1 mx2 gx2 pf2 mx3 gx3 pf3 mx4 gx4 pf4 mx5 gx5 pf5) m0 g0 rfl rfl qw_361 qw_362 qw_363 qw_28 qw_364 ⟨rfl, by decide +kernel, by decide +kernel, by decide +kernel⟩ ⟨Nat.le_of_ble_eq_true rfl, Nat.le_of_ble_eq_true rfl⟩ hl rfl rfl (Nat.le_of_ble_eq_true rfl) dX3_name_32 ⟨Nat.le_of_ble_eq_true rfl, Nat.le_of_ble_eq_true rfl⟩ (fun z165146 F9 H locs hT hz165146 => ?_)
      obtain ⟨fz165146, hz165146⟩ := hz165146
      rw [fz165146] at hT
      refine lv_istore_n (lv' := [(2, .int z165146), (0, .ref p0), (1, .int p1)]) hx hb dX3_name_35 rfl hl (by decide) rfl (fun ls hl => ?_)
      refine lv_iload_n hx hb dX3_name_36 rfl (lv_at hl 0 rfl) ?_
      refine lv_iconst (v := (-1)) hx hb dX3_name_37 (by decide) ?_
      refine lv_icmp_eq (tgt := 51) hx hb dX3_name_38 (by decide) (fun c165147 => ?_) (fun c165147 => ?_)
      · have w165148 := cv_eq (rfl : z165146.toInt = z165146.toInt) (by decide : ((-1) : Int32).toInt = (-1)) c165147
        refine lv_aload_n hx hb dX3_name_51 rfl (lv_at hl 1 rfl) ?_
        refine lv_iconst (v := 2) hx hb dX3_name_52 (by decide) ?_
        refine lv_aload_n hx hb dX3_name_53 rfl (lv_at hl 1 rfl) ?_
        refine t_get (C := RX3) (T := TX3) (N := 13) X hT m0 g0 rfl rfl 0 (by decide) qw_73 inlX3 rfl dX3_name_54 (fun v165149 hv165149 ov165149 => ?_)
        obtain rfl : v165149 = .ref x0 := hv165149.symm.trans pf0
        refine t_get (C := RX8) (T := TX8) (N := 8) X hT mx0 gx0 rfl rfl 4 (by decide) qw_227 inlX8 rfl dX3_name_57 (fun v165150 hv165150 ov165150 => ?_)
        obtain ⟨z165151, rfl, rz165151⟩ := okV_i ov165150
        refine t_cVv (n := 2) (C := RX3) (T := TX3) (N := 13) (As := [.int 2, .int z165151]) (rest := []) X hT (kt432_X3_fail l G tag L F hT.2.2.2 p0 2 z165151 m0 g0 (by decide)) m0 g0 rfl rfl qw_287 qw_288 qw_289 qw_28 qw_290 ⟨rfl, by decide +kernel, by decide +kernel, by decide +kernel⟩ ⟨Nat.le_of_ble_eq_true rfl, Nat.le_of_ble_eq_true rfl⟩ hl rfl rfl (Nat.le_of_ble_eq_true rfl) dX3_name_60 ⟨Nat.le_of_ble_eq_true rfl, Nat.le_of_ble_eq_true rfl⟩ (fun F H locs hT hz165152 => ?_)
        obtain ⟨yz165152, xz165152_0⟩ := hz165152
        have pf0 := (yz165152.1 _ 0 (Or.inr (by decide)) (Or.inr (by decide))).trans pf0
        have pf1 := (yz165152.1 _ 1 (Or.inr (by decide)) (Or.inr (by decide))).trans pf1
        have pf2 := (yz165152.1 _ 2 (Or.inr (by decide)) (Or.inr (by decide))).trans pf2
        have pf3 := (yz165152.1 _ 0 (Or.inr (by decide)) (Or.inr (by decide))).trans pf3
        have pf4 := (yz165152.1 _ 10 (Or.inr (by decide)) (Or.inr (by decide))).trans pf4
        have pf5 := (yz165152.1 _ 11 (Or.inr (by decide)) (Or.inr (by decide))).trans pf5
        have hv165104 := (yz165152.1 _ 3 (Or.inl (by rw [gx0]; decide)) (Or.inr (by decide))).trans hv165104
        have hv165150 := (yz165152.1 _ 4 (Or.inr (by decide)) (Or.inl (by rw [gx0]; decide))).trans hv165150
        have hfr : (∀ b j : Nat, (tag b ≠ 24 ∨ j ≠ 2) → (tag b ≠ 24 ∨ j ≠ 3) → (tag b ≠ 24 ∨ j ≠ 4) → (tag b ≠ 24 ∨ j ≠ 5) → (tag b ≠ 24 ∨ j ≠ 6) → (tag b ≠ 24 ∨ j ≠ 7) → (tag b ≠ 25 ∨ j ≠ 3) → (tag b ≠ 25 ∨ j ≠ 4) → fld F b j = fld Fo b j) ∧ EF tag F Fo := ⟨fun b j n24_2 n24_3 n24_4 n24_5 n24_6 n24_7 n25_3 n25_4 => (yz165152.1 b j n25_3 n25_4).trans (hfr.1 b j n24_2 n24_3 n24_4 n24_5 n24_6 n24_7 n25_3 n25_4), fun b j hb => (yz165152.2 b j hb).trans (hfr.2 b j hb)⟩
        have hrel := nsr_of (fun j => yz165152.2 _ j (Or.inl gx4)) (fun j => yz165152.2 _ j (Or.inr gx5)) hrel
        obtain ⟨z165153, qz165153, rz165153⟩ := xz165152_0
        refine lv_aload_n hx hb dX3_name_63 rfl (lv_at hl 1 rfl) ?_
        refine t_get (C := RX3) (T := TX3) (N := 13) X hT m0 g0 rfl rfl 3 (by decide) qw_163 inlX3 rfl dX3_name_64 (fun v165154 hv165154 ov165154 => ?_)
        obtain rfl : v165154 = .int z165153 := hv165154.symm.trans qz165153
        refine lv_if_ne (tgt := 75) hx hb dX3_name_67 (by decide) (fun c165155 => ?_) (fun c165155 => ?_)
        · have w165156 := cv_ne (rfl : z165153.toInt = z165153.toInt) (by decide : (0 : Int32).toInt = 0) c165155
          refine lv_iconst (v := 0) hx hb dX3_name_75 (by decide) ?_
          exact t_iret hQ X hT (⟨(by decide), hfr, hrel⟩) (Nat.le_of_ble_eq_true rfl) (Nat.le_of_ble_eq_true rfl) dX3_name_76
        · have w165157 := cv_eq (rfl : z165153.toInt = z165153.toInt) (by decide : (0 : Int32).toInt = 0) c165155
          exfalso
          omega
      · have w165158 := cv_ne (rfl : z165146.toInt = z165146.toInt) (by decide : ((-1) : Int32).toInt = (-1)) c165147
        refine lv_aload_n hx hb dX3_name_41 rfl (lv_at hl 1 rfl) ?_
        refine t_get (C := RX3) (T := TX3) (N := 13) X hT m0 g0 rfl rfl 10 (by decide) qw_75 inlX3 rfl dX3_name_42 (fun v165159 hv165159 ov165159 => ?_)
        obtain rfl : v165159 = .ref x4 := hv165159.symm.trans pf4
        refine lv_iload_n hx hb dX3_name_45 rfl (lv_at hl 0 rfl) ?_
        refine t_ild X hT mx4 gx4 rfl (by omega) dX3_name_46 (fun z165160 vz165160 rz165160 => ?_)
        have rz165160 : (-2147483648) ≤ z165160.toInt ∧ z165160.toInt ≤ 2147483647 := rz165160
        refine lv_iload_n hx hb dX3_name_47 rfl (lv_at hl 2 rfl) ?_
        refine lv_icmp_eq (tgt := 63) hx hb dX3_name_48 (by decide) (fun c165161 => ?_) (fun c165161 => ?_)
        · have w165162 := cv_eq (rfl : z165160.toInt = z165160.toInt) (rfl : p1.toInt = p1.toInt) c165161
          refine lv_aload_n hx hb dX3_name_63 rfl (lv_at hl 1 rfl) ?_
          refine t_get (C := RX3) (T := TX3) (N := 13) X hT m0 g0 rfl rfl 3 (by decide) qw_163 inlX3 rfl dX3_name_64 (fun v165163 hv165163 ov165163 => ?_)
          obtain ⟨z165164, rfl, rz165164⟩ := okV_i ov165163
          refine lv_if_ne (tgt := 75) hx hb dX3_name_67 (by decide) (fun c165165 => ?_) (fun c165165 => ?_)
          · have w165166 := cv_ne (rfl : z165164.toInt = z165164.toInt) (by decide : (0 : Int32).toInt = 0) c165165
            refine lv_iconst (v := 0) hx hb dX3_name_75 (by decide) ?_
            exact t_iret hQ X hT (⟨(by decide), hfr, hrel⟩) (Nat.le_of_ble_eq_true rfl) (Nat.le_of_ble_eq_true rfl) dX3_name_76
          · have w165167 := cv_eq (rfl : z165164.toInt = z165164.toInt) (by decide : (0 : Int32).toInt = 0) c165165
            refine lv_iload_n hx hb dX3_name_70 rfl (lv_at hl 0 rfl) ?_
            refine lv_iconst (v := (-1)) hx hb dX3_name_71 (by decide) ?_
            refine lv_icmp_ne (tgt := 77) hx hb dX3_name_72 (by decide) (fun c165168 => ?_) (fun c165168 => ?_)
            · have w165169 := cv_ne (rfl : z165146.toInt = z165146.toInt) (by decide : ((-1) : Int32).toInt = (-1)) c165168
              refine lv_aload_n hx hb dX3_name_77 rfl (lv_at hl 1 rfl) ?_
              refine t_get (C := RX3) (T := TX3) (N := 13) X hT m0 g0 rfl rfl 0 (by decide) qw_73 inlX3 rfl dX3_name_78 (fun v165170 hv165170 ov165170 => ?_)
              obtain rfl : v165170 = .ref x0 := hv165170.symm.trans pf0
              refine t_cVv (n := 0) (C := RX8) (T := TX8) (N := 8) (As := []) (rest := []) X hT (kt440_X8_advance l G tag L F hT.2.2.2 x0 x3 mx0 gx0 mx3 gx3 pf3) mx0 gx0 rfl rfl qw_305 qw_197 qw_198 qw_72 qw_199 ⟨rfl, by decide +kernel, by decide +kernel, by decide +kernel⟩ ⟨Nat.le_of_ble_eq_true rfl, Nat.le_of_ble_eq_true rfl⟩ hl rfl rfl (Nat.le_of_ble_eq_true rfl) dX3_name_81 ⟨Nat.le_of_ble_eq_true rfl, Nat.le_of_ble_eq_true rfl⟩ (fun F H locs hT hz165171 => ?_)
              have yz165171 := hz165171
              have pf0 := (yz165171.1 _ 0 (Or.inr (by decide)) (Or.inr (by decide)) (Or.inr (by decide)) (Or.inr (by decide)) (Or.inr (by decide)) (Or.inr (by decide))).trans pf0
              have pf1 := (yz165171.1 _ 1 (Or.inr (by decide)) (Or.inr (by decide)) (Or.inr (by decide)) (Or.inr (by decide)) (Or.inr (by decide)) (Or.inr (by decide))).trans pf1
              have pf2 := (yz165171.1 _ 2 (Or.inl (by rw [g0]; decide)) (Or.inr (by decide)) (Or.inr (by decide)) (Or.inr (by decide)) (Or.inr (by decide)) (Or.inr (by decide))).trans pf2
              have pf3 := (yz165171.1 _ 0 (Or.inr (by decide)) (Or.inr (by decide)) (Or.inr (by decide)) (Or.inr (by decide)) (Or.inr (by decide)) (Or.inr (by decide))).trans pf3
              have pf4 := (yz165171.1 _ 10 (Or.inr (by decide)) (Or.inr (by decide)) (Or.inr (by decide)) (Or.inr (by decide)) (Or.inr (by decide)) (Or.inr (by decide))).trans pf4
              have pf5 := (yz165171.1 _ 11 (Or.inr (by decide)) (Or.inr (by decide)) (Or.inr (by decide)) (Or.inr (by decide)) (Or.inr (by decide)) (Or.inr (by decide))).trans pf5
              have vz165160 := (yz165171.2 _ _ (Or.inl gx4)).trans vz165160
              have hv165163 := (yz165171.1 _ 3 (Or.inr (by decide)) (Or.inl (by rw [g0]; decide)) (Or.inr (by decide)) (Or.inr (by decide)) (Or.inr (by decide)) (Or.inr (by decide))).trans hv165163
              have hfr : (∀ b j : Nat, (tag b ≠ 24 ∨ j ≠ 2) → (tag b ≠ 24 ∨ j ≠ 3) → (tag b ≠ 24 ∨ j ≠ 4) → (tag b ≠ 24 ∨ j ≠ 5) → (tag b ≠ 24 ∨ j ≠ 6) → (tag b ≠ 24 ∨ j ≠ 7) → (tag b ≠ 25 ∨ j ≠ 3) → (tag b ≠ 25 ∨ j ≠ 4) → fld F b j = fld Fo b j) ∧ EF tag F Fo := ⟨fun b j n24_2 n24_3 n24_4 n24_5 n24_6 n24_7 n25_3 n25_4 => (yz165171.1 b j n24_2 n24_3 n24_4 n24_5 n24_6 n24_7).trans (hfr.1 b j n24_2 n24_3 n24_4 n24_5 n24_6 n24_7 n25_3 n25_4), fun b j hb => (yz165171.2 b j hb).trans (hfr.2 b j hb)⟩
              have hrel := nsr_of (fun j => yz165171.2 _ j (Or.inl gx4)) (fun j => yz165171.2 _ j (Or.inr gx5)) hrel
              refine lv_aload_n hx hb dX3_name_84 rfl (lv_at hl 1 rfl) ?_
              refine t_get (C := RX3) (T := TX3) (N := 13) X hT m0 g0 rfl rfl 11 (by decide) qw_76 inlX3 rfl dX3_name_85 (fun v165172 hv165172 ov165172 => ?_)
              obtain rfl : v165172 = .ref x5 := hv165172.symm.trans pf5
              refine lv_iload_n hx hb dX3_name_88 rfl (lv_at hl 0 rfl) ?_
              refine t_ild X hT mx5 gx5 rfl (by omega) dX3_name_89 (fun z165173 vz165173 rz165173 => ?_)
              have rz165173 : (-2147483648) ≤ z165173.toInt ∧ z165173.toInt ≤ 2147483647 := rz165173
              have rz165173 := nsr_7 hrel vz165160 vz165173 (by omega)
              exact t_iret hQ X hT (⟨(by omega), hfr, hrel⟩) (Nat.le_of_ble_eq_true rfl) (Nat.le_of_ble_eq_true rfl) dX3_name_90
            · have w165174 := cv_eq (rfl : z165146.toInt = z165146.toInt) (by decide : ((-1) : Int32).toInt = (-1)) c165168
              exfalso
              omega
        · have w165175 := cv_ne (rfl : z165160.toInt = z165160.toInt) (rfl : p1.toInt = p1.toInt) c165161
          refine lv_aload_n hx hb dX3_name_51 rfl (lv_at hl 1 rfl) ?_
          refine lv_iconst (v := 2) hx hb dX3_name_52 (by decide) ?_
          refine lv_aload_n hx hb dX3_name_53 rfl (lv_at hl 1 rfl) ?_
          refine t_get (C := RX3) (T := TX3) (N := 13) X hT m0 g0 rfl rfl 0 (by decide) qw_73 inlX3 rfl dX3_name_54 (fun v165176 hv165176 ov165176 => ?_)
          obtain rfl : v165176 = .ref x0 := hv165176.symm.trans pf0
          refine t_get (C := RX8) (T := TX8) (N := 8) X hT mx0 gx0 rfl rfl 4 (by decide) qw_227 inlX8 rfl dX3_name_57 (fun v165177 hv165177 ov165177 => ?_)
          obtain ⟨z165178, rfl, rz165178⟩ := okV_i ov165177
          refine t_cVv (n := 2) (C := RX3) (T := TX3) (N := 13) (As := [.int 2, .int z165178]) (rest := []) X hT (kt432_X3_fail l G tag L F hT.2.2.2 p0 2 z165178 m0 g0 (by decide)) m0 g0 rfl rfl qw_287 qw_288 qw_289 qw_28 qw_290 ⟨rfl, by decide +kernel, by decide +kernel, by decide +kernel⟩ ⟨Nat.le_of_ble_eq_true rfl, Nat.le_of_ble_eq_true rfl⟩ hl rfl rfl (Nat.le_of_ble_eq_true rfl) dX3_name_60 ⟨Nat.le_of_ble_eq_true rfl, Nat.le_of_ble_eq_true rfl⟩ (fun F H locs hT hz165179 => ?_)
          obtain ⟨yz165179, xz165179_0⟩ := hz165179
          have pf0 := (yz165179.1 _ 0 (Or.inr (by decide)) (Or.inr (by decide))).trans pf0
          have pf1 := (yz165179.1 _ 1 (Or.inr (by decide)) (Or.inr (by decide))).trans pf1
          have pf2 := (yz165179.1 _ 2 (Or.inr (by decide)) (Or.inr (by decide))).trans pf2
          have pf3 := (yz165179.1 _ 0 (Or.inr (by decide)) (Or.inr (by decide))).trans pf3
          have pf4 := (yz165179.1 _ 10 (Or.inr (by decide)) (Or.inr (by decide))).trans pf4
          have pf5 := (yz165179.1 _ 11 (Or.inr (by decide)) (Or.inr (by decide))).trans pf5
          have hv165104 := (yz165179.1 _ 3 (Or.inl (by rw [gx0]; decide)) (Or.inr (by decide))).trans hv165104
          have vz165160 := (yz165179.2 _ _ (Or.inl gx4)).trans vz165160
          have hv165177 := (yz165179.1 _ 4 (Or.inr (by decide)) (Or.inl (by rw [gx0]; decide))).trans hv165177
          have hfr : (∀ b j : Nat, (tag b ≠ 24 ∨ j ≠ 2) → (tag b ≠ 24 ∨ j ≠ 3) → (tag b ≠ 24 ∨ j ≠ 4) → (tag b ≠ 24 ∨ j ≠ 5) → (tag b ≠ 24 ∨ j ≠ 6) → (tag b ≠ 24 ∨ j ≠ 7) → (tag b ≠ 25 ∨ j ≠ 3) → (tag b ≠ 25 ∨ j ≠ 4) → fld F b j = fld Fo b j) ∧ EF tag F Fo := ⟨fun b j n24_2 n24_3 n24_4 n24_5 n24_6 n24_7 n25_3 n25_4 => (yz165179.1 b j n25_3 n25_4).trans (hfr.1 b j n24_2 n24_3 n24_4 n24_5 n24_6 n24_7 n25_3 n25_4), fun b j hb => (yz165179.2 b j hb).trans (hfr.2 b j hb)⟩
          have hrel := nsr_of (fun j => yz165179.2 _ j (Or.inl gx4)) (fun j => yz165179.2 _ j (Or.inr gx5)) hrel
          obtain ⟨z165180, qz165180, rz165180⟩ := xz165179_0
          refine lv_aload_n hx hb dX3_name_63 rfl (lv_at hl 1 rfl) ?_
          refine t_get (C := RX3) (T := TX3) (N := 13) X hT m0 g0 rfl rfl 3 (by decide) qw_163 inlX3 rfl dX3_name_64 (fun v165181 hv165181 ov165181 => ?_)
          obtain rfl : v165181 = .int z165180 := hv165181.symm.trans qz165180
          refine lv_if_ne (tgt := 75) hx hb dX3_name_67 (by decide) (fun c165182 => ?_) (fun c165182 => ?_)
          · have w165183 := cv_ne (rfl : z165180.toInt = z165180.toInt) (by decide : (0 : Int32).toInt = 0) c165182
            refine lv_iconst (v := 0) hx hb dX3_name_75 (by decide) ?_
            exact t_iret hQ X hT (⟨(by decide), hfr, hrel⟩) (Nat.le_of_ble_eq_true rfl) (Nat.le_of_ble_eq_true rfl) dX3_name_76
          · have w165184 := cv_eq (rfl : z165180.toInt = z165180.toInt) (by decide : (0 : Int32).toInt = 0) c165182
            exfalso
            omega
    · have w165185 := cv_ne (rfl : z165143.toInt = z165143.toInt) (by decide : ((-1) : Int32).toInt = (-1)) c165144
      refine lv_aload_n hx hb dX3_name_19 rfl (lv_at hl 0 rfl) ?_
      refine lv_iconst (v := 1) hx hb dX3_name_20 (by decide) ?_
      refine lv_aload_n hx hb dX3_name_21 rfl (lv_at hl 0 rfl) ?_
      refine t_get (C := RX3) (T := TX3) (N := 13) X hT m0 g0 rfl rfl 0 (by decide) qw_73 inlX3 rfl dX3_name_22 (fun v165186 hv165186 ov165186 => ?_)
      obtain rfl : v165186 = .ref x0 := hv165186.symm.trans pf0
      refine t_get (C := RX8) (T := TX8) (N := 8) X hT mx0 gx0 rfl rfl 4 (by decide) qw_227 inlX8 rfl dX3_name_25 (fun v165187 hv165187 ov165187 => ?_)
      obtain ⟨z165188, rfl, rz165188⟩ := okV_i ov165187
      refine t_cVv (n := 2) (C := RX3) (T := TX3) (N := 13) (As := [.int 1, .int z165188]) (rest := []) X hT (kt432_X3_fail l G tag L F hT.2.2.2 p0 1 z165188 m0 g0 (by decide)) m0 g0 rfl rfl qw_287 qw_288 qw_289 qw_28 qw_290 ⟨rfl, by decide +kernel, by decide +kernel, by decide +kernel⟩ ⟨Nat.le_of_ble_eq_true rfl, Nat.le_of_ble_eq_true rfl⟩ hl rfl rfl (Nat.le_of_ble_eq_true rfl) dX3_name_28 ⟨Nat.le_of_ble_eq_true rfl, Nat.le_of_ble_eq_true rfl⟩ (fun F H locs hT hz165189 => ?_)
      obtain ⟨yz165189, xz165189_0⟩ := hz165189
      have pf0 := (yz165189.1 _ 0 (Or.inr (by decide)) (Or.inr (by decide))).trans pf0
      have pf1 := (yz165189.1 _ 1 (Or.inr (by decide)) (Or.inr (by decide))).trans pf1
      have pf2 := (yz165189.1 _ 2 (Or.inr (by decide)) (Or.inr (by decide))).trans pf2
      have pf3 := (yz165189.1 _ 0 (Or.inr (by decide)) (Or.inr (by decide))).trans pf3
      have pf4 := (yz165189.1 _ 10 (Or.inr (by decide)) (Or.inr (by decide))).trans pf4
      have pf5 := (yz165189.1 _ 11 (Or.inr (by decide)) (Or.inr (by decide))).trans pf5
      have hv165104 := (yz165189.1 _ 3 (Or.inl (by rw [gx0]; decide)) (Or.inr (by decide))).trans hv165104
      have hv165187 := (yz165189.1 _ 4 (Or.inr (by decide)) (Or.inl (by rw [gx0]; decide))).trans hv165187
      have hfr : (∀ b j : Nat, (tag b ≠ 24 ∨ j ≠ 2) → (tag b ≠ 24 ∨ j ≠ 3) → (tag b ≠ 24 ∨ j ≠ 4) → (tag b ≠ 24 ∨ j ≠ 5) → (tag b ≠ 24 ∨ j ≠ 6) → (tag b ≠ 24 ∨ j ≠ 7) → (tag b ≠ 25 ∨ j ≠ 3) → (tag b ≠ 25 ∨ j ≠ 4) → fld F b j = fld Fo b j) ∧ EF tag F Fo := ⟨fun b j n24_2 n24_3 n24_4 n24_5 n24_6 n24_7 n25_3 n25_4 => (yz165189.1 b j n25_3 n25_4).trans (hfr.1 b j n24_2 n24_3 n24_4 n24_5 n24_6 n24_7 n25_3 n25_4), fun b j hb => (yz165189.2 b j hb).trans (hfr.2 b j hb)⟩
      have hrel := nsr_of (fun j => yz165189.2 _ j (Or.inl gx4)) (fun j => yz165189.2 _ j (Or.inr gx5)) hrel
      obtain ⟨z165190, qz165190, rz165190⟩ := xz165189_0
      refine lv_aload_n hx hb dX3_name_31 rfl (lv_at hl 0 rfl) ?_
      refine t_cVi (n := 0) (C := RX3) (T := TX3) (N := 13) (As := []) (rest := []) X hT (kt442_X3_findName l G tag L F hT.2.2.2 p0 x0 x1 x2 x3 x4 x5 m0 g0 mx0 gx0 pf0 mx1 gx1 pf1 mx2 gx2 pf2 mx3 gx3 pf3 mx4 gx4 pf4 mx5 gx5 pf5) m0 g0 rfl rfl qw_361 qw_362 qw_363 qw_28 qw_364 ⟨rfl, by decide +kernel, by decide +kernel, by decide +kernel⟩ ⟨Nat.le_of_ble_eq_true rfl, Nat.le_of_ble_eq_true rfl⟩ hl rfl rfl (Nat.le_of_ble_eq_true rfl) dX3_name_32 ⟨Nat.le_of_ble_eq_true rfl, Nat.le_of_ble_eq_true rfl⟩ (fun z165191 F9 H locs hT hz165191 => ?_)
      obtain ⟨fz165191, hz165191⟩ := hz165191
      rw [fz165191] at hT
      refine lv_istore_n (lv' := [(2, .int z165191), (0, .ref p0), (1, .int p1)]) hx hb dX3_name_35 rfl hl (by decide) rfl (fun ls hl => ?_)
      refine lv_iload_n hx hb dX3_name_36 rfl (lv_at hl 0 rfl) ?_
      refine lv_iconst (v := (-1)) hx hb dX3_name_37 (by decide) ?_
      refine lv_icmp_eq (tgt := 51) hx hb dX3_name_38 (by decide) (fun c165192 => ?_) (fun c165192 => ?_)
      · have w165193 := cv_eq (rfl : z165191.toInt = z165191.toInt) (by decide : ((-1) : Int32).toInt = (-1)) c165192
        refine lv_aload_n hx hb dX3_name_51 rfl (lv_at hl 1 rfl) ?_
        refine lv_iconst (v := 2) hx hb dX3_name_52 (by decide) ?_
        refine lv_aload_n hx hb dX3_name_53 rfl (lv_at hl 1 rfl) ?_
        refine t_get (C := RX3) (T := TX3) (N := 13) X hT m0 g0 rfl rfl 0 (by decide) qw_73 inlX3 rfl dX3_name_54 (fun v165194 hv165194 ov165194 => ?_)
        obtain rfl : v165194 = .ref x0 := hv165194.symm.trans pf0
        refine t_get (C := RX8) (T := TX8) (N := 8) X hT mx0 gx0 rfl rfl 4 (by decide) qw_227 inlX8 rfl dX3_name_57 (fun v165195 hv165195 ov165195 => ?_)
        obtain rfl : v165195 = .int z165188 := hv165195.symm.trans hv165187
        refine t_cVv (n := 2) (C := RX3) (T := TX3) (N := 13) (As := [.int 2, .int z165188]) (rest := []) X hT (kt432_X3_fail l G tag L F hT.2.2.2 p0 2 z165188 m0 g0 (by decide)) m0 g0 rfl rfl qw_287 qw_288 qw_289 qw_28 qw_290 ⟨rfl, by decide +kernel, by decide +kernel, by decide +kernel⟩ ⟨Nat.le_of_ble_eq_true rfl, Nat.le_of_ble_eq_true rfl⟩ hl rfl rfl (Nat.le_of_ble_eq_true rfl) dX3_name_60 ⟨Nat.le_of_ble_eq_true rfl, Nat.le_of_ble_eq_true rfl⟩ (fun F H locs hT hz165196 => ?_)
        obtain ⟨yz165196, xz165196_0⟩ := hz165196
        have pf0 := (yz165196.1 _ 0 (Or.inr (by decide)) (Or.inr (by decide))).trans pf0
        have pf1 := (yz165196.1 _ 1 (Or.inr (by decide)) (Or.inr (by decide))).trans pf1
        have pf2 := (yz165196.1 _ 2 (Or.inr (by decide)) (Or.inr (by decide))).trans pf2
        have pf3 := (yz165196.1 _ 0 (Or.inr (by decide)) (Or.inr (by decide))).trans pf3
        have pf4 := (yz165196.1 _ 10 (Or.inr (by decide)) (Or.inr (by decide))).trans pf4
        have pf5 := (yz165196.1 _ 11 (Or.inr (by decide)) (Or.inr (by decide))).trans pf5
        have hv165104 := (yz165196.1 _ 3 (Or.inl (by rw [gx0]; decide)) (Or.inr (by decide))).trans hv165104
        have hv165187 := (yz165196.1 _ 4 (Or.inr (by decide)) (Or.inl (by rw [gx0]; decide))).trans hv165187
        have hfr : (∀ b j : Nat, (tag b ≠ 24 ∨ j ≠ 2) → (tag b ≠ 24 ∨ j ≠ 3) → (tag b ≠ 24 ∨ j ≠ 4) → (tag b ≠ 24 ∨ j ≠ 5) → (tag b ≠ 24 ∨ j ≠ 6) → (tag b ≠ 24 ∨ j ≠ 7) → (tag b ≠ 25 ∨ j ≠ 3) → (tag b ≠ 25 ∨ j ≠ 4) → fld F b j = fld Fo b j) ∧ EF tag F Fo := ⟨fun b j n24_2 n24_3 n24_4 n24_5 n24_6 n24_7 n25_3 n25_4 => (yz165196.1 b j n25_3 n25_4).trans (hfr.1 b j n24_2 n24_3 n24_4 n24_5 n24_6 n24_7 n25_3 n25_4), fun b j hb => (yz165196.2 b j hb).trans (hfr.2 b j hb)⟩
        have hrel := nsr_of (fun j => yz165196.2 _ j (Or.inl gx4)) (fun j => yz165196.2 _ j (Or.inr gx5)) hrel
        obtain ⟨z165197, qz165197, rz165197⟩ := xz165196_0
        refine lv_aload_n hx hb dX3_name_63 rfl (lv_at hl 1 rfl) ?_
        refine t_get (C := RX3) (T := TX3) (N := 13) X hT m0 g0 rfl rfl 3 (by decide) qw_163 inlX3 rfl dX3_name_64 (fun v165198 hv165198 ov165198 => ?_)
        obtain rfl : v165198 = .int z165197 := hv165198.symm.trans qz165197
        refine lv_if_ne (tgt := 75) hx hb dX3_name_67 (by decide) (fun c165199 => ?_) (fun c165199 => ?_)
        · have w165200 := cv_ne (rfl : z165197.toInt = z165197.toInt) (by decide : (0 : Int32).toInt = 0) c165199
          refine lv_iconst (v := 0) hx hb dX3_name_75 (by decide) ?_
          exact t_iret hQ X hT (⟨(by decide), hfr, hrel⟩) (Nat.le_of_ble_eq_true rfl) (Nat.le_of_ble_eq_true rfl) dX3_name_76
        · have w165201 := cv_eq (rfl : z165197.toInt = z165197.toInt) (by decide : (0 : Int32).toInt = 0) c165199
          exfalso
          omega
      · have w165202 := cv_ne (rfl : z165191.toInt = z165191.toInt) (by decide : ((-1) : Int32).toInt = (-1)) c165192
        refine lv_aload_n hx hb dX3_name_41 rfl (lv_at hl 1 rfl) ?_
        refine t_get (C := RX3) (T := TX3) (N := 13) X hT m0 g0 rfl rfl 10 (by decide) qw_75 inlX3 rfl dX3_name_42 (fun v165203 hv165203 ov165203 => ?_)
        obtain rfl : v165203 = .ref x4 := hv165203.symm.trans pf4
        refine lv_iload_n hx hb dX3_name_45 rfl (lv_at hl 0 rfl) ?_
        refine t_ild X hT mx4 gx4 rfl (by omega) dX3_name_46 (fun z165204 vz165204 rz165204 => ?_)
        have rz165204 : (-2147483648) ≤ z165204.toInt ∧ z165204.toInt ≤ 2147483647 := rz165204
        refine lv_iload_n hx hb dX3_name_47 rfl (lv_at hl 2 rfl) ?_
        refine lv_icmp_eq (tgt := 63) hx hb dX3_name_48 (by decide) (fun c165205 => ?_) (fun c165205 => ?_)
        · have w165206 := cv_eq (rfl : z165204.toInt = z165204.toInt) (rfl : p1.toInt = p1.toInt) c165205
          refine lv_aload_n hx hb dX3_name_63 rfl (lv_at hl 1 rfl) ?_
          refine t_get (C := RX3) (T := TX3) (N := 13) X hT m0 g0 rfl rfl 3 (by decide) qw_163 inlX3 rfl dX3_name_64 (fun v165207 hv165207 ov165207 => ?_)
          obtain rfl : v165207 = .int z165190 := hv165207.symm.trans qz165190
          refine lv_if_ne (tgt := 75) hx hb dX3_name_67 (by decide) (fun c165208 => ?_) (fun c165208 => ?_)
          · have w165209 := cv_ne (rfl : z165190.toInt = z165190.toInt) (by decide : (0 : Int32).toInt = 0) c165208
            refine lv_iconst (v := 0) hx hb dX3_name_75 (by decide) ?_
            exact t_iret hQ X hT (⟨(by decide), hfr, hrel⟩) (Nat.le_of_ble_eq_true rfl) (Nat.le_of_ble_eq_true rfl) dX3_name_76
          · have w165210 := cv_eq (rfl : z165190.toInt = z165190.toInt) (by decide : (0 : Int32).toInt = 0) c165208
            exfalso
            omega
        · have w165211 := cv_ne (rfl : z165204.toInt = z165204.toInt) (rfl : p1.toInt = p1.toInt) c165205
          refine lv_aload_n hx hb dX3_name_51 rfl (lv_at hl 1 rfl) ?_
          refine lv_iconst (v := 2) hx hb dX3_name_52 (by decide) ?_
          refine lv_aload_n hx hb dX3_name_53 rfl (lv_at hl 1 rfl) ?_
          refine t_get (C := RX3) (T := TX3) (N := 13) X hT m0 g0 rfl rfl 0 (by decide) qw_73 inlX3 rfl dX3_name_54 (fun v165212 hv165212 ov165212 => ?_)
          obtain rfl : v165212 = .ref x0 := hv165212.symm.trans pf0
          refine t_get (C := RX8) (T := TX8) (N := 8) X hT mx0 gx0 rfl rfl 4 (by decide) qw_227 inlX8 rfl dX3_name_57 (fun v165213 hv165213 ov165213 => ?_)
          obtain rfl : v165213 = .int z165188 := hv165213.symm.trans hv165187
          refine t_cVv (n := 2) (C := RX3) (T := TX3) (N := 13) (As := [.int 2, .int z165188]) (rest := []) X hT (kt432_X3_fail l G tag L F hT.2.2.2 p0 2 z165188 m0 g0 (by decide)) m0 g0 rfl rfl qw_287 qw_288 qw_289 qw_28 qw_290 ⟨rfl, by decide +kernel, by decide +kernel, by decide +kernel⟩ ⟨Nat.le_of_ble_eq_true rfl, Nat.le_of_ble_eq_true rfl⟩ hl rfl rfl (Nat.le_of_ble_eq_true rfl) dX3_name_60 ⟨Nat.le_of_ble_eq_true rfl, Nat.le_of_ble_eq_true rfl⟩ (fun F H locs hT hz165214 => ?_)
          obtain ⟨yz165214, xz165214_0⟩ := hz165214
          have pf0 := (yz165214.1 _ 0 (Or.inr (by decide)) (Or.inr (by decide))).trans pf0
          have pf1 := (yz165214.1 _ 1 (Or.inr (by decide)) (Or.inr (by decide))).trans pf1
          have pf2 := (yz165214.1 _ 2 (Or.inr (by decide)) (Or.inr (by decide))).trans pf2
          have pf3 := (yz165214.1 _ 0 (Or.inr (by decide)) (Or.inr (by decide))).trans pf3
          have pf4 := (yz165214.1 _ 10 (Or.inr (by decide)) (Or.inr (by decide))).trans pf4
          have pf5 := (yz165214.1 _ 11 (Or.inr (by decide)) (Or.inr (by decide))).trans pf5
          have hv165104 := (yz165214.1 _ 3 (Or.inl (by rw [gx0]; decide)) (Or.inr (by decide))).trans hv165104
          have hv165187 := (yz165214.1 _ 4 (Or.inr (by decide)) (Or.inl (by rw [gx0]; decide))).trans hv165187
          have vz165204 := (yz165214.2 _ _ (Or.inl gx4)).trans vz165204
          have hfr : (∀ b j : Nat, (tag b ≠ 24 ∨ j ≠ 2) → (tag b ≠ 24 ∨ j ≠ 3) → (tag b ≠ 24 ∨ j ≠ 4) → (tag b ≠ 24 ∨ j ≠ 5) → (tag b ≠ 24 ∨ j ≠ 6) → (tag b ≠ 24 ∨ j ≠ 7) → (tag b ≠ 25 ∨ j ≠ 3) → (tag b ≠ 25 ∨ j ≠ 4) → fld F b j = fld Fo b j) ∧ EF tag F Fo := ⟨fun b j n24_2 n24_3 n24_4 n24_5 n24_6 n24_7 n25_3 n25_4 => (yz165214.1 b j n25_3 n25_4).trans (hfr.1 b j n24_2 n24_3 n24_4 n24_5 n24_6 n24_7 n25_3 n25_4), fun b j hb => (yz165214.2 b j hb).trans (hfr.2 b j hb)⟩
          have hrel := nsr_of (fun j => yz165214.2 _ j (Or.inl gx4)) (fun j => yz165214.2 _ j (Or.inr gx5)) hrel
          obtain ⟨z165215, qz165215, rz165215⟩ := xz165214_0
          refine lv_aload_n hx hb dX3_name_63 rfl (lv_at hl 1 rfl) ?_
          refine t_get (C := RX3) (T := TX3) (N := 13) X hT m0 g0 rfl rfl 3 (by decide) qw_163 inlX3 rfl dX3_name_64 (fun v165216 hv165216 ov165216 => ?_)
          obtain rfl : v165216 = .int z165215 := hv165216.symm.trans qz165215
          refine lv_if_ne (tgt := 75) hx hb dX3_name_67 (by decide) (fun c165217 => ?_) (fun c165217 => ?_)
          · have w165218 := cv_ne (rfl : z165215.toInt = z165215.toInt) (by decide : (0 : Int32).toInt = 0) c165217
            refine lv_iconst (v := 0) hx hb dX3_name_75 (by decide) ?_
            exact t_iret hQ X hT (⟨(by decide), hfr, hrel⟩) (Nat.le_of_ble_eq_true rfl) (Nat.le_of_ble_eq_true rfl) dX3_name_76
          · have w165219 := cv_eq (rfl : z165215.toInt = z165215.toInt) (by decide : (0 : Int32).toInt = 0) c165217
            exfalso
            omega
