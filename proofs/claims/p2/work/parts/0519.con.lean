set_option maxHeartbeats 4000000 in
set_option maxRecDepth 100000 in
theorem kt131_X3_whole (l : Launch) (G : KG) (tag : Nat → Nat) (L : List Nat) (Fo : Nat → va_E) (ho : okT G ttC tag L Fo) (p0 : Nat) (p1 : Int32) (p2 : Int32) (x0 : Nat) (x1 : Nat) (x2 : Nat) (x3 : Nat) (x4 : Nat) (x5 : Nat) (m0 : p0 ∈ L) (g0 : tag p0 = 25) (h1 : 0 ≤ p1.toInt ∧ p1.toInt ≤ 0) (h2 : 900 ≤ p2.toInt ∧ p2.toInt ≤ 900) (mx0 : x0 ∈ L) (gx0 : tag x0 = 24) (pf0 : fld Fo p0 0 = .ref x0) (mx1 : x1 ∈ L) (gx1 : tag x1 = 18) (pf1 : fld Fo p0 1 = .ref x1) (mx2 : x2 ∈ L) (gx2 : tag x2 = 19) (pf2 : fld Fo p0 2 = .ref x2) (mx3 : x3 ∈ L) (gx3 : tag x3 = 1) (pf3 : fld Fo x0 0 = .ref x3) (mx4 : x4 ∈ L) (gx4 : tag x4 = 14) (pf4 : fld Fo p0 10 = .ref x4) (mx5 : x5 ∈ L) (gx5 : tag x5 = 15) (pf5 : fld Fo p0 11 = .ref x5) : TMi l yX3_whole cX3_whole 4 (some .int) { frames := 3, cells := 0, slots := 0, locals := 62 } G ttC tag L Fo [.ref p0, .int p1, .int p2] (fun r F1 => (0 ≤ r.toInt ∧ r.toInt ≤ 900) ∧ ((∀ b j : Nat, (tag b ≠ 24 ∨ j ≠ 2) → (tag b ≠ 24 ∨ j ≠ 3) → (tag b ≠ 24 ∨ j ≠ 4) → (tag b ≠ 24 ∨ j ≠ 5) → (tag b ≠ 24 ∨ j ≠ 6) → (tag b ≠ 24 ∨ j ≠ 7) → (tag b ≠ 25 ∨ j ≠ 3) → (tag b ≠ 25 ∨ j ≠ 4) → fld F1 b j = fld Fo b j) ∧ EF tag F1 Fo)) := by
  refine t_bodyi (y := yX3_whole) (cd := cX3_whole) (mL := 4) (rt := (some .int)) (rm := { frames := 3, cells := 0, slots := 0, locals := 62 }) (av := [.ref p0, .int p1, .int p2]) (by decide) (Nat.le_of_ble_eq_true rfl) ho ?_
  intro p e s m args below meth c ls A Q hQ X hT hl
  have hx := X.1.1
  have hb := X.1.2.1
  have hl : lv_has ls 4 [(0, .ref p0), (1, .int p1), (2, .int p2)] := hl
  obtain ⟨F, hFo⟩ : ∃ F : Nat → va_E, F = Fo := ⟨_, rfl⟩
  rw [← hFo] at hT pf0 pf1 pf2 pf3 pf4 pf5
  have hfr : (∀ b j : Nat, (tag b ≠ 24 ∨ j ≠ 2) → (tag b ≠ 24 ∨ j ≠ 3) → (tag b ≠ 24 ∨ j ≠ 4) → (tag b ≠ 24 ∨ j ≠ 5) → (tag b ≠ 24 ∨ j ≠ 6) → (tag b ≠ 24 ∨ j ≠ 7) → (tag b ≠ 25 ∨ j ≠ 3) → (tag b ≠ 25 ∨ j ≠ 4) → fld F b j = fld Fo b j) ∧ EF tag F Fo := by
    rw [hFo]
    exact ⟨by intros; rfl, fun _ _ _ => rfl⟩
  refine lv_aload_n hx hb dX3_whole_0 rfl (lv_at hl 0 rfl) ?_
  refine t_get (C := RX3) (T := TX3) (N := 13) X hT m0 g0 rfl rfl 0 (by decide) qw_73 inlX3 rfl dX3_whole_1 (fun v50024 hv50024 ov50024 => ?_)
  obtain rfl : v50024 = .ref x0 := hv50024.symm.trans pf0
  refine t_get (C := RX8) (T := TX8) (N := 8) X hT mx0 gx0 rfl rfl 3 (by decide) qw_170 inlX8 rfl dX3_whole_4 (fun v50025 hv50025 ov50025 => ?_)
  obtain ⟨z50026, rfl, rz50026⟩ := okV_i ov50025
  refine lv_iconst (v := 2) hx hb dX3_whole_7 (by decide) ?_
  refine lv_icmp_eq (tgt := 26) hx hb dX3_whole_8 (by decide) (fun c50027 => ?_) (fun c50027 => ?_)
  · have w50028 := cv_eq (rfl : z50026.toInt = z50026.toInt) (by decide : (2 : Int32).toInt = 2) c50027
    refine lv_aload_n hx hb dX3_whole_26 rfl (lv_at hl 0 rfl) ?_
    refine t_get (C := RX3) (T := TX3) (N := 13) X hT m0 g0 rfl rfl 0 (by decide) qw_73 inlX3 rfl dX3_whole_27 (fun v50029 hv50029 ov50029 => ?_)
    obtain rfl : v50029 = .ref x0 := hv50029.symm.trans pf0
    refine t_get (C := RX8) (T := TX8) (N := 8) X hT mx0 gx0 rfl rfl 6 (by decide) qw_322 inlX8 rfl dX3_whole_30 (fun v50030 hv50030 ov50030 => ?_)
    obtain ⟨z50031, rfl, rz50031⟩ := okV_i ov50030
    refine lv_iload_n hx hb dX3_whole_33 rfl (lv_at hl 1 rfl) ?_
    refine lv_icmp_lt (tgt := 48) hx hb dX3_whole_34 (by decide) (fun c50032 => ?_) (fun c50032 => ?_)
    · have w50033 := cv_lt (rfl : z50031.toInt = z50031.toInt) (rfl : p1.toInt = p1.toInt) c50032
      refine lv_aload_n hx hb dX3_whole_48 rfl (lv_at hl 0 rfl) ?_
      refine lv_iconst (v := 4) hx hb dX3_whole_49 (by decide) ?_
      refine lv_aload_n hx hb dX3_whole_50 rfl (lv_at hl 0 rfl) ?_
      refine t_get (C := RX3) (T := TX3) (N := 13) X hT m0 g0 rfl rfl 0 (by decide) qw_73 inlX3 rfl dX3_whole_51 (fun v50034 hv50034 ov50034 => ?_)
      obtain rfl : v50034 = .ref x0 := hv50034.symm.trans pf0
      refine t_get (C := RX8) (T := TX8) (N := 8) X hT mx0 gx0 rfl rfl 4 (by decide) qw_227 inlX8 rfl dX3_whole_54 (fun v50035 hv50035 ov50035 => ?_)
      obtain ⟨z50036, rfl, rz50036⟩ := okV_i ov50035
      refine t_cVv (n := 2) (C := RX3) (T := TX3) (N := 13) (As := [.int 4, .int z50036]) (rest := []) X hT (kt111_X3_fail l G tag L F hT.2.2.2 p0 4 z50036 m0 g0 (by decide)) m0 g0 rfl rfl qw_287 qw_288 qw_289 qw_28 qw_290 ⟨rfl, by decide +kernel, by decide +kernel, by decide +kernel⟩ ⟨Nat.le_of_ble_eq_true rfl, Nat.le_of_ble_eq_true rfl⟩ hl rfl rfl (Nat.le_of_ble_eq_true rfl) dX3_whole_57 ⟨Nat.le_of_ble_eq_true rfl, Nat.le_of_ble_eq_true rfl⟩ (fun F H locs hT hz50037 => ?_)
      obtain ⟨yz50037, xz50037_0⟩ := hz50037
      have pf0 := (yz50037.1 _ 0 (Or.inr (by decide)) (Or.inr (by decide))).trans pf0
      have pf1 := (yz50037.1 _ 1 (Or.inr (by decide)) (Or.inr (by decide))).trans pf1
      have pf2 := (yz50037.1 _ 2 (Or.inr (by decide)) (Or.inr (by decide))).trans pf2
      have pf3 := (yz50037.1 _ 0 (Or.inr (by decide)) (Or.inr (by decide))).trans pf3
      have pf4 := (yz50037.1 _ 10 (Or.inr (by decide)) (Or.inr (by decide))).trans pf4
      have pf5 := (yz50037.1 _ 11 (Or.inr (by decide)) (Or.inr (by decide))).trans pf5
      have hv50025 := (yz50037.1 _ 3 (Or.inl (by rw [gx0]; decide)) (Or.inr (by decide))).trans hv50025
      have hv50030 := (yz50037.1 _ 6 (Or.inr (by decide)) (Or.inr (by decide))).trans hv50030
      have hv50035 := (yz50037.1 _ 4 (Or.inr (by decide)) (Or.inl (by rw [gx0]; decide))).trans hv50035
      have hfr : (∀ b j : Nat, (tag b ≠ 24 ∨ j ≠ 2) → (tag b ≠ 24 ∨ j ≠ 3) → (tag b ≠ 24 ∨ j ≠ 4) → (tag b ≠ 24 ∨ j ≠ 5) → (tag b ≠ 24 ∨ j ≠ 6) → (tag b ≠ 24 ∨ j ≠ 7) → (tag b ≠ 25 ∨ j ≠ 3) → (tag b ≠ 25 ∨ j ≠ 4) → fld F b j = fld Fo b j) ∧ EF tag F Fo := ⟨fun b j n24_2 n24_3 n24_4 n24_5 n24_6 n24_7 n25_3 n25_4 => (yz50037.1 b j n25_3 n25_4).trans (hfr.1 b j n24_2 n24_3 n24_4 n24_5 n24_6 n24_7 n25_3 n25_4), fun b j hb => (yz50037.2 b j hb).trans (hfr.2 b j hb)⟩
      obtain ⟨z50038, qz50038, rz50038⟩ := xz50037_0
      refine lv_aload_n hx hb dX3_whole_60 rfl (lv_at hl 0 rfl) ?_
      refine t_get (C := RX3) (T := TX3) (N := 13) X hT m0 g0 rfl rfl 3 (by decide) qw_163 inlX3 rfl dX3_whole_61 (fun v50039 hv50039 ov50039 => ?_)
      obtain rfl : v50039 = .int z50038 := hv50039.symm.trans qz50038
      refine lv_if_eq (tgt := 69) hx hb dX3_whole_64 (by decide) (fun c50040 => ?_) (fun c50040 => ?_)
      · have w50041 := cv_eq (rfl : z50038.toInt = z50038.toInt) (by decide : (0 : Int32).toInt = 0) c50040
        exfalso
        omega
      · have w50042 := cv_ne (rfl : z50038.toInt = z50038.toInt) (by decide : (0 : Int32).toInt = 0) c50040
        refine lv_iload_n hx hb dX3_whole_67 rfl (lv_at hl 1 rfl) ?_
        exact t_iret hQ X hT (⟨(by omega), hfr⟩) (Nat.le_of_ble_eq_true rfl) (Nat.le_of_ble_eq_true rfl) dX3_whole_68
    · have w50043 := cv_nlt (rfl : z50031.toInt = z50031.toInt) (rfl : p1.toInt = p1.toInt) c50032
      refine lv_aload_n hx hb dX3_whole_37 rfl (lv_at hl 0 rfl) ?_
      refine t_get (C := RX3) (T := TX3) (N := 13) X hT m0 g0 rfl rfl 0 (by decide) qw_73 inlX3 rfl dX3_whole_38 (fun v50044 hv50044 ov50044 => ?_)
      obtain rfl : v50044 = .ref x0 := hv50044.symm.trans pf0
      refine t_get (C := RX8) (T := TX8) (N := 8) X hT mx0 gx0 rfl rfl 6 (by decide) qw_322 inlX8 rfl dX3_whole_41 (fun v50045 hv50045 ov50045 => ?_)
      obtain rfl : v50045 = .int z50031 := hv50045.symm.trans hv50030
      refine lv_iload_n hx hb dX3_whole_44 rfl (lv_at hl 2 rfl) ?_
      refine lv_icmp_le (tgt := 60) hx hb dX3_whole_45 (by decide) (fun c50046 => ?_) (fun c50046 => ?_)
      · have w50047 := cv_le (rfl : z50031.toInt = z50031.toInt) (rfl : p2.toInt = p2.toInt) c50046
        refine lv_aload_n hx hb dX3_whole_60 rfl (lv_at hl 0 rfl) ?_
        refine t_get (C := RX3) (T := TX3) (N := 13) X hT m0 g0 rfl rfl 3 (by decide) qw_163 inlX3 rfl dX3_whole_61 (fun v50048 hv50048 ov50048 => ?_)
        obtain ⟨z50049, rfl, rz50049⟩ := okV_i ov50048
        refine lv_if_eq (tgt := 69) hx hb dX3_whole_64 (by decide) (fun c50050 => ?_) (fun c50050 => ?_)
        · have w50051 := cv_eq (rfl : z50049.toInt = z50049.toInt) (by decide : (0 : Int32).toInt = 0) c50050
          refine lv_aload_n hx hb dX3_whole_69 rfl (lv_at hl 0 rfl) ?_
          refine t_get (C := RX3) (T := TX3) (N := 13) X hT m0 g0 rfl rfl 0 (by decide) qw_73 inlX3 rfl dX3_whole_70 (fun v50052 hv50052 ov50052 => ?_)
          obtain rfl : v50052 = .ref x0 := hv50052.symm.trans pf0
          refine t_get (C := RX8) (T := TX8) (N := 8) X hT mx0 gx0 rfl rfl 6 (by decide) qw_322 inlX8 rfl dX3_whole_73 (fun v50053 hv50053 ov50053 => ?_)
          obtain rfl : v50053 = .int z50031 := hv50053.symm.trans hv50030
          refine lv_istore_n (lv' := [(3, .int z50031), (0, .ref p0), (1, .int p1), (2, .int p2)]) hx hb dX3_whole_76 rfl hl (by decide) rfl (fun ls hl => ?_)
          refine lv_aload_n hx hb dX3_whole_77 rfl (lv_at hl 1 rfl) ?_
          refine t_get (C := RX3) (T := TX3) (N := 13) X hT m0 g0 rfl rfl 0 (by decide) qw_73 inlX3 rfl dX3_whole_78 (fun v50054 hv50054 ov50054 => ?_)
          obtain rfl : v50054 = .ref x0 := hv50054.symm.trans pf0
          refine t_cVv (n := 0) (C := RX8) (T := TX8) (N := 8) (As := []) (rest := []) X hT (kt98_X8_advance l G tag L F hT.2.2.2 x0 x3 mx0 gx0 mx3 gx3 pf3) mx0 gx0 rfl rfl qw_305 qw_197 qw_198 qw_72 qw_199 ⟨rfl, by decide +kernel, by decide +kernel, by decide +kernel⟩ ⟨Nat.le_of_ble_eq_true rfl, Nat.le_of_ble_eq_true rfl⟩ hl rfl rfl (Nat.le_of_ble_eq_true rfl) dX3_whole_81 ⟨Nat.le_of_ble_eq_true rfl, Nat.le_of_ble_eq_true rfl⟩ (fun F H locs hT hz50055 => ?_)
          have yz50055 := hz50055
          have pf0 := (yz50055.1 _ 0 (Or.inr (by decide)) (Or.inr (by decide)) (Or.inr (by decide)) (Or.inr (by decide)) (Or.inr (by decide)) (Or.inr (by decide))).trans pf0
          have pf1 := (yz50055.1 _ 1 (Or.inr (by decide)) (Or.inr (by decide)) (Or.inr (by decide)) (Or.inr (by decide)) (Or.inr (by decide)) (Or.inr (by decide))).trans pf1
          have pf2 := (yz50055.1 _ 2 (Or.inl (by rw [g0]; decide)) (Or.inr (by decide)) (Or.inr (by decide)) (Or.inr (by decide)) (Or.inr (by decide)) (Or.inr (by decide))).trans pf2
          have pf3 := (yz50055.1 _ 0 (Or.inr (by decide)) (Or.inr (by decide)) (Or.inr (by decide)) (Or.inr (by decide)) (Or.inr (by decide)) (Or.inr (by decide))).trans pf3
          have pf4 := (yz50055.1 _ 10 (Or.inr (by decide)) (Or.inr (by decide)) (Or.inr (by decide)) (Or.inr (by decide)) (Or.inr (by decide)) (Or.inr (by decide))).trans pf4
          have pf5 := (yz50055.1 _ 11 (Or.inr (by decide)) (Or.inr (by decide)) (Or.inr (by decide)) (Or.inr (by decide)) (Or.inr (by decide)) (Or.inr (by decide))).trans pf5
          have hv50048 := (yz50055.1 _ 3 (Or.inr (by decide)) (Or.inl (by rw [g0]; decide)) (Or.inr (by decide)) (Or.inr (by decide)) (Or.inr (by decide)) (Or.inr (by decide))).trans hv50048
          have hfr : (∀ b j : Nat, (tag b ≠ 24 ∨ j ≠ 2) → (tag b ≠ 24 ∨ j ≠ 3) → (tag b ≠ 24 ∨ j ≠ 4) → (tag b ≠ 24 ∨ j ≠ 5) → (tag b ≠ 24 ∨ j ≠ 6) → (tag b ≠ 24 ∨ j ≠ 7) → (tag b ≠ 25 ∨ j ≠ 3) → (tag b ≠ 25 ∨ j ≠ 4) → fld F b j = fld Fo b j) ∧ EF tag F Fo := ⟨fun b j n24_2 n24_3 n24_4 n24_5 n24_6 n24_7 n25_3 n25_4 => (yz50055.1 b j n24_2 n24_3 n24_4 n24_5 n24_6 n24_7).trans (hfr.1 b j n24_2 n24_3 n24_4 n24_5 n24_6 n24_7 n25_3 n25_4), fun b j hb => (yz50055.2 b j hb).trans (hfr.2 b j hb)⟩
          refine lv_iload_n hx hb dX3_whole_84 rfl (lv_at hl 0 rfl) ?_
          exact t_iret hQ X hT (⟨(by omega), hfr⟩) (Nat.le_of_ble_eq_true rfl) (Nat.le_of_ble_eq_true rfl) dX3_whole_85
        · have w50056 := cv_ne (rfl : z50049.toInt = z50049.toInt) (by decide : (0 : Int32).toInt = 0) c50050
          refine lv_iload_n hx hb dX3_whole_67 rfl (lv_at hl 1 rfl) ?_
          exact t_iret hQ X hT (⟨(by omega), hfr⟩) (Nat.le_of_ble_eq_true rfl) (Nat.le_of_ble_eq_true rfl) dX3_whole_68
      · have w50057 := cv_nle (rfl : z50031.toInt = z50031.toInt) (rfl : p2.toInt = p2.toInt) c50046
        refine lv_aload_n hx hb dX3_whole_48 rfl (lv_at hl 0 rfl) ?_
        refine lv_iconst (v := 4) hx hb dX3_whole_49 (by decide) ?_
        refine lv_aload_n hx hb dX3_whole_50 rfl (lv_at hl 0 rfl) ?_
        refine t_get (C := RX3) (T := TX3) (N := 13) X hT m0 g0 rfl rfl 0 (by decide) qw_73 inlX3 rfl dX3_whole_51 (fun v50058 hv50058 ov50058 => ?_)
        obtain rfl : v50058 = .ref x0 := hv50058.symm.trans pf0
        refine t_get (C := RX8) (T := TX8) (N := 8) X hT mx0 gx0 rfl rfl 4 (by decide) qw_227 inlX8 rfl dX3_whole_54 (fun v50059 hv50059 ov50059 => ?_)
        obtain ⟨z50060, rfl, rz50060⟩ := okV_i ov50059
        refine t_cVv (n := 2) (C := RX3) (T := TX3) (N := 13) (As := [.int 4, .int z50060]) (rest := []) X hT (kt111_X3_fail l G tag L F hT.2.2.2 p0 4 z50060 m0 g0 (by decide)) m0 g0 rfl rfl qw_287 qw_288 qw_289 qw_28 qw_290 ⟨rfl, by decide +kernel, by decide +kernel, by decide +kernel⟩ ⟨Nat.le_of_ble_eq_true rfl, Nat.le_of_ble_eq_true rfl⟩ hl rfl rfl (Nat.le_of_ble_eq_true rfl) dX3_whole_57 ⟨Nat.le_of_ble_eq_true rfl, Nat.le_of_ble_eq_true rfl⟩ (fun F H locs hT hz50061 => ?_)
        obtain ⟨yz50061, xz50061_0⟩ := hz50061
        have pf0 := (yz50061.1 _ 0 (Or.inr (by decide)) (Or.inr (by decide))).trans pf0
        have pf1 := (yz50061.1 _ 1 (Or.inr (by decide)) (Or.inr (by decide))).trans pf1
        have pf2 := (yz50061.1 _ 2 (Or.inr (by decide)) (Or.inr (by decide))).trans pf2
        have pf3 := (yz50061.1 _ 0 (Or.inr (by decide)) (Or.inr (by decide))).trans pf3
        have pf4 := (yz50061.1 _ 10 (Or.inr (by decide)) (Or.inr (by decide))).trans pf4
        have pf5 := (yz50061.1 _ 11 (Or.inr (by decide)) (Or.inr (by decide))).trans pf5
        have hv50025 := (yz50061.1 _ 3 (Or.inl (by rw [gx0]; decide)) (Or.inr (by decide))).trans hv50025
        have hv50030 := (yz50061.1 _ 6 (Or.inr (by decide)) (Or.inr (by decide))).trans hv50030
        have hv50059 := (yz50061.1 _ 4 (Or.inr (by decide)) (Or.inl (by rw [gx0]; decide))).trans hv50059
        have hfr : (∀ b j : Nat, (tag b ≠ 24 ∨ j ≠ 2) → (tag b ≠ 24 ∨ j ≠ 3) → (tag b ≠ 24 ∨ j ≠ 4) → (tag b ≠ 24 ∨ j ≠ 5) → (tag b ≠ 24 ∨ j ≠ 6) → (tag b ≠ 24 ∨ j ≠ 7) → (tag b ≠ 25 ∨ j ≠ 3) → (tag b ≠ 25 ∨ j ≠ 4) → fld F b j = fld Fo b j) ∧ EF tag F Fo := ⟨fun b j n24_2 n24_3 n24_4 n24_5 n24_6 n24_7 n25_3 n25_4 => (yz50061.1 b j n25_3 n25_4).trans (hfr.1 b j n24_2 n24_3 n24_4 n24_5 n24_6 n24_7 n25_3 n25_4), fun b j hb => (yz50061.2 b j hb).trans (hfr.2 b j hb)⟩
        obtain ⟨z50062, qz50062, rz50062⟩ := xz50061_0
        refine lv_aload_n hx hb dX3_whole_60 rfl (lv_at hl 0 rfl) ?_
        refine t_get (C := RX3) (T := TX3) (N := 13) X hT m0 g0 rfl rfl 3 (by decide) qw_163 inlX3 rfl dX3_whole_61 (fun v50063 hv50063 ov50063 => ?_)
        obtain rfl : v50063 = .int z50062 := hv50063.symm.trans qz50062
        refine lv_if_eq (tgt := 69) hx hb dX3_whole_64 (by decide) (fun c50064 => ?_) (fun c50064 => ?_)
        · have w50065 := cv_eq (rfl : z50062.toInt = z50062.toInt) (by decide : (0 : Int32).toInt = 0) c50064
          exfalso
          omega
        · have w50066 := cv_ne (rfl : z50062.toInt = z50062.toInt) (by decide : (0 : Int32).toInt = 0) c50064
          refine lv_iload_n hx hb dX3_whole_67 rfl (lv_at hl 1 rfl) ?_
          exact t_iret hQ X hT (⟨(by omega), hfr⟩) (Nat.le_of_ble_eq_true rfl) (Nat.le_of_ble_eq_true rfl) dX3_whole_68
  · have w50067 := cv_ne (rfl : z50026.toInt = z50026.toInt) (by decide : (2 : Int32).toInt = 2) c50027
    refine lv_aload_n hx hb dX3_whole_11 rfl (lv_at hl 0 rfl) ?_
    refine lv_iconst (v := 1) hx hb dX3_whole_12 (by decide) ?_
    refine lv_aload_n hx hb dX3_whole_13 rfl (lv_at hl 0 rfl) ?_
    refine t_get (C := RX3) (T := TX3) (N := 13) X hT m0 g0 rfl rfl 0 (by decide) qw_73 inlX3 rfl dX3_whole_14 (fun v50068 hv50068 ov50068 => ?_)
    obtain rfl : v50068 = .ref x0 := hv50068.symm.trans pf0
    refine t_get (C := RX8) (T := TX8) (N := 8) X hT mx0 gx0 rfl rfl 4 (by decide) qw_227 inlX8 rfl dX3_whole_17 (fun v50069 hv50069 ov50069 => ?_)
    obtain ⟨z50070, rfl, rz50070⟩ := okV_i ov50069
    refine t_cVv (n := 2) (C := RX3) (T := TX3) (N := 13) (As := [.int 1, .int z50070]) (rest := []) X hT (kt111_X3_fail l G tag L F hT.2.2.2 p0 1 z50070 m0 g0 (by decide)) m0 g0 rfl rfl qw_287 qw_288 qw_289 qw_28 qw_290 ⟨rfl, by decide +kernel, by decide +kernel, by decide +kernel⟩ ⟨Nat.le_of_ble_eq_true rfl, Nat.le_of_ble_eq_true rfl⟩ hl rfl rfl (Nat.le_of_ble_eq_true rfl) dX3_whole_20 ⟨Nat.le_of_ble_eq_true rfl, Nat.le_of_ble_eq_true rfl⟩ (fun F H locs hT hz50071 => ?_)
    obtain ⟨yz50071, xz50071_0⟩ := hz50071
    have pf0 := (yz50071.1 _ 0 (Or.inr (by decide)) (Or.inr (by decide))).trans pf0
    have pf1 := (yz50071.1 _ 1 (Or.inr (by decide)) (Or.inr (by decide))).trans pf1
    have pf2 := (yz50071.1 _ 2 (Or.inr (by decide)) (Or.inr (by decide))).trans pf2
    have pf3 := (yz50071.1 _ 0 (Or.inr (by decide)) (Or.inr (by decide))).trans pf3
    have pf4 := (yz50071.1 _ 10 (Or.inr (by decide)) (Or.inr (by decide))).trans pf4
    have pf5 := (yz50071.1 _ 11 (Or.inr (by decide)) (Or.inr (by decide))).trans pf5
    have hv50025 := (yz50071.1 _ 3 (Or.inl (by rw [gx0]; decide)) (Or.inr (by decide))).trans hv50025
    have hv50069 := (yz50071.1 _ 4 (Or.inr (by decide)) (Or.inl (by rw [gx0]; decide))).trans hv50069
    have hfr : (∀ b j : Nat, (tag b ≠ 24 ∨ j ≠ 2) → (tag b ≠ 24 ∨ j ≠ 3) → (tag b ≠ 24 ∨ j ≠ 4) → (tag b ≠ 24 ∨ j ≠ 5) → (tag b ≠ 24 ∨ j ≠ 6) → (tag b ≠ 24 ∨ j ≠ 7) → (tag b ≠ 25 ∨ j ≠ 3) → (tag b ≠ 25 ∨ j ≠ 4) → fld F b j = fld Fo b j) ∧ EF tag F Fo := ⟨fun b j n24_2 n24_3 n24_4 n24_5 n24_6 n24_7 n25_3 n25_4 => (yz50071.1 b j n25_3 n25_4).trans (hfr.1 b j n24_2 n24_3 n24_4 n24_5 n24_6 n24_7 n25_3 n25_4), fun b j hb => (yz50071.2 b j hb).trans (hfr.2 b j hb)⟩
    obtain ⟨z50072, qz50072, rz50072⟩ := xz50071_0
    refine lv_goto (tgt := 60) hx hb dX3_whole_23 (by decide) ?_
    refine lv_aload_n hx hb dX3_whole_60 rfl (lv_at hl 0 rfl) ?_
    refine t_get (C := RX3) (T := TX3) (N := 13) X hT m0 g0 rfl rfl 3 (by decide) qw_163 inlX3 rfl dX3_whole_61 (fun v50073 hv50073 ov50073 => ?_)
    obtain rfl : v50073 = .int z50072 := hv50073.symm.trans qz50072
    refine lv_if_eq (tgt := 69) hx hb dX3_whole_64 (by decide) (fun c50074 => ?_) (fun c50074 => ?_)
    · have w50075 := cv_eq (rfl : z50072.toInt = z50072.toInt) (by decide : (0 : Int32).toInt = 0) c50074
      exfalso
      omega
    · have w50076 := cv_ne (rfl : z50072.toInt = z50072.toInt) (by decide : (0 : Int32).toInt = 0) c50074
      refine lv_iload_n hx hb dX3_whole_67 rfl (lv_at hl 1 rfl) ?_
      exact t_iret hQ X hT (⟨(by omega), hfr⟩) (Nat.le_of_ble_eq_true rfl) (Nat.le_of_ble_eq_true rfl) dX3_whole_68
set_option maxHeartbeats 4000000 in
set_option maxRecDepth 100000 in
theorem kt132_X3_whole (l : Launch) (G : KG) (tag : Nat → Nat) (L : List Nat) (Fo : Nat → va_E) (ho : okT G ttC tag L Fo) (p0 : Nat) (p1 : Int32) (p2 : Int32) (x0 : Nat) (x1 : Nat) (x2 : Nat) (x3 : Nat) (x4 : Nat) (x5 : Nat) (m0 : p0 ∈ L) (g0 : tag p0 = 25) (h1 : 0 ≤ p1.toInt ∧ p1.toInt ≤ 0) (h2 : 100 ≤ p2.toInt ∧ p2.toInt ≤ 100) (mx0 : x0 ∈ L) (gx0 : tag x0 = 24) (pf0 : fld Fo p0 0 = .ref x0) (mx1 : x1 ∈ L) (gx1 : tag x1 = 18) (pf1 : fld Fo p0 1 = .ref x1) (mx2 : x2 ∈ L) (gx2 : tag x2 = 19) (pf2 : fld Fo p0 2 = .ref x2) (mx3 : x3 ∈ L) (gx3 : tag x3 = 1) (pf3 : fld Fo x0 0 = .ref x3) (mx4 : x4 ∈ L) (gx4 : tag x4 = 14) (pf4 : fld Fo p0 10 = .ref x4) (mx5 : x5 ∈ L) (gx5 : tag x5 = 15) (pf5 : fld Fo p0 11 = .ref x5) : TMi l yX3_whole cX3_whole 4 (some .int) { frames := 3, cells := 0, slots := 0, locals := 62 } G ttC tag L Fo [.ref p0, .int p1, .int p2] (fun r F1 => (0 ≤ r.toInt ∧ r.toInt ≤ 100) ∧ ((∀ b j : Nat, (tag b ≠ 24 ∨ j ≠ 2) → (tag b ≠ 24 ∨ j ≠ 3) → (tag b ≠ 24 ∨ j ≠ 4) → (tag b ≠ 24 ∨ j ≠ 5) → (tag b ≠ 24 ∨ j ≠ 6) → (tag b ≠ 24 ∨ j ≠ 7) → (tag b ≠ 25 ∨ j ≠ 3) → (tag b ≠ 25 ∨ j ≠ 4) → fld F1 b j = fld Fo b j) ∧ EF tag F1 Fo)) := by
  refine t_bodyi (y := yX3_whole) (cd := cX3_whole) (mL := 4) (rt := (some .int)) (rm := { frames := 3, cells := 0, slots := 0, locals := 62 }) (av := [.ref p0, .int p1, .int p2]) (by decide) (Nat.le_of_ble_eq_true rfl) ho ?_
  intro p e s m args below meth c ls A Q hQ X hT hl
  have hx := X.1.1
  have hb := X.1.2.1
  have hl : lv_has ls 4 [(0, .ref p0), (1, .int p1), (2, .int p2)] := hl
  obtain ⟨F, hFo⟩ : ∃ F : Nat → va_E, F = Fo := ⟨_, rfl⟩
  rw [← hFo] at hT pf0 pf1 pf2 pf3 pf4 pf5
  have hfr : (∀ b j : Nat, (tag b ≠ 24 ∨ j ≠ 2) → (tag b ≠ 24 ∨ j ≠ 3) → (tag b ≠ 24 ∨ j ≠ 4) → (tag b ≠ 24 ∨ j ≠ 5) → (tag b ≠ 24 ∨ j ≠ 6) → (tag b ≠ 24 ∨ j ≠ 7) → (tag b ≠ 25 ∨ j ≠ 3) → (tag b ≠ 25 ∨ j ≠ 4) → fld F b j = fld Fo b j) ∧ EF tag F Fo := by
    rw [hFo]
    exact ⟨by intros; rfl, fun _ _ _ => rfl⟩
  refine lv_aload_n hx hb dX3_whole_0 rfl (lv_at hl 0 rfl) ?_
  refine t_get (C := RX3) (T := TX3) (N := 13) X hT m0 g0 rfl rfl 0 (by decide) qw_73 inlX3 rfl dX3_whole_1 (fun v50664 hv50664 ov50664 => ?_)
  obtain rfl : v50664 = .ref x0 := hv50664.symm.trans pf0
  refine t_get (C := RX8) (T := TX8) (N := 8) X hT mx0 gx0 rfl rfl 3 (by decide) qw_170 inlX8 rfl dX3_whole_4 (fun v50665 hv50665 ov50665 => ?_)
  obtain ⟨z50666, rfl, rz50666⟩ := okV_i ov50665
  refine lv_iconst (v := 2) hx hb dX3_whole_7 (by decide) ?_
  refine lv_icmp_eq (tgt := 26) hx hb dX3_whole_8 (by decide) (fun c50667 => ?_) (fun c50667 => ?_)
  · have w50668 := cv_eq (rfl : z50666.toInt = z50666.toInt) (by decide : (2 : Int32).toInt = 2) c50667
    refine lv_aload_n hx hb dX3_whole_26 rfl (lv_at hl 0 rfl) ?_
    refine t_get (C := RX3) (T := TX3) (N := 13) X hT m0 g0 rfl rfl 0 (by decide) qw_73 inlX3 rfl dX3_whole_27 (fun v50669 hv50669 ov50669 => ?_)
    obtain rfl : v50669 = .ref x0 := hv50669.symm.trans pf0
    refine t_get (C := RX8) (T := TX8) (N := 8) X hT mx0 gx0 rfl rfl 6 (by decide) qw_322 inlX8 rfl dX3_whole_30 (fun v50670 hv50670 ov50670 => ?_)
    obtain ⟨z50671, rfl, rz50671⟩ := okV_i ov50670
    refine lv_iload_n hx hb dX3_whole_33 rfl (lv_at hl 1 rfl) ?_
    refine lv_icmp_lt (tgt := 48) hx hb dX3_whole_34 (by decide) (fun c50672 => ?_) (fun c50672 => ?_)
    · have w50673 := cv_lt (rfl : z50671.toInt = z50671.toInt) (rfl : p1.toInt = p1.toInt) c50672
      refine lv_aload_n hx hb dX3_whole_48 rfl (lv_at hl 0 rfl) ?_
      refine lv_iconst (v := 4) hx hb dX3_whole_49 (by decide) ?_
      refine lv_aload_n hx hb dX3_whole_50 rfl (lv_at hl 0 rfl) ?_
      refine t_get (C := RX3) (T := TX3) (N := 13) X hT m0 g0 rfl rfl 0 (by decide) qw_73 inlX3 rfl dX3_whole_51 (fun v50674 hv50674 ov50674 => ?_)
      obtain rfl : v50674 = .ref x0 := hv50674.symm.trans pf0
      refine t_get (C := RX8) (T := TX8) (N := 8) X hT mx0 gx0 rfl rfl 4 (by decide) qw_227 inlX8 rfl dX3_whole_54 (fun v50675 hv50675 ov50675 => ?_)
      obtain ⟨z50676, rfl, rz50676⟩ := okV_i ov50675
      refine t_cVv (n := 2) (C := RX3) (T := TX3) (N := 13) (As := [.int 4, .int z50676]) (rest := []) X hT (kt111_X3_fail l G tag L F hT.2.2.2 p0 4 z50676 m0 g0 (by decide)) m0 g0 rfl rfl qw_287 qw_288 qw_289 qw_28 qw_290 ⟨rfl, by decide +kernel, by decide +kernel, by decide +kernel⟩ ⟨Nat.le_of_ble_eq_true rfl, Nat.le_of_ble_eq_true rfl⟩ hl rfl rfl (Nat.le_of_ble_eq_true rfl) dX3_whole_57 ⟨Nat.le_of_ble_eq_true rfl, Nat.le_of_ble_eq_true rfl⟩ (fun F H locs hT hz50677 => ?_)
      obtain ⟨yz50677, xz50677_0⟩ := hz50677
      have pf0 := (yz50677.1 _ 0 (Or.inr (by decide)) (Or.inr (by decide))).trans pf0
      have pf1 := (yz50677.1 _ 1 (Or.inr (by decide)) (Or.inr (by decide))).trans pf1
      have pf2 := (yz50677.1 _ 2 (Or.inr (by decide)) (Or.inr (by decide))).trans pf2
      have pf3 := (yz50677.1 _ 0 (Or.inr (by decide)) (Or.inr (by decide))).trans pf3
      have pf4 := (yz50677.1 _ 10 (Or.inr (by decide)) (Or.inr (by decide))).trans pf4
      have pf5 := (yz50677.1 _ 11 (Or.inr (by decide)) (Or.inr (by decide))).trans pf5
      have hv50665 := (yz50677.1 _ 3 (Or.inl (by rw [gx0]; decide)) (Or.inr (by decide))).trans hv50665
      have hv50670 := (yz50677.1 _ 6 (Or.inr (by decide)) (Or.inr (by decide))).trans hv50670
      have hv50675 := (yz50677.1 _ 4 (Or.inr (by decide)) (Or.inl (by rw [gx0]; decide))).trans hv50675
      have hfr : (∀ b j : Nat, (tag b ≠ 24 ∨ j ≠ 2) → (tag b ≠ 24 ∨ j ≠ 3) → (tag b ≠ 24 ∨ j ≠ 4) → (tag b ≠ 24 ∨ j ≠ 5) → (tag b ≠ 24 ∨ j ≠ 6) → (tag b ≠ 24 ∨ j ≠ 7) → (tag b ≠ 25 ∨ j ≠ 3) → (tag b ≠ 25 ∨ j ≠ 4) → fld F b j = fld Fo b j) ∧ EF tag F Fo := ⟨fun b j n24_2 n24_3 n24_4 n24_5 n24_6 n24_7 n25_3 n25_4 => (yz50677.1 b j n25_3 n25_4).trans (hfr.1 b j n24_2 n24_3 n24_4 n24_5 n24_6 n24_7 n25_3 n25_4), fun b j hb => (yz50677.2 b j hb).trans (hfr.2 b j hb)⟩
      obtain ⟨z50678, qz50678, rz50678⟩ := xz50677_0
      refine lv_aload_n hx hb dX3_whole_60 rfl (lv_at hl 0 rfl) ?_
      refine t_get (C := RX3) (T := TX3) (N := 13) X hT m0 g0 rfl rfl 3 (by decide) qw_163 inlX3 rfl dX3_whole_61 (fun v50679 hv50679 ov50679 => ?_)
      obtain rfl : v50679 = .int z50678 := hv50679.symm.trans qz50678
      refine lv_if_eq (tgt := 69) hx hb dX3_whole_64 (by decide) (fun c50680 => ?_) (fun c50680 => ?_)
      · have w50681 := cv_eq (rfl : z50678.toInt = z50678.toInt) (by decide : (0 : Int32).toInt = 0) c50680
        exfalso
        omega
      · have w50682 := cv_ne (rfl : z50678.toInt = z50678.toInt) (by decide : (0 : Int32).toInt = 0) c50680
        refine lv_iload_n hx hb dX3_whole_67 rfl (lv_at hl 1 rfl) ?_
        exact t_iret hQ X hT (⟨(by omega), hfr⟩) (Nat.le_of_ble_eq_true rfl) (Nat.le_of_ble_eq_true rfl) dX3_whole_68
    · have w50683 := cv_nlt (rfl : z50671.toInt = z50671.toInt) (rfl : p1.toInt = p1.toInt) c50672
      refine lv_aload_n hx hb dX3_whole_37 rfl (lv_at hl 0 rfl) ?_
      refine t_get (C := RX3) (T := TX3) (N := 13) X hT m0 g0 rfl rfl 0 (by decide) qw_73 inlX3 rfl dX3_whole_38 (fun v50684 hv50684 ov50684 => ?_)
      obtain rfl : v50684 = .ref x0 := hv50684.symm.trans pf0
      refine t_get (C := RX8) (T := TX8) (N := 8) X hT mx0 gx0 rfl rfl 6 (by decide) qw_322 inlX8 rfl dX3_whole_41 (fun v50685 hv50685 ov50685 => ?_)
      obtain rfl : v50685 = .int z50671 := hv50685.symm.trans hv50670
      refine lv_iload_n hx hb dX3_whole_44 rfl (lv_at hl 2 rfl) ?_
      refine lv_icmp_le (tgt := 60) hx hb dX3_whole_45 (by decide) (fun c50686 => ?_) (fun c50686 => ?_)
      · have w50687 := cv_le (rfl : z50671.toInt = z50671.toInt) (rfl : p2.toInt = p2.toInt) c50686
        refine lv_aload_n hx hb dX3_whole_60 rfl (lv_at hl 0 rfl) ?_
        refine t_get (C := RX3) (T := TX3) (N := 13) X hT m0 g0 rfl rfl 3 (by decide) qw_163 inlX3 rfl dX3_whole_61 (fun v50688 hv50688 ov50688 => ?_)
        obtain ⟨z50689, rfl, rz50689⟩ := okV_i ov50688
        refine lv_if_eq (tgt := 69) hx hb dX3_whole_64 (by decide) (fun c50690 => ?_) (fun c50690 => ?_)
        · have w50691 := cv_eq (rfl : z50689.toInt = z50689.toInt) (by decide : (0 : Int32).toInt = 0) c50690
          refine lv_aload_n hx hb dX3_whole_69 rfl (lv_at hl 0 rfl) ?_
          refine t_get (C := RX3) (T := TX3) (N := 13) X hT m0 g0 rfl rfl 0 (by decide) qw_73 inlX3 rfl dX3_whole_70 (fun v50692 hv50692 ov50692 => ?_)
          obtain rfl : v50692 = .ref x0 := hv50692.symm.trans pf0
          refine t_get (C := RX8) (T := TX8) (N := 8) X hT mx0 gx0 rfl rfl 6 (by decide) qw_322 inlX8 rfl dX3_whole_73 (fun v50693 hv50693 ov50693 => ?_)
          obtain rfl : v50693 = .int z50671 := hv50693.symm.trans hv50670
          refine lv_istore_n (lv' := [(3, .int z50671), (0, .ref p0), (1, .int p1), (2, .int p2)]) hx hb dX3_whole_76 rfl hl (by decide) rfl (fun ls hl => ?_)
          refine lv_aload_n hx hb dX3_whole_77 rfl (lv_at hl 1 rfl) ?_
          refine t_get (C := RX3) (T := TX3) (N := 13) X hT m0 g0 rfl rfl 0 (by decide) qw_73 inlX3 rfl dX3_whole_78 (fun v50694 hv50694 ov50694 => ?_)
          obtain rfl : v50694 = .ref x0 := hv50694.symm.trans pf0
          refine t_cVv (n := 0) (C := RX8) (T := TX8) (N := 8) (As := []) (rest := []) X hT (kt98_X8_advance l G tag L F hT.2.2.2 x0 x3 mx0 gx0 mx3 gx3 pf3) mx0 gx0 rfl rfl qw_305 qw_197 qw_198 qw_72 qw_199 ⟨rfl, by decide +kernel, by decide +kernel, by decide +kernel⟩ ⟨Nat.le_of_ble_eq_true rfl, Nat.le_of_ble_eq_true rfl⟩ hl rfl rfl (Nat.le_of_ble_eq_true rfl) dX3_whole_81 ⟨Nat.le_of_ble_eq_true rfl, Nat.le_of_ble_eq_true rfl⟩ (fun F H locs hT hz50695 => ?_)
          have yz50695 := hz50695
          have pf0 := (yz50695.1 _ 0 (Or.inr (by decide)) (Or.inr (by decide)) (Or.inr (by decide)) (Or.inr (by decide)) (Or.inr (by decide)) (Or.inr (by decide))).trans pf0
          have pf1 := (yz50695.1 _ 1 (Or.inr (by decide)) (Or.inr (by decide)) (Or.inr (by decide)) (Or.inr (by decide)) (Or.inr (by decide)) (Or.inr (by decide))).trans pf1
          have pf2 := (yz50695.1 _ 2 (Or.inl (by rw [g0]; decide)) (Or.inr (by decide)) (Or.inr (by decide)) (Or.inr (by decide)) (Or.inr (by decide)) (Or.inr (by decide))).trans pf2
          have pf3 := (yz50695.1 _ 0 (Or.inr (by decide)) (Or.inr (by decide)) (Or.inr (by decide)) (Or.inr (by decide)) (Or.inr (by decide)) (Or.inr (by decide))).trans pf3
          have pf4 := (yz50695.1 _ 10 (Or.inr (by decide)) (Or.inr (by decide)) (Or.inr (by decide)) (Or.inr (by decide)) (Or.inr (by decide)) (Or.inr (by decide))).trans pf4
          have pf5 := (yz50695.1 _ 11 (Or.inr (by decide)) (Or.inr (by decide)) (Or.inr (by decide)) (Or.inr (by decide)) (Or.inr (by decide)) (Or.inr (by decide))).trans pf5
          have hv50688 := (yz50695.1 _ 3 (Or.inr (by decide)) (Or.inl (by rw [g0]; decide)) (Or.inr (by decide)) (Or.inr (by decide)) (Or.inr (by decide)) (Or.inr (by decide))).trans hv50688
          have hfr : (∀ b j : Nat, (tag b ≠ 24 ∨ j ≠ 2) → (tag b ≠ 24 ∨ j ≠ 3) → (tag b ≠ 24 ∨ j ≠ 4) → (tag b ≠ 24 ∨ j ≠ 5) → (tag b ≠ 24 ∨ j ≠ 6) → (tag b ≠ 24 ∨ j ≠ 7) → (tag b ≠ 25 ∨ j ≠ 3) → (tag b ≠ 25 ∨ j ≠ 4) → fld F b j = fld Fo b j) ∧ EF tag F Fo := ⟨fun b j n24_2 n24_3 n24_4 n24_5 n24_6 n24_7 n25_3 n25_4 => (yz50695.1 b j n24_2 n24_3 n24_4 n24_5 n24_6 n24_7).trans (hfr.1 b j n24_2 n24_3 n24_4 n24_5 n24_6 n24_7 n25_3 n25_4), fun b j hb => (yz50695.2 b j hb).trans (hfr.2 b j hb)⟩
          refine lv_iload_n hx hb dX3_whole_84 rfl (lv_at hl 0 rfl) ?_
          exact t_iret hQ X hT (⟨(by omega), hfr⟩) (Nat.le_of_ble_eq_true rfl) (Nat.le_of_ble_eq_true rfl) dX3_whole_85
        · have w50696 := cv_ne (rfl : z50689.toInt = z50689.toInt) (by decide : (0 : Int32).toInt = 0) c50690
          refine lv_iload_n hx hb dX3_whole_67 rfl (lv_at hl 1 rfl) ?_
          exact t_iret hQ X hT (⟨(by omega), hfr⟩) (Nat.le_of_ble_eq_true rfl) (Nat.le_of_ble_eq_true rfl) dX3_whole_68
      · have w50697 := cv_nle (rfl : z50671.toInt = z50671.toInt) (rfl : p2.toInt = p2.toInt) c50686
        refine lv_aload_n hx hb dX3_whole_48 rfl (lv_at hl 0 rfl) ?_
        refine lv_iconst (v := 4) hx hb dX3_whole_49 (by decide) ?_
        refine lv_aload_n hx hb dX3_whole_50 rfl (lv_at hl 0 rfl) ?_
        refine t_get (C := RX3) (T := TX3) (N := 13) X hT m0 g0 rfl rfl 0 (by decide) qw_73 inlX3 rfl dX3_whole_51 (fun v50698 hv50698 ov50698 => ?_)
        obtain rfl : v50698 = .ref x0 := hv50698.symm.trans pf0
        refine t_get (C := RX8) (T := TX8) (N := 8) X hT mx0 gx0 rfl rfl 4 (by decide) qw_227 inlX8 rfl dX3_whole_54 (fun v50699 hv50699 ov50699 => ?_)
        obtain ⟨z50700, rfl, rz50700⟩ := okV_i ov50699
        refine t_cVv (n := 2) (C := RX3) (T := TX3) (N := 13) (As := [.int 4, .int z50700]) (rest := []) X hT (kt111_X3_fail l G tag L F hT.2.2.2 p0 4 z50700 m0 g0 (by decide)) m0 g0 rfl rfl qw_287 qw_288 qw_289 qw_28 qw_290 ⟨rfl, by decide +kernel, by decide +kernel, by decide +kernel⟩ ⟨Nat.le_of_ble_eq_true rfl, Nat.le_of_ble_eq_true rfl⟩ hl rfl rfl (Nat.le_of_ble_eq_true rfl) dX3_whole_57 ⟨Nat.le_of_ble_eq_true rfl, Nat.le_of_ble_eq_true rfl⟩ (fun F H locs hT hz50701 => ?_)
        obtain ⟨yz50701, xz50701_0⟩ := hz50701
        have pf0 := (yz50701.1 _ 0 (Or.inr (by decide)) (Or.inr (by decide))).trans pf0
        have pf1 := (yz50701.1 _ 1 (Or.inr (by decide)) (Or.inr (by decide))).trans pf1
        have pf2 := (yz50701.1 _ 2 (Or.inr (by decide)) (Or.inr (by decide))).trans pf2
        have pf3 := (yz50701.1 _ 0 (Or.inr (by decide)) (Or.inr (by decide))).trans pf3
        have pf4 := (yz50701.1 _ 10 (Or.inr (by decide)) (Or.inr (by decide))).trans pf4
        have pf5 := (yz50701.1 _ 11 (Or.inr (by decide)) (Or.inr (by decide))).trans pf5
        have hv50665 := (yz50701.1 _ 3 (Or.inl (by rw [gx0]; decide)) (Or.inr (by decide))).trans hv50665
        have hv50670 := (yz50701.1 _ 6 (Or.inr (by decide)) (Or.inr (by decide))).trans hv50670
        have hv50699 := (yz50701.1 _ 4 (Or.inr (by decide)) (Or.inl (by rw [gx0]; decide))).trans hv50699
        have hfr : (∀ b j : Nat, (tag b ≠ 24 ∨ j ≠ 2) → (tag b ≠ 24 ∨ j ≠ 3) → (tag b ≠ 24 ∨ j ≠ 4) → (tag b ≠ 24 ∨ j ≠ 5) → (tag b ≠ 24 ∨ j ≠ 6) → (tag b ≠ 24 ∨ j ≠ 7) → (tag b ≠ 25 ∨ j ≠ 3) → (tag b ≠ 25 ∨ j ≠ 4) → fld F b j = fld Fo b j) ∧ EF tag F Fo := ⟨fun b j n24_2 n24_3 n24_4 n24_5 n24_6 n24_7 n25_3 n25_4 => (yz50701.1 b j n25_3 n25_4).trans (hfr.1 b j n24_2 n24_3 n24_4 n24_5 n24_6 n24_7 n25_3 n25_4), fun b j hb => (yz50701.2 b j hb).trans (hfr.2 b j hb)⟩
        obtain ⟨z50702, qz50702, rz50702⟩ := xz50701_0
        refine lv_aload_n hx hb dX3_whole_60 rfl (lv_at hl 0 rfl) ?_
        refine t_get (C := RX3) (T := TX3) (N := 13) X hT m0 g0 rfl rfl 3 (by decide) qw_163 inlX3 rfl dX3_whole_61 (fun v50703 hv50703 ov50703 => ?_)
        obtain rfl : v50703 = .int z50702 := hv50703.symm.trans qz50702
        refine lv_if_eq (tgt := 69) hx hb dX3_whole_64 (by decide) (fun c50704 => ?_) (fun c50704 => ?_)
        · have w50705 := cv_eq (rfl : z50702.toInt = z50702.toInt) (by decide : (0 : Int32).toInt = 0) c50704
          exfalso
          omega
        · have w50706 := cv_ne (rfl : z50702.toInt = z50702.toInt) (by decide : (0 : Int32).toInt = 0) c50704
          refine lv_iload_n hx hb dX3_whole_67 rfl (lv_at hl 1 rfl) ?_
          exact t_iret hQ X hT (⟨(by omega), hfr⟩) (Nat.le_of_ble_eq_true rfl) (Nat.le_of_ble_eq_true rfl) dX3_whole_68
  · have w50707 := cv_ne (rfl : z50666.toInt = z50666.toInt) (by decide : (2 : Int32).toInt = 2) c50667
    refine lv_aload_n hx hb dX3_whole_11 rfl (lv_at hl 0 rfl) ?_
    refine lv_iconst (v := 1) hx hb dX3_whole_12 (by decide) ?_
    refine lv_aload_n hx hb dX3_whole_13 rfl (lv_at hl 0 rfl) ?_
    refine t_get (C := RX3) (T := TX3) (N := 13) X hT m0 g0 rfl rfl 0 (by decide) qw_73 inlX3 rfl dX3_whole_14 (fun v50708 hv50708 ov50708 => ?_)
    obtain rfl : v50708 = .ref x0 := hv50708.symm.trans pf0
    refine t_get (C := RX8) (T := TX8) (N := 8) X hT mx0 gx0 rfl rfl 4 (by decide) qw_227 inlX8 rfl dX3_whole_17 (fun v50709 hv50709 ov50709 => ?_)
    obtain ⟨z50710, rfl, rz50710⟩ := okV_i ov50709
    refine t_cVv (n := 2) (C := RX3) (T := TX3) (N := 13) (As := [.int 1, .int z50710]) (rest := []) X hT (kt111_X3_fail l G tag L F hT.2.2.2 p0 1 z50710 m0 g0 (by decide)) m0 g0 rfl rfl qw_287 qw_288 qw_289 qw_28 qw_290 ⟨rfl, by decide +kernel, by decide +kernel, by decide +kernel⟩ ⟨Nat.le_of_ble_eq_true rfl, Nat.le_of_ble_eq_true rfl⟩ hl rfl rfl (Nat.le_of_ble_eq_true rfl) dX3_whole_20 ⟨Nat.le_of_ble_eq_true rfl, Nat.le_of_ble_eq_true rfl⟩ (fun F H locs hT hz50711 => ?_)
    obtain ⟨yz50711, xz50711_0⟩ := hz50711
    have pf0 := (yz50711.1 _ 0 (Or.inr (by decide)) (Or.inr (by decide))).trans pf0
    have pf1 := (yz50711.1 _ 1 (Or.inr (by decide)) (Or.inr (by decide))).trans pf1
    have pf2 := (yz50711.1 _ 2 (Or.inr (by decide)) (Or.inr (by decide))).trans pf2
    have pf3 := (yz50711.1 _ 0 (Or.inr (by decide)) (Or.inr (by decide))).trans pf3
    have pf4 := (yz50711.1 _ 10 (Or.inr (by decide)) (Or.inr (by decide))).trans pf4
    have pf5 := (yz50711.1 _ 11 (Or.inr (by decide)) (Or.inr (by decide))).trans pf5
    have hv50665 := (yz50711.1 _ 3 (Or.inl (by rw [gx0]; decide)) (Or.inr (by decide))).trans hv50665
    have hv50709 := (yz50711.1 _ 4 (Or.inr (by decide)) (Or.inl (by rw [gx0]; decide))).trans hv50709
    have hfr : (∀ b j : Nat, (tag b ≠ 24 ∨ j ≠ 2) → (tag b ≠ 24 ∨ j ≠ 3) → (tag b ≠ 24 ∨ j ≠ 4) → (tag b ≠ 24 ∨ j ≠ 5) → (tag b ≠ 24 ∨ j ≠ 6) → (tag b ≠ 24 ∨ j ≠ 7) → (tag b ≠ 25 ∨ j ≠ 3) → (tag b ≠ 25 ∨ j ≠ 4) → fld F b j = fld Fo b j) ∧ EF tag F Fo := ⟨fun b j n24_2 n24_3 n24_4 n24_5 n24_6 n24_7 n25_3 n25_4 => (yz50711.1 b j n25_3 n25_4).trans (hfr.1 b j n24_2 n24_3 n24_4 n24_5 n24_6 n24_7 n25_3 n25_4), fun b j hb => (yz50711.2 b j hb).trans (hfr.2 b j hb)⟩
    obtain ⟨z50712, qz50712, rz50712⟩ := xz50711_0
    refine lv_goto (tgt := 60) hx hb dX3_whole_23 (by decide) ?_
    refine lv_aload_n hx hb dX3_whole_60 rfl (lv_at hl 0 rfl) ?_
    refine t_get (C := RX3) (T := TX3) (N := 13) X hT m0 g0 rfl rfl 3 (by decide) qw_163 inlX3 rfl dX3_whole_61 (fun v50713 hv50713 ov50713 => ?_)
    obtain rfl : v50713 = .int z50712 := hv50713.symm.trans qz50712
    refine lv_if_eq (tgt := 69) hx hb dX3_whole_64 (by decide) (fun c50714 => ?_) (fun c50714 => ?_)
    · have w50715 := cv_eq (rfl : z50712.toInt = z50712.toInt) (by decide : (0 : Int32).toInt = 0) c50714
      exfalso
      omega
    · have w50716 := cv_ne (rfl : z50712.toInt = z50712.toInt) (by decide : (0 : Int32).toInt = 0) c50714
      refine lv_iload_n hx hb dX3_whole_67 rfl (lv_at hl 1 rfl) ?_
      exact t_iret hQ X hT (⟨(by omega), hfr⟩) (Nat.le_of_ble_eq_true rfl) (Nat.le_of_ble_eq_true rfl) dX3_whole_68
set_option maxHeartbeats 4000000 in
set_option maxRecDepth 100000 in
theorem kt133_X3_readYears (l : Launch) (G : KG) (tag : Nat → Nat) (L : List Nat) (Fo : Nat → va_E) (ho : okT G ttC tag L Fo) (p0 : Nat) (x0 : Nat) (x1 : Nat) (x2 : Nat) (x3 : Nat) (x4 : Nat) (x5 : Nat) (m0 : p0 ∈ L) (g0 : tag p0 = 25) (mx0 : x0 ∈ L) (gx0 : tag x0 = 24) (pf0 : fld Fo p0 0 = .ref x0) (mx1 : x1 ∈ L) (gx1 : tag x1 = 18) (pf1 : fld Fo p0 1 = .ref x1) (mx2 : x2 ∈ L) (gx2 : tag x2 = 19) (pf2 : fld Fo p0 2 = .ref x2) (mx3 : x3 ∈ L) (gx3 : tag x3 = 1) (pf3 : fld Fo x0 0 = .ref x3) (mx4 : x4 ∈ L) (gx4 : tag x4 = 14) (pf4 : fld Fo p0 10 = .ref x4) (mx5 : x5 ∈ L) (gx5 : tag x5 = 15) (pf5 : fld Fo p0 11 = .ref x5) : TMv l yX3_readYears cX3_readYears 1 { frames := 6, cells := 0, slots := 0, locals := 129 } G ttC tag L Fo [.ref p0] (fun F1 => ((∀ b j : Nat, (tag b ≠ 18 ∨ j ≠ 4) → (tag b ≠ 18 ∨ j ≠ 5) → (tag b ≠ 18 ∨ j ≠ 6) → (tag b ≠ 19 ∨ j ≠ 0) → (tag b ≠ 24 ∨ j ≠ 2) → (tag b ≠ 24 ∨ j ≠ 3) → (tag b ≠ 24 ∨ j ≠ 4) → (tag b ≠ 24 ∨ j ≠ 5) → (tag b ≠ 24 ∨ j ≠ 6) → (tag b ≠ 24 ∨ j ≠ 7) → (tag b ≠ 25 ∨ j ≠ 3) → (tag b ≠ 25 ∨ j ≠ 4) → (tag b ≠ 25 ∨ j ≠ 6) → fld F1 b j = fld Fo b j) ∧ EF tag F1 Fo)) := by
  refine t_bodyv (y := yX3_readYears) (cd := cX3_readYears) (mL := 1) (rm := { frames := 6, cells := 0, slots := 0, locals := 129 }) (av := [.ref p0]) (by decide) (Nat.le_of_ble_eq_true rfl) ho ?_
  intro p e s m args below meth c ls A Q hQ X hT hl
  have hx := X.1.1
  have hb := X.1.2.1
  have hl : lv_has ls 1 [(0, .ref p0)] := hl
  obtain ⟨F, hFo⟩ : ∃ F : Nat → va_E, F = Fo := ⟨_, rfl⟩
  rw [← hFo] at hT pf0 pf1 pf2 pf3 pf4 pf5
  have hfr : (∀ b j : Nat, (tag b ≠ 18 ∨ j ≠ 4) → (tag b ≠ 18 ∨ j ≠ 5) → (tag b ≠ 18 ∨ j ≠ 6) → (tag b ≠ 19 ∨ j ≠ 0) → (tag b ≠ 24 ∨ j ≠ 2) → (tag b ≠ 24 ∨ j ≠ 3) → (tag b ≠ 24 ∨ j ≠ 4) → (tag b ≠ 24 ∨ j ≠ 5) → (tag b ≠ 24 ∨ j ≠ 6) → (tag b ≠ 24 ∨ j ≠ 7) → (tag b ≠ 25 ∨ j ≠ 3) → (tag b ≠ 25 ∨ j ≠ 4) → (tag b ≠ 25 ∨ j ≠ 6) → fld F b j = fld Fo b j) ∧ EF tag F Fo := by
    rw [hFo]
    exact ⟨by intros; rfl, fun _ _ _ => rfl⟩
  refine lv_aload_n hx hb dX3_readYears_0 rfl (lv_at hl 0 rfl) ?_
  refine t_get (C := RX3) (T := TX3) (N := 13) X hT m0 g0 rfl rfl 2 (by decide) qw_162 inlX3 rfl dX3_readYears_1 (fun v50888 hv50888 ov50888 => ?_)
  obtain rfl : v50888 = .ref x2 := hv50888.symm.trans pf2
  refine lv_aload_n hx hb dX3_readYears_4 rfl (lv_at hl 0 rfl) ?_
  refine lv_iconst (v := 0) hx hb dX3_readYears_5 (by decide) ?_
  refine lv_sipush (v := 900) hx hb dX3_readYears_6 (by decide) ?_
  refine t_cVi (n := 2) (C := RX3) (T := TX3) (N := 13) (As := [.int 0, .int 900]) (rest := [.ref x2]) X hT (kt131_X3_whole l G tag L F hT.2.2.2 p0 0 900 x0 x1 x2 x3 x4 x5 m0 g0 (by decide) (by decide) mx0 gx0 pf0 mx1 gx1 pf1 mx2 gx2 pf2 mx3 gx3 pf3 mx4 gx4 pf4 mx5 gx5 pf5) m0 g0 rfl rfl qw_318 qw_319 qw_320 qw_28 qw_321 ⟨rfl, by decide +kernel, by decide +kernel, by decide +kernel⟩ ⟨Nat.le_of_ble_eq_true rfl, Nat.le_of_ble_eq_true rfl⟩ hl rfl rfl (Nat.le_of_ble_eq_true rfl) dX3_readYears_9 ⟨Nat.le_of_ble_eq_true rfl, Nat.le_of_ble_eq_true rfl⟩ (fun z50889 F H locs hT hz50889 => ?_)
  obtain ⟨hz50889, yz50889⟩ := hz50889
  have pf0 := (yz50889.1 _ 0 (Or.inr (by decide)) (Or.inr (by decide)) (Or.inr (by decide)) (Or.inr (by decide)) (Or.inr (by decide)) (Or.inr (by decide)) (Or.inr (by decide)) (Or.inr (by decide))).trans pf0
  have pf1 := (yz50889.1 _ 1 (Or.inr (by decide)) (Or.inr (by decide)) (Or.inr (by decide)) (Or.inr (by decide)) (Or.inr (by decide)) (Or.inr (by decide)) (Or.inr (by decide)) (Or.inr (by decide))).trans pf1
  have pf2 := (yz50889.1 _ 2 (Or.inl (by rw [g0]; decide)) (Or.inr (by decide)) (Or.inr (by decide)) (Or.inr (by decide)) (Or.inr (by decide)) (Or.inr (by decide)) (Or.inr (by decide)) (Or.inr (by decide))).trans pf2
  have pf3 := (yz50889.1 _ 0 (Or.inr (by decide)) (Or.inr (by decide)) (Or.inr (by decide)) (Or.inr (by decide)) (Or.inr (by decide)) (Or.inr (by decide)) (Or.inr (by decide)) (Or.inr (by decide))).trans pf3
  have pf4 := (yz50889.1 _ 10 (Or.inr (by decide)) (Or.inr (by decide)) (Or.inr (by decide)) (Or.inr (by decide)) (Or.inr (by decide)) (Or.inr (by decide)) (Or.inr (by decide)) (Or.inr (by decide))).trans pf4
  have pf5 := (yz50889.1 _ 11 (Or.inr (by decide)) (Or.inr (by decide)) (Or.inr (by decide)) (Or.inr (by decide)) (Or.inr (by decide)) (Or.inr (by decide)) (Or.inr (by decide)) (Or.inr (by decide))).trans pf5
  have hfr : (∀ b j : Nat, (tag b ≠ 18 ∨ j ≠ 4) → (tag b ≠ 18 ∨ j ≠ 5) → (tag b ≠ 18 ∨ j ≠ 6) → (tag b ≠ 19 ∨ j ≠ 0) → (tag b ≠ 24 ∨ j ≠ 2) → (tag b ≠ 24 ∨ j ≠ 3) → (tag b ≠ 24 ∨ j ≠ 4) → (tag b ≠ 24 ∨ j ≠ 5) → (tag b ≠ 24 ∨ j ≠ 6) → (tag b ≠ 24 ∨ j ≠ 7) → (tag b ≠ 25 ∨ j ≠ 3) → (tag b ≠ 25 ∨ j ≠ 4) → (tag b ≠ 25 ∨ j ≠ 6) → fld F b j = fld Fo b j) ∧ EF tag F Fo := ⟨fun b j n18_4 n18_5 n18_6 n19_0 n24_2 n24_3 n24_4 n24_5 n24_6 n24_7 n25_3 n25_4 n25_6 => (yz50889.1 b j n24_2 n24_3 n24_4 n24_5 n24_6 n24_7 n25_3 n25_4).trans (hfr.1 b j n18_4 n18_5 n18_6 n19_0 n24_2 n24_3 n24_4 n24_5 n24_6 n24_7 n25_3 n25_4 n25_6), fun b j hb => (yz50889.2 b j hb).trans (hfr.2 b j hb)⟩
  refine t_put (C := RX7) (T := TX7) (N := 7) (v := .int z50889) X hT mx2 gx2 rfl tyX7 tyX7_ok nmX7 rfl 0 (by decide) qw_331 inlX7 rfl (by first | rfl | decide) (by first | rfl | decide) rfl (⟨_, rfl, (show (-2147483648) ≤ (z50889 : Int32).toInt from (by omega)), (show (z50889 : Int32).toInt ≤ 2147483647 from (by omega))⟩) dX3_readYears_12 (fun F H locs hT v50890 h1v50890 h2v50890 => ?_)
  have pf0 := (h1v50890 _ _ (Or.inl (tne g0 gx2 (by decide)))).trans pf0
  have pf1 := (h1v50890 _ _ (Or.inr (by decide))).trans pf1
  have pf2 := (h1v50890 _ _ (Or.inr (by decide))).trans pf2
  have pf3 := (h1v50890 _ _ (Or.inl (tne gx0 gx2 (by decide)))).trans pf3
  have pf4 := (h1v50890 _ _ (Or.inr (by decide))).trans pf4
  have pf5 := (h1v50890 _ _ (Or.inr (by decide))).trans pf5
  have hfr : (∀ b j : Nat, (tag b ≠ 18 ∨ j ≠ 4) → (tag b ≠ 18 ∨ j ≠ 5) → (tag b ≠ 18 ∨ j ≠ 6) → (tag b ≠ 19 ∨ j ≠ 0) → (tag b ≠ 24 ∨ j ≠ 2) → (tag b ≠ 24 ∨ j ≠ 3) → (tag b ≠ 24 ∨ j ≠ 4) → (tag b ≠ 24 ∨ j ≠ 5) → (tag b ≠ 24 ∨ j ≠ 6) → (tag b ≠ 24 ∨ j ≠ 7) → (tag b ≠ 25 ∨ j ≠ 3) → (tag b ≠ 25 ∨ j ≠ 4) → (tag b ≠ 25 ∨ j ≠ 6) → fld F b j = fld Fo b j) ∧ EF tag F Fo := ⟨fun b j n18_4 n18_5 n18_6 n19_0 n24_2 n24_3 n24_4 n24_5 n24_6 n24_7 n25_3 n25_4 n25_6 => (h1v50890 b j (fr_ne gx2 n19_0)).trans (hfr.1 b j n18_4 n18_5 n18_6 n19_0 n24_2 n24_3 n24_4 n24_5 n24_6 n24_7 n25_3 n25_4 n25_6), fun b j hb => (h2v50890 b j).trans (hfr.2 b j hb)⟩
  refine lv_aload_n hx hb dX3_readYears_15 rfl (lv_at hl 0 rfl) ?_
  refine m_ldcK X 20 rfl dX3_readYears_16 ?_
  refine t_cVv (n := 1) (C := RX3) (T := TX3) (N := 13) (As := [.ref (G.2 (100 + 20))]) (rest := []) X hT (kt115_X3_word l G tag L F hT.2.2.2 p0 20 x0 x1 x2 x3 x4 x5 m0 g0 (by decide) mx0 gx0 pf0 mx1 gx1 pf1 mx2 gx2 pf2 mx3 gx3 pf3 mx4 gx4 pf4 mx5 gx5 pf5) m0 g0 rfl rfl qw_314 qw_315 qw_316 qw_28 qw_317 ⟨rfl, by decide +kernel, by decide +kernel, by decide +kernel⟩ ⟨Nat.le_of_ble_eq_true rfl, Nat.le_of_ble_eq_true rfl⟩ hl rfl rfl (Nat.le_of_ble_eq_true rfl) dX3_readYears_18 ⟨Nat.le_of_ble_eq_true rfl, Nat.le_of_ble_eq_true rfl⟩ (fun F H locs hT hz50891 => ?_)
  have yz50891 := hz50891
  have pf0 := (yz50891.1 _ 0 (Or.inr (by decide)) (Or.inr (by decide)) (Or.inr (by decide)) (Or.inr (by decide)) (Or.inr (by decide)) (Or.inr (by decide)) (Or.inr (by decide)) (Or.inr (by decide))).trans pf0
  have pf1 := (yz50891.1 _ 1 (Or.inr (by decide)) (Or.inr (by decide)) (Or.inr (by decide)) (Or.inr (by decide)) (Or.inr (by decide)) (Or.inr (by decide)) (Or.inr (by decide)) (Or.inr (by decide))).trans pf1
  have pf2 := (yz50891.1 _ 2 (Or.inl (by rw [g0]; decide)) (Or.inr (by decide)) (Or.inr (by decide)) (Or.inr (by decide)) (Or.inr (by decide)) (Or.inr (by decide)) (Or.inr (by decide)) (Or.inr (by decide))).trans pf2
  have pf3 := (yz50891.1 _ 0 (Or.inr (by decide)) (Or.inr (by decide)) (Or.inr (by decide)) (Or.inr (by decide)) (Or.inr (by decide)) (Or.inr (by decide)) (Or.inr (by decide)) (Or.inr (by decide))).trans pf3
  have pf4 := (yz50891.1 _ 10 (Or.inr (by decide)) (Or.inr (by decide)) (Or.inr (by decide)) (Or.inr (by decide)) (Or.inr (by decide)) (Or.inr (by decide)) (Or.inr (by decide)) (Or.inr (by decide))).trans pf4
  have pf5 := (yz50891.1 _ 11 (Or.inr (by decide)) (Or.inr (by decide)) (Or.inr (by decide)) (Or.inr (by decide)) (Or.inr (by decide)) (Or.inr (by decide)) (Or.inr (by decide)) (Or.inr (by decide))).trans pf5
  have v50890 := (yz50891.1 _ 0 (Or.inr (by decide)) (Or.inr (by decide)) (Or.inr (by decide)) (Or.inr (by decide)) (Or.inr (by decide)) (Or.inr (by decide)) (Or.inr (by decide)) (Or.inr (by decide))).trans v50890
  have hfr : (∀ b j : Nat, (tag b ≠ 18 ∨ j ≠ 4) → (tag b ≠ 18 ∨ j ≠ 5) → (tag b ≠ 18 ∨ j ≠ 6) → (tag b ≠ 19 ∨ j ≠ 0) → (tag b ≠ 24 ∨ j ≠ 2) → (tag b ≠ 24 ∨ j ≠ 3) → (tag b ≠ 24 ∨ j ≠ 4) → (tag b ≠ 24 ∨ j ≠ 5) → (tag b ≠ 24 ∨ j ≠ 6) → (tag b ≠ 24 ∨ j ≠ 7) → (tag b ≠ 25 ∨ j ≠ 3) → (tag b ≠ 25 ∨ j ≠ 4) → (tag b ≠ 25 ∨ j ≠ 6) → fld F b j = fld Fo b j) ∧ EF tag F Fo := ⟨fun b j n18_4 n18_5 n18_6 n19_0 n24_2 n24_3 n24_4 n24_5 n24_6 n24_7 n25_3 n25_4 n25_6 => (yz50891.1 b j n24_2 n24_3 n24_4 n24_5 n24_6 n24_7 n25_3 n25_4).trans (hfr.1 b j n18_4 n18_5 n18_6 n19_0 n24_2 n24_3 n24_4 n24_5 n24_6 n24_7 n25_3 n25_4 n25_6), fun b j hb => (yz50891.2 b j hb).trans (hfr.2 b j hb)⟩
  refine lv_aload_n hx hb dX3_readYears_21 rfl (lv_at hl 0 rfl) ?_
  refine t_get (C := RX3) (T := TX3) (N := 13) X hT m0 g0 rfl rfl 1 (by decide) qw_161 inlX3 rfl dX3_readYears_22 (fun v50892 hv50892 ov50892 => ?_)
  obtain rfl : v50892 = .ref x1 := hv50892.symm.trans pf1
  refine lv_aload_n hx hb dX3_readYears_25 rfl (lv_at hl 0 rfl) ?_
  refine lv_iconst (v := 0) hx hb dX3_readYears_26 (by decide) ?_
  refine lv_bipush (v := 100) hx hb dX3_readYears_27 (by decide) ?_
  refine t_cVi (n := 2) (C := RX3) (T := TX3) (N := 13) (As := [.int 0, .int 100]) (rest := [.ref x1]) X hT (kt132_X3_whole l G tag L F hT.2.2.2 p0 0 100 x0 x1 x2 x3 x4 x5 m0 g0 (by decide) (by decide) mx0 gx0 pf0 mx1 gx1 pf1 mx2 gx2 pf2 mx3 gx3 pf3 mx4 gx4 pf4 mx5 gx5 pf5) m0 g0 rfl rfl qw_318 qw_319 qw_320 qw_28 qw_321 ⟨rfl, by decide +kernel, by decide +kernel, by decide +kernel⟩ ⟨Nat.le_of_ble_eq_true rfl, Nat.le_of_ble_eq_true rfl⟩ hl rfl rfl (Nat.le_of_ble_eq_true rfl) dX3_readYears_29 ⟨Nat.le_of_ble_eq_true rfl, Nat.le_of_ble_eq_true rfl⟩ (fun z50893 F H locs hT hz50893 => ?_)
  obtain ⟨hz50893, yz50893⟩ := hz50893
  have pf0 := (yz50893.1 _ 0 (Or.inr (by decide)) (Or.inr (by decide)) (Or.inr (by decide)) (Or.inr (by decide)) (Or.inr (by decide)) (Or.inr (by decide)) (Or.inr (by decide)) (Or.inr (by decide))).trans pf0
  have pf1 := (yz50893.1 _ 1 (Or.inr (by decide)) (Or.inr (by decide)) (Or.inr (by decide)) (Or.inr (by decide)) (Or.inr (by decide)) (Or.inr (by decide)) (Or.inr (by decide)) (Or.inr (by decide))).trans pf1
  have pf2 := (yz50893.1 _ 2 (Or.inl (by rw [g0]; decide)) (Or.inr (by decide)) (Or.inr (by decide)) (Or.inr (by decide)) (Or.inr (by decide)) (Or.inr (by decide)) (Or.inr (by decide)) (Or.inr (by decide))).trans pf2
  have pf3 := (yz50893.1 _ 0 (Or.inr (by decide)) (Or.inr (by decide)) (Or.inr (by decide)) (Or.inr (by decide)) (Or.inr (by decide)) (Or.inr (by decide)) (Or.inr (by decide)) (Or.inr (by decide))).trans pf3
  have pf4 := (yz50893.1 _ 10 (Or.inr (by decide)) (Or.inr (by decide)) (Or.inr (by decide)) (Or.inr (by decide)) (Or.inr (by decide)) (Or.inr (by decide)) (Or.inr (by decide)) (Or.inr (by decide))).trans pf4
  have pf5 := (yz50893.1 _ 11 (Or.inr (by decide)) (Or.inr (by decide)) (Or.inr (by decide)) (Or.inr (by decide)) (Or.inr (by decide)) (Or.inr (by decide)) (Or.inr (by decide)) (Or.inr (by decide))).trans pf5
  have v50890 := (yz50893.1 _ 0 (Or.inr (by decide)) (Or.inr (by decide)) (Or.inr (by decide)) (Or.inr (by decide)) (Or.inr (by decide)) (Or.inr (by decide)) (Or.inr (by decide)) (Or.inr (by decide))).trans v50890
  have hfr : (∀ b j : Nat, (tag b ≠ 18 ∨ j ≠ 4) → (tag b ≠ 18 ∨ j ≠ 5) → (tag b ≠ 18 ∨ j ≠ 6) → (tag b ≠ 19 ∨ j ≠ 0) → (tag b ≠ 24 ∨ j ≠ 2) → (tag b ≠ 24 ∨ j ≠ 3) → (tag b ≠ 24 ∨ j ≠ 4) → (tag b ≠ 24 ∨ j ≠ 5) → (tag b ≠ 24 ∨ j ≠ 6) → (tag b ≠ 24 ∨ j ≠ 7) → (tag b ≠ 25 ∨ j ≠ 3) → (tag b ≠ 25 ∨ j ≠ 4) → (tag b ≠ 25 ∨ j ≠ 6) → fld F b j = fld Fo b j) ∧ EF tag F Fo := ⟨fun b j n18_4 n18_5 n18_6 n19_0 n24_2 n24_3 n24_4 n24_5 n24_6 n24_7 n25_3 n25_4 n25_6 => (yz50893.1 b j n24_2 n24_3 n24_4 n24_5 n24_6 n24_7 n25_3 n25_4).trans (hfr.1 b j n18_4 n18_5 n18_6 n19_0 n24_2 n24_3 n24_4 n24_5 n24_6 n24_7 n25_3 n25_4 n25_6), fun b j hb => (yz50893.2 b j hb).trans (hfr.2 b j hb)⟩
  refine t_put (C := RX1) (T := TX1) (N := 20) (v := .int z50893) X hT mx1 gx1 rfl tyX1 tyX1_ok nmX1 rfl 4 (by decide) qw_332 inlX1 rfl (by first | rfl | decide) (by first | rfl | decide) rfl (⟨_, rfl, (show (-2147483648) ≤ (z50893 : Int32).toInt from (by omega)), (show (z50893 : Int32).toInt ≤ 2147483647 from (by omega))⟩) dX3_readYears_32 (fun F H locs hT v50894 h1v50894 h2v50894 => ?_)
  have pf0 := (h1v50894 _ _ (Or.inr (by decide))).trans pf0
  have pf1 := (h1v50894 _ _ (Or.inr (by decide))).trans pf1
  have pf2 := (h1v50894 _ _ (Or.inr (by decide))).trans pf2
  have pf3 := (h1v50894 _ _ (Or.inr (by decide))).trans pf3
  have pf4 := (h1v50894 _ _ (Or.inr (by decide))).trans pf4
  have pf5 := (h1v50894 _ _ (Or.inr (by decide))).trans pf5
  have v50890 := (h1v50894 _ _ (Or.inr (by decide))).trans v50890
  have hfr : (∀ b j : Nat, (tag b ≠ 18 ∨ j ≠ 4) → (tag b ≠ 18 ∨ j ≠ 5) → (tag b ≠ 18 ∨ j ≠ 6) → (tag b ≠ 19 ∨ j ≠ 0) → (tag b ≠ 24 ∨ j ≠ 2) → (tag b ≠ 24 ∨ j ≠ 3) → (tag b ≠ 24 ∨ j ≠ 4) → (tag b ≠ 24 ∨ j ≠ 5) → (tag b ≠ 24 ∨ j ≠ 6) → (tag b ≠ 24 ∨ j ≠ 7) → (tag b ≠ 25 ∨ j ≠ 3) → (tag b ≠ 25 ∨ j ≠ 4) → (tag b ≠ 25 ∨ j ≠ 6) → fld F b j = fld Fo b j) ∧ EF tag F Fo := ⟨fun b j n18_4 n18_5 n18_6 n19_0 n24_2 n24_3 n24_4 n24_5 n24_6 n24_7 n25_3 n25_4 n25_6 => (h1v50894 b j (fr_ne gx1 n18_4)).trans (hfr.1 b j n18_4 n18_5 n18_6 n19_0 n24_2 n24_3 n24_4 n24_5 n24_6 n24_7 n25_3 n25_4 n25_6), fun b j hb => (h2v50894 b j).trans (hfr.2 b j hb)⟩
  refine lv_aload_n hx hb dX3_readYears_35 rfl (lv_at hl 0 rfl) ?_
  refine m_ldcK X 21 rfl dX3_readYears_36 ?_
  refine t_cVv (n := 1) (C := RX3) (T := TX3) (N := 13) (As := [.ref (G.2 (100 + 21))]) (rest := []) X hT (kt115_X3_word l G tag L F hT.2.2.2 p0 21 x0 x1 x2 x3 x4 x5 m0 g0 (by decide) mx0 gx0 pf0 mx1 gx1 pf1 mx2 gx2 pf2 mx3 gx3 pf3 mx4 gx4 pf4 mx5 gx5 pf5) m0 g0 rfl rfl qw_314 qw_315 qw_316 qw_28 qw_317 ⟨rfl, by decide +kernel, by decide +kernel, by decide +kernel⟩ ⟨Nat.le_of_ble_eq_true rfl, Nat.le_of_ble_eq_true rfl⟩ hl rfl rfl (Nat.le_of_ble_eq_true rfl) dX3_readYears_38 ⟨Nat.le_of_ble_eq_true rfl, Nat.le_of_ble_eq_true rfl⟩ (fun F H locs hT hz50895 => ?_)
  have yz50895 := hz50895
  have pf0 := (yz50895.1 _ 0 (Or.inr (by decide)) (Or.inr (by decide)) (Or.inr (by decide)) (Or.inr (by decide)) (Or.inr (by decide)) (Or.inr (by decide)) (Or.inr (by decide)) (Or.inr (by decide))).trans pf0
  have pf1 := (yz50895.1 _ 1 (Or.inr (by decide)) (Or.inr (by decide)) (Or.inr (by decide)) (Or.inr (by decide)) (Or.inr (by decide)) (Or.inr (by decide)) (Or.inr (by decide)) (Or.inr (by decide))).trans pf1
  have pf2 := (yz50895.1 _ 2 (Or.inl (by rw [g0]; decide)) (Or.inr (by decide)) (Or.inr (by decide)) (Or.inr (by decide)) (Or.inr (by decide)) (Or.inr (by decide)) (Or.inr (by decide)) (Or.inr (by decide))).trans pf2
  have pf3 := (yz50895.1 _ 0 (Or.inr (by decide)) (Or.inr (by decide)) (Or.inr (by decide)) (Or.inr (by decide)) (Or.inr (by decide)) (Or.inr (by decide)) (Or.inr (by decide)) (Or.inr (by decide))).trans pf3
  have pf4 := (yz50895.1 _ 10 (Or.inr (by decide)) (Or.inr (by decide)) (Or.inr (by decide)) (Or.inr (by decide)) (Or.inr (by decide)) (Or.inr (by decide)) (Or.inr (by decide)) (Or.inr (by decide))).trans pf4
  have pf5 := (yz50895.1 _ 11 (Or.inr (by decide)) (Or.inr (by decide)) (Or.inr (by decide)) (Or.inr (by decide)) (Or.inr (by decide)) (Or.inr (by decide)) (Or.inr (by decide)) (Or.inr (by decide))).trans pf5
  have v50890 := (yz50895.1 _ 0 (Or.inr (by decide)) (Or.inr (by decide)) (Or.inr (by decide)) (Or.inr (by decide)) (Or.inr (by decide)) (Or.inr (by decide)) (Or.inr (by decide)) (Or.inr (by decide))).trans v50890
  have v50894 := (yz50895.1 _ 4 (Or.inr (by decide)) (Or.inr (by decide)) (Or.inl (by rw [gx1]; decide)) (Or.inr (by decide)) (Or.inr (by decide)) (Or.inr (by decide)) (Or.inr (by decide)) (Or.inl (by rw [gx1]; decide))).trans v50894
  have hfr : (∀ b j : Nat, (tag b ≠ 18 ∨ j ≠ 4) → (tag b ≠ 18 ∨ j ≠ 5) → (tag b ≠ 18 ∨ j ≠ 6) → (tag b ≠ 19 ∨ j ≠ 0) → (tag b ≠ 24 ∨ j ≠ 2) → (tag b ≠ 24 ∨ j ≠ 3) → (tag b ≠ 24 ∨ j ≠ 4) → (tag b ≠ 24 ∨ j ≠ 5) → (tag b ≠ 24 ∨ j ≠ 6) → (tag b ≠ 24 ∨ j ≠ 7) → (tag b ≠ 25 ∨ j ≠ 3) → (tag b ≠ 25 ∨ j ≠ 4) → (tag b ≠ 25 ∨ j ≠ 6) → fld F b j = fld Fo b j) ∧ EF tag F Fo := ⟨fun b j n18_4 n18_5 n18_6 n19_0 n24_2 n24_3 n24_4 n24_5 n24_6 n24_7 n25_3 n25_4 n25_6 => (yz50895.1 b j n24_2 n24_3 n24_4 n24_5 n24_6 n24_7 n25_3 n25_4).trans (hfr.1 b j n18_4 n18_5 n18_6 n19_0 n24_2 n24_3 n24_4 n24_5 n24_6 n24_7 n25_3 n25_4 n25_6), fun b j hb => (yz50895.2 b j hb).trans (hfr.2 b j hb)⟩
  refine lv_aload_n hx hb dX3_readYears_41 rfl (lv_at hl 0 rfl) ?_
  refine t_get (C := RX3) (T := TX3) (N := 13) X hT m0 g0 rfl rfl 1 (by decide) qw_161 inlX3 rfl dX3_readYears_42 (fun v50896 hv50896 ov50896 => ?_)
  obtain rfl : v50896 = .ref x1 := hv50896.symm.trans pf1
  refine lv_aload_n hx hb dX3_readYears_45 rfl (lv_at hl 0 rfl) ?_
  refine lv_iconst (v := 0) hx hb dX3_readYears_46 (by decide) ?_
  refine lv_bipush (v := 100) hx hb dX3_readYears_47 (by decide) ?_
  refine t_cVi (n := 2) (C := RX3) (T := TX3) (N := 13) (As := [.int 0, .int 100]) (rest := [.ref x1]) X hT (kt132_X3_whole l G tag L F hT.2.2.2 p0 0 100 x0 x1 x2 x3 x4 x5 m0 g0 (by decide) (by decide) mx0 gx0 pf0 mx1 gx1 pf1 mx2 gx2 pf2 mx3 gx3 pf3 mx4 gx4 pf4 mx5 gx5 pf5) m0 g0 rfl rfl qw_318 qw_319 qw_320 qw_28 qw_321 ⟨rfl, by decide +kernel, by decide +kernel, by decide +kernel⟩ ⟨Nat.le_of_ble_eq_true rfl, Nat.le_of_ble_eq_true rfl⟩ hl rfl rfl (Nat.le_of_ble_eq_true rfl) dX3_readYears_49 ⟨Nat.le_of_ble_eq_true rfl, Nat.le_of_ble_eq_true rfl⟩ (fun z50897 F H locs hT hz50897 => ?_)
  obtain ⟨hz50897, yz50897⟩ := hz50897
  have pf0 := (yz50897.1 _ 0 (Or.inr (by decide)) (Or.inr (by decide)) (Or.inr (by decide)) (Or.inr (by decide)) (Or.inr (by decide)) (Or.inr (by decide)) (Or.inr (by decide)) (Or.inr (by decide))).trans pf0
  have pf1 := (yz50897.1 _ 1 (Or.inr (by decide)) (Or.inr (by decide)) (Or.inr (by decide)) (Or.inr (by decide)) (Or.inr (by decide)) (Or.inr (by decide)) (Or.inr (by decide)) (Or.inr (by decide))).trans pf1
  have pf2 := (yz50897.1 _ 2 (Or.inl (by rw [g0]; decide)) (Or.inr (by decide)) (Or.inr (by decide)) (Or.inr (by decide)) (Or.inr (by decide)) (Or.inr (by decide)) (Or.inr (by decide)) (Or.inr (by decide))).trans pf2
  have pf3 := (yz50897.1 _ 0 (Or.inr (by decide)) (Or.inr (by decide)) (Or.inr (by decide)) (Or.inr (by decide)) (Or.inr (by decide)) (Or.inr (by decide)) (Or.inr (by decide)) (Or.inr (by decide))).trans pf3
  have pf4 := (yz50897.1 _ 10 (Or.inr (by decide)) (Or.inr (by decide)) (Or.inr (by decide)) (Or.inr (by decide)) (Or.inr (by decide)) (Or.inr (by decide)) (Or.inr (by decide)) (Or.inr (by decide))).trans pf4
  have pf5 := (yz50897.1 _ 11 (Or.inr (by decide)) (Or.inr (by decide)) (Or.inr (by decide)) (Or.inr (by decide)) (Or.inr (by decide)) (Or.inr (by decide)) (Or.inr (by decide)) (Or.inr (by decide))).trans pf5
  have v50890 := (yz50897.1 _ 0 (Or.inr (by decide)) (Or.inr (by decide)) (Or.inr (by decide)) (Or.inr (by decide)) (Or.inr (by decide)) (Or.inr (by decide)) (Or.inr (by decide)) (Or.inr (by decide))).trans v50890
  have v50894 := (yz50897.1 _ 4 (Or.inr (by decide)) (Or.inr (by decide)) (Or.inl (by rw [gx1]; decide)) (Or.inr (by decide)) (Or.inr (by decide)) (Or.inr (by decide)) (Or.inr (by decide)) (Or.inl (by rw [gx1]; decide))).trans v50894
  have hfr : (∀ b j : Nat, (tag b ≠ 18 ∨ j ≠ 4) → (tag b ≠ 18 ∨ j ≠ 5) → (tag b ≠ 18 ∨ j ≠ 6) → (tag b ≠ 19 ∨ j ≠ 0) → (tag b ≠ 24 ∨ j ≠ 2) → (tag b ≠ 24 ∨ j ≠ 3) → (tag b ≠ 24 ∨ j ≠ 4) → (tag b ≠ 24 ∨ j ≠ 5) → (tag b ≠ 24 ∨ j ≠ 6) → (tag b ≠ 24 ∨ j ≠ 7) → (tag b ≠ 25 ∨ j ≠ 3) → (tag b ≠ 25 ∨ j ≠ 4) → (tag b ≠ 25 ∨ j ≠ 6) → fld F b j = fld Fo b j) ∧ EF tag F Fo := ⟨fun b j n18_4 n18_5 n18_6 n19_0 n24_2 n24_3 n24_4 n24_5 n24_6 n24_7 n25_3 n25_4 n25_6 => (yz50897.1 b j n24_2 n24_3 n24_4 n24_5 n24_6 n24_7 n25_3 n25_4).trans (hfr.1 b j n18_4 n18_5 n18_6 n19_0 n24_2 n24_3 n24_4 n24_5 n24_6 n24_7 n25_3 n25_4 n25_6), fun b j hb => (yz50897.2 b j hb).trans (hfr.2 b j hb)⟩
  refine t_put (C := RX1) (T := TX1) (N := 20) (v := .int z50897) X hT mx1 gx1 rfl tyX1 tyX1_ok nmX1 rfl 5 (by decide) qw_333 inlX1 rfl (by first | rfl | decide) (by first | rfl | decide) rfl (⟨_, rfl, (show (-2147483648) ≤ (z50897 : Int32).toInt from (by omega)), (show (z50897 : Int32).toInt ≤ 2147483647 from (by omega))⟩) dX3_readYears_52 (fun F H locs hT v50898 h1v50898 h2v50898 => ?_)
  have pf0 := (h1v50898 _ _ (Or.inr (by decide))).trans pf0
  have pf1 := (h1v50898 _ _ (Or.inr (by decide))).trans pf1
  have pf2 := (h1v50898 _ _ (Or.inr (by decide))).trans pf2
  have pf3 := (h1v50898 _ _ (Or.inr (by decide))).trans pf3
  have pf4 := (h1v50898 _ _ (Or.inr (by decide))).trans pf4
  have pf5 := (h1v50898 _ _ (Or.inr (by decide))).trans pf5
  have v50890 := (h1v50898 _ _ (Or.inr (by decide))).trans v50890
  have v50894 := (h1v50898 _ _ (Or.inr (by decide))).trans v50894
  have hfr : (∀ b j : Nat, (tag b ≠ 18 ∨ j ≠ 4) → (tag b ≠ 18 ∨ j ≠ 5) → (tag b ≠ 18 ∨ j ≠ 6) → (tag b ≠ 19 ∨ j ≠ 0) → (tag b ≠ 24 ∨ j ≠ 2) → (tag b ≠ 24 ∨ j ≠ 3) → (tag b ≠ 24 ∨ j ≠ 4) → (tag b ≠ 24 ∨ j ≠ 5) → (tag b ≠ 24 ∨ j ≠ 6) → (tag b ≠ 24 ∨ j ≠ 7) → (tag b ≠ 25 ∨ j ≠ 3) → (tag b ≠ 25 ∨ j ≠ 4) → (tag b ≠ 25 ∨ j ≠ 6) → fld F b j = fld Fo b j) ∧ EF tag F Fo := ⟨fun b j n18_4 n18_5 n18_6 n19_0 n24_2 n24_3 n24_4 n24_5 n24_6 n24_7 n25_3 n25_4 n25_6 => (h1v50898 b j (fr_ne gx1 n18_5)).trans (hfr.1 b j n18_4 n18_5 n18_6 n19_0 n24_2 n24_3 n24_4 n24_5 n24_6 n24_7 n25_3 n25_4 n25_6), fun b j hb => (h2v50898 b j).trans (hfr.2 b j hb)⟩
  refine lv_aload_n hx hb dX3_readYears_55 rfl (lv_at hl 0 rfl) ?_
  refine m_ldcK X 22 rfl dX3_readYears_56 ?_
  refine t_cVv (n := 1) (C := RX3) (T := TX3) (N := 13) (As := [.ref (G.2 (100 + 22))]) (rest := []) X hT (kt115_X3_word l G tag L F hT.2.2.2 p0 22 x0 x1 x2 x3 x4 x5 m0 g0 (by decide) mx0 gx0 pf0 mx1 gx1 pf1 mx2 gx2 pf2 mx3 gx3 pf3 mx4 gx4 pf4 mx5 gx5 pf5) m0 g0 rfl rfl qw_314 qw_315 qw_316 qw_28 qw_317 ⟨rfl, by decide +kernel, by decide +kernel, by decide +kernel⟩ ⟨Nat.le_of_ble_eq_true rfl, Nat.le_of_ble_eq_true rfl⟩ hl rfl rfl (Nat.le_of_ble_eq_true rfl) dX3_readYears_58 ⟨Nat.le_of_ble_eq_true rfl, Nat.le_of_ble_eq_true rfl⟩ (fun F H locs hT hz50899 => ?_)
  have yz50899 := hz50899
  have pf0 := (yz50899.1 _ 0 (Or.inr (by decide)) (Or.inr (by decide)) (Or.inr (by decide)) (Or.inr (by decide)) (Or.inr (by decide)) (Or.inr (by decide)) (Or.inr (by decide)) (Or.inr (by decide))).trans pf0
  have pf1 := (yz50899.1 _ 1 (Or.inr (by decide)) (Or.inr (by decide)) (Or.inr (by decide)) (Or.inr (by decide)) (Or.inr (by decide)) (Or.inr (by decide)) (Or.inr (by decide)) (Or.inr (by decide))).trans pf1
  have pf2 := (yz50899.1 _ 2 (Or.inl (by rw [g0]; decide)) (Or.inr (by decide)) (Or.inr (by decide)) (Or.inr (by decide)) (Or.inr (by decide)) (Or.inr (by decide)) (Or.inr (by decide)) (Or.inr (by decide))).trans pf2
  have pf3 := (yz50899.1 _ 0 (Or.inr (by decide)) (Or.inr (by decide)) (Or.inr (by decide)) (Or.inr (by decide)) (Or.inr (by decide)) (Or.inr (by decide)) (Or.inr (by decide)) (Or.inr (by decide))).trans pf3
  have pf4 := (yz50899.1 _ 10 (Or.inr (by decide)) (Or.inr (by decide)) (Or.inr (by decide)) (Or.inr (by decide)) (Or.inr (by decide)) (Or.inr (by decide)) (Or.inr (by decide)) (Or.inr (by decide))).trans pf4
  have pf5 := (yz50899.1 _ 11 (Or.inr (by decide)) (Or.inr (by decide)) (Or.inr (by decide)) (Or.inr (by decide)) (Or.inr (by decide)) (Or.inr (by decide)) (Or.inr (by decide)) (Or.inr (by decide))).trans pf5
  have v50890 := (yz50899.1 _ 0 (Or.inr (by decide)) (Or.inr (by decide)) (Or.inr (by decide)) (Or.inr (by decide)) (Or.inr (by decide)) (Or.inr (by decide)) (Or.inr (by decide)) (Or.inr (by decide))).trans v50890
  have v50894 := (yz50899.1 _ 4 (Or.inr (by decide)) (Or.inr (by decide)) (Or.inl (by rw [gx1]; decide)) (Or.inr (by decide)) (Or.inr (by decide)) (Or.inr (by decide)) (Or.inr (by decide)) (Or.inl (by rw [gx1]; decide))).trans v50894
  have v50898 := (yz50899.1 _ 5 (Or.inr (by decide)) (Or.inr (by decide)) (Or.inr (by decide)) (Or.inl (by rw [gx1]; decide)) (Or.inr (by decide)) (Or.inr (by decide)) (Or.inr (by decide)) (Or.inr (by decide))).trans v50898
  have hfr : (∀ b j : Nat, (tag b ≠ 18 ∨ j ≠ 4) → (tag b ≠ 18 ∨ j ≠ 5) → (tag b ≠ 18 ∨ j ≠ 6) → (tag b ≠ 19 ∨ j ≠ 0) → (tag b ≠ 24 ∨ j ≠ 2) → (tag b ≠ 24 ∨ j ≠ 3) → (tag b ≠ 24 ∨ j ≠ 4) → (tag b ≠ 24 ∨ j ≠ 5) → (tag b ≠ 24 ∨ j ≠ 6) → (tag b ≠ 24 ∨ j ≠ 7) → (tag b ≠ 25 ∨ j ≠ 3) → (tag b ≠ 25 ∨ j ≠ 4) → (tag b ≠ 25 ∨ j ≠ 6) → fld F b j = fld Fo b j) ∧ EF tag F Fo := ⟨fun b j n18_4 n18_5 n18_6 n19_0 n24_2 n24_3 n24_4 n24_5 n24_6 n24_7 n25_3 n25_4 n25_6 => (yz50899.1 b j n24_2 n24_3 n24_4 n24_5 n24_6 n24_7 n25_3 n25_4).trans (hfr.1 b j n18_4 n18_5 n18_6 n19_0 n24_2 n24_3 n24_4 n24_5 n24_6 n24_7 n25_3 n25_4 n25_6), fun b j hb => (yz50899.2 b j hb).trans (hfr.2 b j hb)⟩
  refine lv_aload_n hx hb dX3_readYears_61 rfl (lv_at hl 0 rfl) ?_
  refine t_get (C := RX3) (T := TX3) (N := 13) X hT m0 g0 rfl rfl 1 (by decide) qw_161 inlX3 rfl dX3_readYears_62 (fun v50900 hv50900 ov50900 => ?_)
  obtain rfl : v50900 = .ref x1 := hv50900.symm.trans pf1
  refine lv_aload_n hx hb dX3_readYears_65 rfl (lv_at hl 0 rfl) ?_
  refine lv_iconst (v := 0) hx hb dX3_readYears_66 (by decide) ?_
  refine lv_bipush (v := 9) hx hb dX3_readYears_67 (by decide) ?_
  refine t_cVi (n := 2) (C := RX3) (T := TX3) (N := 13) (As := [.int 0, .int 9]) (rest := [.ref x1]) X hT (kt116_X3_whole l G tag L F hT.2.2.2 p0 0 9 x0 x1 x2 x3 x4 x5 m0 g0 (by decide) (by decide) mx0 gx0 pf0 mx1 gx1 pf1 mx2 gx2 pf2 mx3 gx3 pf3 mx4 gx4 pf4 mx5 gx5 pf5) m0 g0 rfl rfl qw_318 qw_319 qw_320 qw_28 qw_321 ⟨rfl, by decide +kernel, by decide +kernel, by decide +kernel⟩ ⟨Nat.le_of_ble_eq_true rfl, Nat.le_of_ble_eq_true rfl⟩ hl rfl rfl (Nat.le_of_ble_eq_true rfl) dX3_readYears_69 ⟨Nat.le_of_ble_eq_true rfl, Nat.le_of_ble_eq_true rfl⟩ (fun z50901 F H locs hT hz50901 => ?_)
  obtain ⟨hz50901, yz50901⟩ := hz50901
  have pf0 := (yz50901.1 _ 0 (Or.inr (by decide)) (Or.inr (by decide)) (Or.inr (by decide)) (Or.inr (by decide)) (Or.inr (by decide)) (Or.inr (by decide)) (Or.inr (by decide)) (Or.inr (by decide))).trans pf0
  have pf1 := (yz50901.1 _ 1 (Or.inr (by decide)) (Or.inr (by decide)) (Or.inr (by decide)) (Or.inr (by decide)) (Or.inr (by decide)) (Or.inr (by decide)) (Or.inr (by decide)) (Or.inr (by decide))).trans pf1
  have pf2 := (yz50901.1 _ 2 (Or.inl (by rw [g0]; decide)) (Or.inr (by decide)) (Or.inr (by decide)) (Or.inr (by decide)) (Or.inr (by decide)) (Or.inr (by decide)) (Or.inr (by decide)) (Or.inr (by decide))).trans pf2
  have pf3 := (yz50901.1 _ 0 (Or.inr (by decide)) (Or.inr (by decide)) (Or.inr (by decide)) (Or.inr (by decide)) (Or.inr (by decide)) (Or.inr (by decide)) (Or.inr (by decide)) (Or.inr (by decide))).trans pf3
  have pf4 := (yz50901.1 _ 10 (Or.inr (by decide)) (Or.inr (by decide)) (Or.inr (by decide)) (Or.inr (by decide)) (Or.inr (by decide)) (Or.inr (by decide)) (Or.inr (by decide)) (Or.inr (by decide))).trans pf4
  have pf5 := (yz50901.1 _ 11 (Or.inr (by decide)) (Or.inr (by decide)) (Or.inr (by decide)) (Or.inr (by decide)) (Or.inr (by decide)) (Or.inr (by decide)) (Or.inr (by decide)) (Or.inr (by decide))).trans pf5
  have v50890 := (yz50901.1 _ 0 (Or.inr (by decide)) (Or.inr (by decide)) (Or.inr (by decide)) (Or.inr (by decide)) (Or.inr (by decide)) (Or.inr (by decide)) (Or.inr (by decide)) (Or.inr (by decide))).trans v50890
  have v50894 := (yz50901.1 _ 4 (Or.inr (by decide)) (Or.inr (by decide)) (Or.inl (by rw [gx1]; decide)) (Or.inr (by decide)) (Or.inr (by decide)) (Or.inr (by decide)) (Or.inr (by decide)) (Or.inl (by rw [gx1]; decide))).trans v50894
  have v50898 := (yz50901.1 _ 5 (Or.inr (by decide)) (Or.inr (by decide)) (Or.inr (by decide)) (Or.inl (by rw [gx1]; decide)) (Or.inr (by decide)) (Or.inr (by decide)) (Or.inr (by decide)) (Or.inr (by decide))).trans v50898
  have hfr : (∀ b j : Nat, (tag b ≠ 18 ∨ j ≠ 4) → (tag b ≠ 18 ∨ j ≠ 5) → (tag b ≠ 18 ∨ j ≠ 6) → (tag b ≠ 19 ∨ j ≠ 0) → (tag b ≠ 24 ∨ j ≠ 2) → (tag b ≠ 24 ∨ j ≠ 3) → (tag b ≠ 24 ∨ j ≠ 4) → (tag b ≠ 24 ∨ j ≠ 5) → (tag b ≠ 24 ∨ j ≠ 6) → (tag b ≠ 24 ∨ j ≠ 7) → (tag b ≠ 25 ∨ j ≠ 3) → (tag b ≠ 25 ∨ j ≠ 4) → (tag b ≠ 25 ∨ j ≠ 6) → fld F b j = fld Fo b j) ∧ EF tag F Fo := ⟨fun b j n18_4 n18_5 n18_6 n19_0 n24_2 n24_3 n24_4 n24_5 n24_6 n24_7 n25_3 n25_4 n25_6 => (yz50901.1 b j n24_2 n24_3 n24_4 n24_5 n24_6 n24_7 n25_3 n25_4).trans (hfr.1 b j n18_4 n18_5 n18_6 n19_0 n24_2 n24_3 n24_4 n24_5 n24_6 n24_7 n25_3 n25_4 n25_6), fun b j hb => (yz50901.2 b j hb).trans (hfr.2 b j hb)⟩
  refine t_put (C := RX1) (T := TX1) (N := 20) (v := .int z50901) X hT mx1 gx1 rfl tyX1 tyX1_ok nmX1 rfl 6 (by decide) qw_334 inlX1 rfl (by first | rfl | decide) (by first | rfl | decide) rfl (⟨_, rfl, (show (-2147483648) ≤ (z50901 : Int32).toInt from (by omega)), (show (z50901 : Int32).toInt ≤ 2147483647 from (by omega))⟩) dX3_readYears_72 (fun F H locs hT v50902 h1v50902 h2v50902 => ?_)
  have pf0 := (h1v50902 _ _ (Or.inr (by decide))).trans pf0
  have pf1 := (h1v50902 _ _ (Or.inr (by decide))).trans pf1
  have pf2 := (h1v50902 _ _ (Or.inr (by decide))).trans pf2
  have pf3 := (h1v50902 _ _ (Or.inr (by decide))).trans pf3
  have pf4 := (h1v50902 _ _ (Or.inr (by decide))).trans pf4
  have pf5 := (h1v50902 _ _ (Or.inr (by decide))).trans pf5
  have v50890 := (h1v50902 _ _ (Or.inr (by decide))).trans v50890
  have v50894 := (h1v50902 _ _ (Or.inr (by decide))).trans v50894
  have v50898 := (h1v50902 _ _ (Or.inr (by decide))).trans v50898
  have hfr : (∀ b j : Nat, (tag b ≠ 18 ∨ j ≠ 4) → (tag b ≠ 18 ∨ j ≠ 5) → (tag b ≠ 18 ∨ j ≠ 6) → (tag b ≠ 19 ∨ j ≠ 0) → (tag b ≠ 24 ∨ j ≠ 2) → (tag b ≠ 24 ∨ j ≠ 3) → (tag b ≠ 24 ∨ j ≠ 4) → (tag b ≠ 24 ∨ j ≠ 5) → (tag b ≠ 24 ∨ j ≠ 6) → (tag b ≠ 24 ∨ j ≠ 7) → (tag b ≠ 25 ∨ j ≠ 3) → (tag b ≠ 25 ∨ j ≠ 4) → (tag b ≠ 25 ∨ j ≠ 6) → fld F b j = fld Fo b j) ∧ EF tag F Fo := ⟨fun b j n18_4 n18_5 n18_6 n19_0 n24_2 n24_3 n24_4 n24_5 n24_6 n24_7 n25_3 n25_4 n25_6 => (h1v50902 b j (fr_ne gx1 n18_6)).trans (hfr.1 b j n18_4 n18_5 n18_6 n19_0 n24_2 n24_3 n24_4 n24_5 n24_6 n24_7 n25_3 n25_4 n25_6), fun b j hb => (h2v50902 b j).trans (hfr.2 b j hb)⟩
  refine lv_aload_n hx hb dX3_readYears_75 rfl (lv_at hl 0 rfl) ?_
  refine lv_iconst (v := 1) hx hb dX3_readYears_76 (by decide) ?_
  refine t_put (C := RX3) (T := TX3) (N := 13) (v := .int 1) X hT m0 g0 rfl tyX3 tyX3_ok nmX3 rfl 6 (by decide) qw_166 inlX3 rfl (by first | rfl | decide) (by first | rfl | decide) rfl (⟨_, rfl, (show 0 ≤ (1 : Int32).toInt from (by decide)), (show (1 : Int32).toInt ≤ 1 from (by decide))⟩) dX3_readYears_77 (fun F H locs hT v50903 h1v50903 h2v50903 => ?_)
  have pf0 := (h1v50903 _ _ (Or.inr (by decide))).trans pf0
  have pf1 := (h1v50903 _ _ (Or.inr (by decide))).trans pf1
  have pf2 := (h1v50903 _ _ (Or.inr (by decide))).trans pf2
  have pf3 := (h1v50903 _ _ (Or.inr (by decide))).trans pf3
  have pf4 := (h1v50903 _ _ (Or.inr (by decide))).trans pf4
  have pf5 := (h1v50903 _ _ (Or.inr (by decide))).trans pf5
  have v50890 := (h1v50903 _ _ (Or.inr (by decide))).trans v50890
  have v50894 := (h1v50903 _ _ (Or.inr (by decide))).trans v50894
  have v50898 := (h1v50903 _ _ (Or.inr (by decide))).trans v50898
  have v50902 := (h1v50903 _ _ (Or.inl (tne gx1 g0 (by decide)))).trans v50902
  have hfr : (∀ b j : Nat, (tag b ≠ 18 ∨ j ≠ 4) → (tag b ≠ 18 ∨ j ≠ 5) → (tag b ≠ 18 ∨ j ≠ 6) → (tag b ≠ 19 ∨ j ≠ 0) → (tag b ≠ 24 ∨ j ≠ 2) → (tag b ≠ 24 ∨ j ≠ 3) → (tag b ≠ 24 ∨ j ≠ 4) → (tag b ≠ 24 ∨ j ≠ 5) → (tag b ≠ 24 ∨ j ≠ 6) → (tag b ≠ 24 ∨ j ≠ 7) → (tag b ≠ 25 ∨ j ≠ 3) → (tag b ≠ 25 ∨ j ≠ 4) → (tag b ≠ 25 ∨ j ≠ 6) → fld F b j = fld Fo b j) ∧ EF tag F Fo := ⟨fun b j n18_4 n18_5 n18_6 n19_0 n24_2 n24_3 n24_4 n24_5 n24_6 n24_7 n25_3 n25_4 n25_6 => (h1v50903 b j (fr_ne g0 n25_6)).trans (hfr.1 b j n18_4 n18_5 n18_6 n19_0 n24_2 n24_3 n24_4 n24_5 n24_6 n24_7 n25_3 n25_4 n25_6), fun b j hb => (h2v50903 b j).trans (hfr.2 b j hb)⟩
  exact t_vret hQ X hT hfr (Nat.le_of_ble_eq_true rfl) (Nat.le_of_ble_eq_true rfl) dX3_readYears_80
