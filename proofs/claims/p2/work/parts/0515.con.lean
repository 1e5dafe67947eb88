set_option maxHeartbeats 4000000 in
set_option maxRecDepth 100000 in
theorem kt118_X3_name (l : Launch) (G : KG) (tag : Nat → Nat) (L : List Nat) (Fo : Nat → va_E) (ho : okT G ttC tag L Fo) (p0 : Nat) (p1 : Int32) (x0 : Nat) (x1 : Nat) (x2 : Nat) (x3 : Nat) (x4 : Nat) (x5 : Nat) (m0 : p0 ∈ L) (g0 : tag p0 = 25) (h1 : 3 ≤ p1.toInt ∧ p1.toInt ≤ 3) (mx0 : x0 ∈ L) (gx0 : tag x0 = 24) (pf0 : fld Fo p0 0 = .ref x0) (mx1 : x1 ∈ L) (gx1 : tag x1 = 18) (pf1 : fld Fo p0 1 = .ref x1) (mx2 : x2 ∈ L) (gx2 : tag x2 = 19) (pf2 : fld Fo p0 2 = .ref x2) (mx3 : x3 ∈ L) (gx3 : tag x3 = 1) (pf3 : fld Fo x0 0 = .ref x3) (mx4 : x4 ∈ L) (gx4 : tag x4 = 14) (pf4 : fld Fo p0 10 = .ref x4) (mx5 : x5 ∈ L) (gx5 : tag x5 = 15) (pf5 : fld Fo p0 11 = .ref x5) (hrel : NSR Fo x4 x5) : TMi l yX3_name cX3_name 3 (some .int) { frames := 6, cells := 0, slots := 0, locals := 128 } G ttC tag L Fo [.ref p0, .int p1] (fun r F1 => ((-2147483648) ≤ r.toInt ∧ r.toInt ≤ 2147483647) ∧ ((∀ b j : Nat, (tag b ≠ 24 ∨ j ≠ 2) → (tag b ≠ 24 ∨ j ≠ 3) → (tag b ≠ 24 ∨ j ≠ 4) → (tag b ≠ 24 ∨ j ≠ 5) → (tag b ≠ 24 ∨ j ≠ 6) → (tag b ≠ 24 ∨ j ≠ 7) → (tag b ≠ 25 ∨ j ≠ 3) → (tag b ≠ 25 ∨ j ≠ 4) → fld F1 b j = fld Fo b j) ∧ EF tag F1 Fo) ∧ (NSR F1 x4 x5)) := by
  refine t_bodyi (y := yX3_name) (cd := cX3_name) (mL := 3) (rt := (some .int)) (rm := { frames := 6, cells := 0, slots := 0, locals := 128 }) (av := [.ref p0, .int p1]) (by decide) (Nat.le_of_ble_eq_true rfl) ho ?_
  intro p e s m args below meth c ls A Q hQ X hT hl
  have hx := X.1.1
  have hb := X.1.2.1
  have hl : lv_has ls 3 [(0, .ref p0), (1, .int p1)] := hl
  obtain ⟨F, hFo⟩ : ∃ F : Nat → va_E, F = Fo := ⟨_, rfl⟩
  rw [← hFo] at hT pf0 pf1 pf2 pf3 pf4 pf5 hrel
  have hfr : (∀ b j : Nat, (tag b ≠ 24 ∨ j ≠ 2) → (tag b ≠ 24 ∨ j ≠ 3) → (tag b ≠ 24 ∨ j ≠ 4) → (tag b ≠ 24 ∨ j ≠ 5) → (tag b ≠ 24 ∨ j ≠ 6) → (tag b ≠ 24 ∨ j ≠ 7) → (tag b ≠ 25 ∨ j ≠ 3) → (tag b ≠ 25 ∨ j ≠ 4) → fld F b j = fld Fo b j) ∧ EF tag F Fo := by
    rw [hFo]
    exact ⟨by intros; rfl, fun _ _ _ => rfl⟩
  refine lv_aload_n hx hb dX3_name_0 rfl (lv_at hl 0 rfl) ?_
  refine t_get (C := RX3) (T := TX3) (N := 13) X hT m0 g0 rfl rfl 0 (by decide) qw_73 inlX3 rfl dX3_name_1 (fun v42110 hv42110 ov42110 => ?_)
  obtain rfl : v42110 = .ref x0 := hv42110.symm.trans pf0
  refine t_get (C := RX8) (T := TX8) (N := 8) X hT mx0 gx0 rfl rfl 3 (by decide) qw_170 inlX8 rfl dX3_name_4 (fun v42111 hv42111 ov42111 => ?_)
  obtain ⟨z42112, rfl, rz42112⟩ := okV_i ov42111
  refine lv_iconst (v := 1) hx hb dX3_name_7 (by decide) ?_
  refine lv_icmp_ne (tgt := 19) hx hb dX3_name_8 (by decide) (fun c42113 => ?_) (fun c42113 => ?_)
  · have w42114 := cv_ne (rfl : z42112.toInt = z42112.toInt) (by decide : (1 : Int32).toInt = 1) c42113
    refine lv_aload_n hx hb dX3_name_19 rfl (lv_at hl 0 rfl) ?_
    refine lv_iconst (v := 1) hx hb dX3_name_20 (by decide) ?_
    refine lv_aload_n hx hb dX3_name_21 rfl (lv_at hl 0 rfl) ?_
    refine t_get (C := RX3) (T := TX3) (N := 13) X hT m0 g0 rfl rfl 0 (by decide) qw_73 inlX3 rfl dX3_name_22 (fun v42115 hv42115 ov42115 => ?_)
    obtain rfl : v42115 = .ref x0 := hv42115.symm.trans pf0
    refine t_get (C := RX8) (T := TX8) (N := 8) X hT mx0 gx0 rfl rfl 4 (by decide) qw_227 inlX8 rfl dX3_name_25 (fun v42116 hv42116 ov42116 => ?_)
    obtain ⟨z42117, rfl, rz42117⟩ := okV_i ov42116
    refine t_cVv (n := 2) (C := RX3) (T := TX3) (N := 13) (As := [.int 1, .int z42117]) (rest := []) X hT (kt111_X3_fail l G tag L F hT.2.2.2 p0 1 z42117 m0 g0 (by decide)) m0 g0 rfl rfl qw_287 qw_288 qw_289 qw_28 qw_290 ⟨rfl, by decide +kernel, by decide +kernel, by decide +kernel⟩ ⟨Nat.le_of_ble_eq_true rfl, Nat.le_of_ble_eq_true rfl⟩ hl rfl rfl (Nat.le_of_ble_eq_true rfl) dX3_name_28 ⟨Nat.le_of_ble_eq_true rfl, Nat.le_of_ble_eq_true rfl⟩ (fun F H locs hT hz42118 => ?_)
    obtain ⟨yz42118, xz42118_0⟩ := hz42118
    have pf0 := (yz42118.1 _ 0 (Or.inr (by decide)) (Or.inr (by decide))).trans pf0
    have pf1 := (yz42118.1 _ 1 (Or.inr (by decide)) (Or.inr (by decide))).trans pf1
    have pf2 := (yz42118.1 _ 2 (Or.inr (by decide)) (Or.inr (by decide))).trans pf2
    have pf3 := (yz42118.1 _ 0 (Or.inr (by decide)) (Or.inr (by decide))).trans pf3
    have pf4 := (yz42118.1 _ 10 (Or.inr (by decide)) (Or.inr (by decide))).trans pf4
    have pf5 := (yz42118.1 _ 11 (Or.inr (by decide)) (Or.inr (by decide))).trans pf5
    have hv42111 := (yz42118.1 _ 3 (Or.inl (by rw [gx0]; decide)) (Or.inr (by decide))).trans hv42111
    have hv42116 := (yz42118.1 _ 4 (Or.inr (by decide)) (Or.inl (by rw [gx0]; decide))).trans hv42116
    have hfr : (∀ b j : Nat, (tag b ≠ 24 ∨ j ≠ 2) → (tag b ≠ 24 ∨ j ≠ 3) → (tag b ≠ 24 ∨ j ≠ 4) → (tag b ≠ 24 ∨ j ≠ 5) → (tag b ≠ 24 ∨ j ≠ 6) → (tag b ≠ 24 ∨ j ≠ 7) → (tag b ≠ 25 ∨ j ≠ 3) → (tag b ≠ 25 ∨ j ≠ 4) → fld F b j = fld Fo b j) ∧ EF tag F Fo := ⟨fun b j n24_2 n24_3 n24_4 n24_5 n24_6 n24_7 n25_3 n25_4 => (yz42118.1 b j n25_3 n25_4).trans (hfr.1 b j n24_2 n24_3 n24_4 n24_5 n24_6 n24_7 n25_3 n25_4), fun b j hb => (yz42118.2 b j hb).trans (hfr.2 b j hb)⟩
    have hrel := nsr_of (fun j => yz42118.2 _ j (Or.inl gx4)) (fun j => yz42118.2 _ j (Or.inr gx5)) hrel
    obtain ⟨z42119, qz42119, rz42119⟩ := xz42118_0
    refine lv_aload_n hx hb dX3_name_31 rfl (lv_at hl 0 rfl) ?_
    refine t_cVi (n := 0) (C := RX3) (T := TX3) (N := 13) (As := []) (rest := []) X hT (kt113_X3_findName l G tag L F hT.2.2.2 p0 x0 x1 x2 x3 x4 x5 m0 g0 mx0 gx0 pf0 mx1 gx1 pf1 mx2 gx2 pf2 mx3 gx3 pf3 mx4 gx4 pf4 mx5 gx5 pf5) m0 g0 rfl rfl qw_361 qw_362 qw_363 qw_28 qw_364 ⟨rfl, by decide +kernel, by decide +kernel, by decide +kernel⟩ ⟨Nat.le_of_ble_eq_true rfl, Nat.le_of_ble_eq_true rfl⟩ hl rfl rfl (Nat.le_of_ble_eq_true rfl) dX3_name_32 ⟨Nat.le_of_ble_eq_true rfl, Nat.le_of_ble_eq_true rfl⟩ (fun z42120 F9 H locs hT hz42120 => ?_)
    obtain ⟨fz42120, hz42120⟩ := hz42120
    rw [fz42120] at hT
    refine lv_istore_n (lv' := [(2, .int z42120), (0, .ref p0), (1, .int p1)]) hx hb dX3_name_35 rfl hl (by decide) rfl (fun ls hl => ?_)
    refine lv_iload_n hx hb dX3_name_36 rfl (lv_at hl 0 rfl) ?_
    refine lv_iconst (v := (-1)) hx hb dX3_name_37 (by decide) ?_
    refine lv_icmp_eq (tgt := 51) hx hb dX3_name_38 (by decide) (fun c42121 => ?_) (fun c42121 => ?_)
    · have w42122 := cv_eq (rfl : z42120.toInt = z42120.toInt) (by decide : ((-1) : Int32).toInt = (-1)) c42121
      refine lv_aload_n hx hb dX3_name_51 rfl (lv_at hl 1 rfl) ?_
      refine lv_iconst (v := 2) hx hb dX3_name_52 (by decide) ?_
      refine lv_aload_n hx hb dX3_name_53 rfl (lv_at hl 1 rfl) ?_
      refine t_get (C := RX3) (T := TX3) (N := 13) X hT m0 g0 rfl rfl 0 (by decide) qw_73 inlX3 rfl dX3_name_54 (fun v42123 hv42123 ov42123 => ?_)
      obtain rfl : v42123 = .ref x0 := hv42123.symm.trans pf0
      refine t_get (C := RX8) (T := TX8) (N := 8) X hT mx0 gx0 rfl rfl 4 (by decide) qw_227 inlX8 rfl dX3_name_57 (fun v42124 hv42124 ov42124 => ?_)
      obtain rfl : v42124 = .int z42117 := hv42124.symm.trans hv42116
      refine t_cVv (n := 2) (C := RX3) (T := TX3) (N := 13) (As := [.int 2, .int z42117]) (rest := []) X hT (kt111_X3_fail l G tag L F hT.2.2.2 p0 2 z42117 m0 g0 (by decide)) m0 g0 rfl rfl qw_287 qw_288 qw_289 qw_28 qw_290 ⟨rfl, by decide +kernel, by decide +kernel, by decide +kernel⟩ ⟨Nat.le_of_ble_eq_true rfl, Nat.le_of_ble_eq_true rfl⟩ hl rfl rfl (Nat.le_of_ble_eq_true rfl) dX3_name_60 ⟨Nat.le_of_ble_eq_true rfl, Nat.le_of_ble_eq_true rfl⟩ (fun F H locs hT hz42125 => ?_)
      obtain ⟨yz42125, xz42125_0⟩ := hz42125
      have pf0 := (yz42125.1 _ 0 (Or.inr (by decide)) (Or.inr (by decide))).trans pf0
      have pf1 := (yz42125.1 _ 1 (Or.inr (by decide)) (Or.inr (by decide))).trans pf1
      have pf2 := (yz42125.1 _ 2 (Or.inr (by decide)) (Or.inr (by decide))).trans pf2
      have pf3 := (yz42125.1 _ 0 (Or.inr (by decide)) (Or.inr (by decide))).trans pf3
      have pf4 := (yz42125.1 _ 10 (Or.inr (by decide)) (Or.inr (by decide))).trans pf4
      have pf5 := (yz42125.1 _ 11 (Or.inr (by decide)) (Or.inr (by decide))).trans pf5
      have hv42111 := (yz42125.1 _ 3 (Or.inl (by rw [gx0]; decide)) (Or.inr (by decide))).trans hv42111
      have hv42116 := (yz42125.1 _ 4 (Or.inr (by decide)) (Or.inl (by rw [gx0]; decide))).trans hv42116
      have hfr : (∀ b j : Nat, (tag b ≠ 24 ∨ j ≠ 2) → (tag b ≠ 24 ∨ j ≠ 3) → (tag b ≠ 24 ∨ j ≠ 4) → (tag b ≠ 24 ∨ j ≠ 5) → (tag b ≠ 24 ∨ j ≠ 6) → (tag b ≠ 24 ∨ j ≠ 7) → (tag b ≠ 25 ∨ j ≠ 3) → (tag b ≠ 25 ∨ j ≠ 4) → fld F b j = fld Fo b j) ∧ EF tag F Fo := ⟨fun b j n24_2 n24_3 n24_4 n24_5 n24_6 n24_7 n25_3 n25_4 => (yz42125.1 b j n25_3 n25_4).trans (hfr.1 b j n24_2 n24_3 n24_4 n24_5 n24_6 n24_7 n25_3 n25_4), fun b j hb => (yz42125.2 b j hb).trans (hfr.2 b j hb)⟩
      have hrel := nsr_of (fun j => yz42125.2 _ j (Or.inl gx4)) (fun j => yz42125.2 _ j (Or.inr gx5)) hrel
      obtain ⟨z42126, qz42126, rz42126⟩ := xz42125_0
      refine lv_aload_n hx hb dX3_name_63 rfl (lv_at hl 1 rfl) ?_
      refine t_get (C := RX3) (T := TX3) (N := 13) X hT m0 g0 rfl rfl 3 (by decide) qw_163 inlX3 rfl dX3_name_64 (fun v42127 hv42127 ov42127 => ?_)
      obtain rfl : v42127 = .int z42126 := hv42127.symm.trans qz42126
      refine lv_if_ne (tgt := 75) hx hb dX3_name_67 (by decide) (fun c42128 => ?_) (fun c42128 => ?_)
      · have w42129 := cv_ne (rfl : z42126.toInt = z42126.toInt) (by decide : (0 : Int32).toInt = 0) c42128
        refine lv_iconst (v := 0) hx hb dX3_name_75 (by decide) ?_
        exact t_iret hQ X hT (⟨rg_all _, hfr, hrel⟩) (Nat.le_of_ble_eq_true rfl) (Nat.le_of_ble_eq_true rfl) dX3_name_76
      · have w42130 := cv_eq (rfl : z42126.toInt = z42126.toInt) (by decide : (0 : Int32).toInt = 0) c42128
        exfalso
        omega
    · have w42131 := cv_ne (rfl : z42120.toInt = z42120.toInt) (by decide : ((-1) : Int32).toInt = (-1)) c42121
      refine lv_aload_n hx hb dX3_name_41 rfl (lv_at hl 1 rfl) ?_
      refine t_get (C := RX3) (T := TX3) (N := 13) X hT m0 g0 rfl rfl 10 (by decide) qw_75 inlX3 rfl dX3_name_42 (fun v42132 hv42132 ov42132 => ?_)
      obtain rfl : v42132 = .ref x4 := hv42132.symm.trans pf4
      refine lv_iload_n hx hb dX3_name_45 rfl (lv_at hl 0 rfl) ?_
      refine t_ild X hT mx4 gx4 rfl (by omega) dX3_name_46 (fun z42133 vz42133 rz42133 => ?_)
      have rz42133 : (-2147483648) ≤ z42133.toInt ∧ z42133.toInt ≤ 2147483647 := rz42133
      refine lv_iload_n hx hb dX3_name_47 rfl (lv_at hl 2 rfl) ?_
      refine lv_icmp_eq (tgt := 63) hx hb dX3_name_48 (by decide) (fun c42134 => ?_) (fun c42134 => ?_)
      · have w42135 := cv_eq (rfl : z42133.toInt = z42133.toInt) (rfl : p1.toInt = p1.toInt) c42134
        refine lv_aload_n hx hb dX3_name_63 rfl (lv_at hl 1 rfl) ?_
        refine t_get (C := RX3) (T := TX3) (N := 13) X hT m0 g0 rfl rfl 3 (by decide) qw_163 inlX3 rfl dX3_name_64 (fun v42136 hv42136 ov42136 => ?_)
        obtain rfl : v42136 = .int z42119 := hv42136.symm.trans qz42119
        refine lv_if_ne (tgt := 75) hx hb dX3_name_67 (by decide) (fun c42137 => ?_) (fun c42137 => ?_)
        · have w42138 := cv_ne (rfl : z42119.toInt = z42119.toInt) (by decide : (0 : Int32).toInt = 0) c42137
          refine lv_iconst (v := 0) hx hb dX3_name_75 (by decide) ?_
          exact t_iret hQ X hT (⟨rg_all _, hfr, hrel⟩) (Nat.le_of_ble_eq_true rfl) (Nat.le_of_ble_eq_true rfl) dX3_name_76
        · have w42139 := cv_eq (rfl : z42119.toInt = z42119.toInt) (by decide : (0 : Int32).toInt = 0) c42137
          exfalso
          omega
      · have w42140 := cv_ne (rfl : z42133.toInt = z42133.toInt) (rfl : p1.toInt = p1.toInt) c42134
        refine lv_aload_n hx hb dX3_name_51 rfl (lv_at hl 1 rfl) ?_
        refine lv_iconst (v := 2) hx hb dX3_name_52 (by decide) ?_
        refine lv_aload_n hx hb dX3_name_53 rfl (lv_at hl 1 rfl) ?_
        refine t_get (C := RX3) (T := TX3) (N := 13) X hT m0 g0 rfl rfl 0 (by decide) qw_73 inlX3 rfl dX3_name_54 (fun v42141 hv42141 ov42141 => ?_)
        obtain rfl : v42141 = .ref x0 := hv42141.symm.trans pf0
        refine t_get (C := RX8) (T := TX8) (N := 8) X hT mx0 gx0 rfl rfl 4 (by decide) qw_227 inlX8 rfl dX3_name_57 (fun v42142 hv42142 ov42142 => ?_)
        obtain rfl : v42142 = .int z42117 := hv42142.symm.trans hv42116
        refine t_cVv (n := 2) (C := RX3) (T := TX3) (N := 13) (As := [.int 2, .int z42117]) (rest := []) X hT (kt111_X3_fail l G tag L F hT.2.2.2 p0 2 z42117 m0 g0 (by decide)) m0 g0 rfl rfl qw_287 qw_288 qw_289 qw_28 qw_290 ⟨rfl, by decide +kernel, by decide +kernel, by decide +kernel⟩ ⟨Nat.le_of_ble_eq_true rfl, Nat.le_of_ble_eq_true rfl⟩ hl rfl rfl (Nat.le_of_ble_eq_true rfl) dX3_name_60 ⟨Nat.le_of_ble_eq_true rfl, Nat.le_of_ble_eq_true rfl⟩ (fun F H locs hT hz42143 => ?_)
        obtain ⟨yz42143, xz42143_0⟩ := hz42143
        have pf0 := (yz42143.1 _ 0 (Or.inr (by decide)) (Or.inr (by decide))).trans pf0
        have pf1 := (yz42143.1 _ 1 (Or.inr (by decide)) (Or.inr (by decide))).trans pf1
        have pf2 := (yz42143.1 _ 2 (Or.inr (by decide)) (Or.inr (by decide))).trans pf2
        have pf3 := (yz42143.1 _ 0 (Or.inr (by decide)) (Or.inr (by decide))).trans pf3
        have pf4 := (yz42143.1 _ 10 (Or.inr (by decide)) (Or.inr (by decide))).trans pf4
        have pf5 := (yz42143.1 _ 11 (Or.inr (by decide)) (Or.inr (by decide))).trans pf5
        have hv42111 := (yz42143.1 _ 3 (Or.inl (by rw [gx0]; decide)) (Or.inr (by decide))).trans hv42111
        have hv42116 := (yz42143.1 _ 4 (Or.inr (by decide)) (Or.inl (by rw [gx0]; decide))).trans hv42116
        have vz42133 := (yz42143.2 _ _ (Or.inl gx4)).trans vz42133
        have hfr : (∀ b j : Nat, (tag b ≠ 24 ∨ j ≠ 2) → (tag b ≠ 24 ∨ j ≠ 3) → (tag b ≠ 24 ∨ j ≠ 4) → (tag b ≠ 24 ∨ j ≠ 5) → (tag b ≠ 24 ∨ j ≠ 6) → (tag b ≠ 24 ∨ j ≠ 7) → (tag b ≠ 25 ∨ j ≠ 3) → (tag b ≠ 25 ∨ j ≠ 4) → fld F b j = fld Fo b j) ∧ EF tag F Fo := ⟨fun b j n24_2 n24_3 n24_4 n24_5 n24_6 n24_7 n25_3 n25_4 => (yz42143.1 b j n25_3 n25_4).trans (hfr.1 b j n24_2 n24_3 n24_4 n24_5 n24_6 n24_7 n25_3 n25_4), fun b j hb => (yz42143.2 b j hb).trans (hfr.2 b j hb)⟩
        have hrel := nsr_of (fun j => yz42143.2 _ j (Or.inl gx4)) (fun j => yz42143.2 _ j (Or.inr gx5)) hrel
        obtain ⟨z42144, qz42144, rz42144⟩ := xz42143_0
        refine lv_aload_n hx hb dX3_name_63 rfl (lv_at hl 1 rfl) ?_
        refine t_get (C := RX3) (T := TX3) (N := 13) X hT m0 g0 rfl rfl 3 (by decide) qw_163 inlX3 rfl dX3_name_64 (fun v42145 hv42145 ov42145 => ?_)
        obtain rfl : v42145 = .int z42144 := hv42145.symm.trans qz42144
        refine lv_if_ne (tgt := 75) hx hb dX3_name_67 (by decide) (fun c42146 => ?_) (fun c42146 => ?_)
        · have w42147 := cv_ne (rfl : z42144.toInt = z42144.toInt) (by decide : (0 : Int32).toInt = 0) c42146
          refine lv_iconst (v := 0) hx hb dX3_name_75 (by decide) ?_
          exact t_iret hQ X hT (⟨rg_all _, hfr, hrel⟩) (Nat.le_of_ble_eq_true rfl) (Nat.le_of_ble_eq_true rfl) dX3_name_76
        · have w42148 := cv_eq (rfl : z42144.toInt = z42144.toInt) (by decide : (0 : Int32).toInt = 0) c42146
          exfalso
          omega
  · have w42149 := cv_eq (rfl : z42112.toInt = z42112.toInt) (by decide : (1 : Int32).toInt = 1) c42113
    refine lv_aload_n hx hb dX3_name_11 rfl (lv_at hl 0 rfl) ?_
    refine t_cVi (n := 0) (C := RX3) (T := TX3) (N := 13) (As := []) (rest := []) X hT (kt108_X3_lineSort l G tag L F hT.2.2.2 p0 x0 x1 x2 x3 x4 x5 m0 g0 mx0 gx0 pf0 mx1 gx1 pf1 mx2 gx2 pf2 mx3 gx3 pf3 mx4 gx4 pf4 mx5 gx5 pf5) m0 g0 rfl rfl qw_230 qw_231 qw_232 qw_28 qw_233 ⟨rfl, by decide +kernel, by decide +kernel, by decide +kernel⟩ ⟨Nat.le_of_ble_eq_true rfl, Nat.le_of_ble_eq_true rfl⟩ hl rfl rfl (Nat.le_of_ble_eq_true rfl) dX3_name_12 ⟨Nat.le_of_ble_eq_true rfl, Nat.le_of_ble_eq_true rfl⟩ (fun z42150 F9 H locs hT hz42150 => ?_)
    obtain ⟨fz42150, hz42150⟩ := hz42150
    rw [fz42150] at hT
    refine lv_iconst (v := (-1)) hx hb dX3_name_15 (by decide) ?_
    refine lv_icmp_eq (tgt := 31) hx hb dX3_name_16 (by decide) (fun c42151 => ?_) (fun c42151 => ?_)
    · have w42152 := cv_eq (rfl : z42150.toInt = z42150.toInt) (by decide : ((-1) : Int32).toInt = (-1)) c42151
      refine lv_aload_n hx hb dX3_name_31 rfl (lv_at hl 0 rfl) ?_
      refine t_cVi (n := 0) (C := RX3) (T := TX3) (N := 13) (As := []) (rest := []) X hT (kt113_X3_findName l G tag L F hT.2.2.2 p0 x0 x1 x2 x3 x4 x5 m0 g0 mx0 gx0 pf0 mx1 gx1 pf1 mx2 gx2 pf2 mx3 gx3 pf3 mx4 gx4 pf4 mx5 gx5 pf5) m0 g0 rfl rfl qw_361 qw_362 qw_363 qw_28 qw_364 ⟨rfl, by decide +kernel, by decide +kernel, by decide +kernel⟩ ⟨Nat.le_of_ble_eq_true rfl, Nat.le_of_ble_eq_true rfl⟩ hl rfl rfl (Nat.le_of_ble_eq_true rfl) dX3_name_32 ⟨Nat.le_of_ble_eq_true rfl, Nat.le_of_ble_eq_true rfl⟩ (fun z42153 F9 H locs hT hz42153 => ?_)
      obtain ⟨fz42153, hz42153⟩ := hz42153
      rw [fz42153] at hT
      refine lv_istore_n (lv' := [(2, .int z42153), (0, .ref p0), (1, .int p1)]) hx hb dX3_name_35 rfl hl (by decide) rfl (fun ls hl => ?_)
      refine lv_iload_n hx hb dX3_name_36 rfl (lv_at hl 0 rfl) ?_
      refine lv_iconst (v := (-1)) hx hb dX3_name_37 (by decide) ?_
      refine lv_icmp_eq (tgt := 51) hx hb dX3_name_38 (by decide) (fun c42154 => ?_) (fun c42154 => ?_)
      · have w42155 := cv_eq (rfl : z42153.toInt = z42153.toInt) (by decide : ((-1) : Int32).toInt = (-1)) c42154
        refine lv_aload_n hx hb dX3_name_51 rfl (lv_at hl 1 rfl) ?_
        refine lv_iconst (v := 2) hx hb dX3_name_52 (by decide) ?_
        refine lv_aload_n hx hb dX3_name_53 rfl (lv_at hl 1 rfl) ?_
        refine t_get (C := RX3) (T := TX3) (N := 13) X hT m0 g0 rfl rfl 0 (by decide) qw_73 inlX3 rfl dX3_name_54 (fun v42156 hv42156 ov42156 => ?_)
        obtain rfl : v42156 = .ref x0 := hv42156.symm.trans pf0
        refine t_get (C := RX8) (T := TX8) (N := 8) X hT mx0 gx0 rfl rfl 4 (by decide) qw_227 inlX8 rfl dX3_name_57 (fun v42157 hv42157 ov42157 => ?_)
        obtain ⟨z42158, rfl, rz42158⟩ := okV_i ov42157
        refine t_cVv (n := 2) (C := RX3) (T := TX3) (N := 13) (As := [.int 2, .int z42158]) (rest := []) X hT (kt111_X3_fail l G tag L F hT.2.2.2 p0 2 z42158 m0 g0 (by decide)) m0 g0 rfl rfl qw_287 qw_288 qw_289 qw_28 qw_290 ⟨rfl, by decide +kernel, by decide +kernel, by decide +kernel⟩ ⟨Nat.le_of_ble_eq_true rfl, Nat.le_of_ble_eq_true rfl⟩ hl rfl rfl (Nat.le_of_ble_eq_true rfl) dX3_name_60 ⟨Nat.le_of_ble_eq_true rfl, Nat.le_of_ble_eq_true rfl⟩ (fun F H locs hT hz42159 => ?_)
        obtain ⟨yz42159, xz42159_0⟩ := hz42159
        have pf0 := (yz42159.1 _ 0 (Or.inr (by decide)) (Or.inr (by decide))).trans pf0
        have pf1 := (yz42159.1 _ 1 (Or.inr (by decide)) (Or.inr (by decide))).trans pf1
        have pf2 := (yz42159.1 _ 2 (Or.inr (by decide)) (Or.inr (by decide))).trans pf2
        have pf3 := (yz42159.1 _ 0 (Or.inr (by decide)) (Or.inr (by decide))).trans pf3
        have pf4 := (yz42159.1 _ 10 (Or.inr (by decide)) (Or.inr (by decide))).trans pf4
        have pf5 := (yz42159.1 _ 11 (Or.inr (by decide)) (Or.inr (by decide))).trans pf5
        have hv42111 := (yz42159.1 _ 3 (Or.inl (by rw [gx0]; decide)) (Or.inr (by decide))).trans hv42111
        have hv42157 := (yz42159.1 _ 4 (Or.inr (by decide)) (Or.inl (by rw [gx0]; decide))).trans hv42157
        have hfr : (∀ b j : Nat, (tag b ≠ 24 ∨ j ≠ 2) → (tag b ≠ 24 ∨ j ≠ 3) → (tag b ≠ 24 ∨ j ≠ 4) → (tag b ≠ 24 ∨ j ≠ 5) → (tag b ≠ 24 ∨ j ≠ 6) → (tag b ≠ 24 ∨ j ≠ 7) → (tag b ≠ 25 ∨ j ≠ 3) → (tag b ≠ 25 ∨ j ≠ 4) → fld F b j = fld Fo b j) ∧ EF tag F Fo := ⟨fun b j n24_2 n24_3 n24_4 n24_5 n24_6 n24_7 n25_3 n25_4 => (yz42159.1 b j n25_3 n25_4).trans (hfr.1 b j n24_2 n24_3 n24_4 n24_5 n24_6 n24_7 n25_3 n25_4), fun b j hb => (yz42159.2 b j hb).trans (hfr.2 b j hb)⟩
        have hrel := nsr_of (fun j => yz42159.2 _ j (Or.inl gx4)) (fun j => yz42159.2 _ j (Or.inr gx5)) hrel
        obtain ⟨z42160, qz42160, rz42160⟩ := xz42159_0
        refine lv_aload_n hx hb dX3_name_63 rfl (lv_at hl 1 rfl) ?_
        refine t_get (C := RX3) (T := TX3) (N := 13) X hT m0 g0 rfl rfl 3 (by decide) qw_163 inlX3 rfl dX3_name_64 (fun v42161 hv42161 ov42161 => ?_)
        obtain rfl : v42161 = .int z42160 := hv42161.symm.trans qz42160
        refine lv_if_ne (tgt := 75) hx hb dX3_name_67 (by decide) (fun c42162 => ?_) (fun c42162 => ?_)
        · have w42163 := cv_ne (rfl : z42160.toInt = z42160.toInt) (by decide : (0 : Int32).toInt = 0) c42162
          refine lv_iconst (v := 0) hx hb dX3_name_75 (by decide) ?_
          exact t_iret hQ X hT (⟨rg_all _, hfr, hrel⟩) (Nat.le_of_ble_eq_true rfl) (Nat.le_of_ble_eq_true rfl) dX3_name_76
        · have w42164 := cv_eq (rfl : z42160.toInt = z42160.toInt) (by decide : (0 : Int32).toInt = 0) c42162
          exfalso
          omega
      · have w42165 := cv_ne (rfl : z42153.toInt = z42153.toInt) (by decide : ((-1) : Int32).toInt = (-1)) c42154
        refine lv_aload_n hx hb dX3_name_41 rfl (lv_at hl 1 rfl) ?_
        refine t_get (C := RX3) (T := TX3) (N := 13) X hT m0 g0 rfl rfl 10 (by decide) qw_75 inlX3 rfl dX3_name_42 (fun v42166 hv42166 ov42166 => ?_)
        obtain rfl : v42166 = .ref x4 := hv42166.symm.trans pf4
        refine lv_iload_n hx hb dX3_name_45 rfl (lv_at hl 0 rfl) ?_
        refine t_ild X hT mx4 gx4 rfl (by omega) dX3_name_46 (fun z42167 vz42167 rz42167 => ?_)
        have rz42167 : (-2147483648) ≤ z42167.toInt ∧ z42167.toInt ≤ 2147483647 := rz42167
        refine lv_iload_n hx hb dX3_name_47 rfl (lv_at hl 2 rfl) ?_
        refine lv_icmp_eq (tgt := 63) hx hb dX3_name_48 (by decide) (fun c42168 => ?_) (fun c42168 => ?_)
        · have w42169 := cv_eq (rfl : z42167.toInt = z42167.toInt) (rfl : p1.toInt = p1.toInt) c42168
          refine lv_aload_n hx hb dX3_name_63 rfl (lv_at hl 1 rfl) ?_
          refine t_get (C := RX3) (T := TX3) (N := 13) X hT m0 g0 rfl rfl 3 (by decide) qw_163 inlX3 rfl dX3_name_64 (fun v42170 hv42170 ov42170 => ?_)
          obtain ⟨z42171, rfl, rz42171⟩ := okV_i ov42170
          refine lv_if_ne (tgt := 75) hx hb dX3_name_67 (by decide) (fun c42172 => ?_) (fun c42172 => ?_)
          · have w42173 := cv_ne (rfl : z42171.toInt = z42171.toInt) (by decide : (0 : Int32).toInt = 0) c42172
            refine lv_iconst (v := 0) hx hb dX3_name_75 (by decide) ?_
            exact t_iret hQ X hT (⟨rg_all _, hfr, hrel⟩) (Nat.le_of_ble_eq_true rfl) (Nat.le_of_ble_eq_true rfl) dX3_name_76
          · have w42174 := cv_eq (rfl : z42171.toInt = z42171.toInt) (by decide : (0 : Int32).toInt = 0) c42172
            refine lv_iload_n hx hb dX3_name_70 rfl (lv_at hl 0 rfl) ?_
            refine lv_iconst (v := (-1)) hx hb dX3_name_71 (by decide) ?_
            refine lv_icmp_ne (tgt := 77) hx hb dX3_name_72 (by decide) (fun c42175 => ?_) (fun c42175 => ?_)
            · have w42176 := cv_ne (rfl : z42153.toInt = z42153.toInt) (by decide : ((-1) : Int32).toInt = (-1)) c42175
              refine lv_aload_n hx hb dX3_name_77 rfl (lv_at hl 1 rfl) ?_
              refine t_get (C := RX3) (T := TX3) (N := 13) X hT m0 g0 rfl rfl 0 (by decide) qw_73 inlX3 rfl dX3_name_78 (fun v42177 hv42177 ov42177 => ?_)
              obtain rfl : v42177 = .ref x0 := hv42177.symm.trans pf0
              refine t_cVv (n := 0) (C := RX8) (T := TX8) (N := 8) (As := []) (rest := []) X hT (kt98_X8_advance l G tag L F hT.2.2.2 x0 x3 mx0 gx0 mx3 gx3 pf3) mx0 gx0 rfl rfl qw_305 qw_197 qw_198 qw_72 qw_199 ⟨rfl, by decide +kernel, by decide +kernel, by decide +kernel⟩ ⟨Nat.le_of_ble_eq_true rfl, Nat.le_of_ble_eq_true rfl⟩ hl rfl rfl (Nat.le_of_ble_eq_true rfl) dX3_name_81 ⟨Nat.le_of_ble_eq_true rfl, Nat.le_of_ble_eq_true rfl⟩ (fun F H locs hT hz42178 => ?_)
              have yz42178 := hz42178
              have pf0 := (yz42178.1 _ 0 (Or.inr (by decide)) (Or.inr (by decide)) (Or.inr (by decide)) (Or.inr (by decide)) (Or.inr (by decide)) (Or.inr (by decide))).trans pf0
              have pf1 := (yz42178.1 _ 1 (Or.inr (by decide)) (Or.inr (by decide)) (Or.inr (by decide)) (Or.inr (by decide)) (Or.inr (by decide)) (Or.inr (by decide))).trans pf1
              have pf2 := (yz42178.1 _ 2 (Or.inl (by rw [g0]; decide)) (Or.inr (by decide)) (Or.inr (by decide)) (Or.inr (by decide)) (Or.inr (by decide)) (Or.inr (by decide))).trans pf2
              have pf3 := (yz42178.1 _ 0 (Or.inr (by decide)) (Or.inr (by decide)) (Or.inr (by decide)) (Or.inr (by decide)) (Or.inr (by decide)) (Or.inr (by decide))).trans pf3
              have pf4 := (yz42178.1 _ 10 (Or.inr (by decide)) (Or.inr (by decide)) (Or.inr (by decide)) (Or.inr (by decide)) (Or.inr (by decide)) (Or.inr (by decide))).trans pf4
              have pf5 := (yz42178.1 _ 11 (Or.inr (by decide)) (Or.inr (by decide)) (Or.inr (by decide)) (Or.inr (by decide)) (Or.inr (by decide)) (Or.inr (by decide))).trans pf5
              have vz42167 := (yz42178.2 _ _ (Or.inl gx4)).trans vz42167
              have hv42170 := (yz42178.1 _ 3 (Or.inr (by decide)) (Or.inl (by rw [g0]; decide)) (Or.inr (by decide)) (Or.inr (by decide)) (Or.inr (by decide)) (Or.inr (by decide))).trans hv42170
              have hfr : (∀ b j : Nat, (tag b ≠ 24 ∨ j ≠ 2) → (tag b ≠ 24 ∨ j ≠ 3) → (tag b ≠ 24 ∨ j ≠ 4) → (tag b ≠ 24 ∨ j ≠ 5) → (tag b ≠ 24 ∨ j ≠ 6) → (tag b ≠ 24 ∨ j ≠ 7) → (tag b ≠ 25 ∨ j ≠ 3) → (tag b ≠ 25 ∨ j ≠ 4) → fld F b j = fld Fo b j) ∧ EF tag F Fo := ⟨fun b j n24_2 n24_3 n24_4 n24_5 n24_6 n24_7 n25_3 n25_4 => (yz42178.1 b j n24_2 n24_3 n24_4 n24_5 n24_6 n24_7).trans (hfr.1 b j n24_2 n24_3 n24_4 n24_5 n24_6 n24_7 n25_3 n25_4), fun b j hb => (yz42178.2 b j hb).trans (hfr.2 b j hb)⟩
              have hrel := nsr_of (fun j => yz42178.2 _ j (Or.inl gx4)) (fun j => yz42178.2 _ j (Or.inr gx5)) hrel
              refine lv_aload_n hx hb dX3_name_84 rfl (lv_at hl 1 rfl) ?_
              refine t_get (C := RX3) (T := TX3) (N := 13) X hT m0 g0 rfl rfl 11 (by decide) qw_76 inlX3 rfl dX3_name_85 (fun v42179 hv42179 ov42179 => ?_)
              obtain rfl : v42179 = .ref x5 := hv42179.symm.trans pf5
              refine lv_iload_n hx hb dX3_name_88 rfl (lv_at hl 0 rfl) ?_
              refine t_ild X hT mx5 gx5 rfl (by omega) dX3_name_89 (fun z42180 vz42180 rz42180 => ?_)
              have rz42180 : (-2147483648) ≤ z42180.toInt ∧ z42180.toInt ≤ 2147483647 := rz42180
              exact t_iret hQ X hT (⟨rg_all _, hfr, hrel⟩) (Nat.le_of_ble_eq_true rfl) (Nat.le_of_ble_eq_true rfl) dX3_name_90
            · have w42181 := cv_eq (rfl : z42153.toInt = z42153.toInt) (by decide : ((-1) : Int32).toInt = (-1)) c42175
              exfalso
              omega
        · have w42182 := cv_ne (rfl : z42167.toInt = z42167.toInt) (rfl : p1.toInt = p1.toInt) c42168
          refine lv_aload_n hx hb dX3_name_51 rfl (lv_at hl 1 rfl) ?_
          refine lv_iconst (v := 2) hx hb dX3_name_52 (by decide) ?_
          refine lv_aload_n hx hb dX3_name_53 rfl (lv_at hl 1 rfl) ?_
          refine t_get (C := RX3) (T := TX3) (N := 13) X hT m0 g0 rfl rfl 0 (by decide) qw_73 inlX3 rfl dX3_name_54 (fun v42183 hv42183 ov42183 => ?_)
          obtain rfl : v42183 = .ref x0 := hv42183.symm.trans pf0
          refine t_get (C := RX8) (T := TX8) (N := 8) X hT mx0 gx0 rfl rfl 4 (by decide) qw_227 inlX8 rfl dX3_name_57 (fun v42184 hv42184 ov42184 => ?_)
          obtain ⟨z42185, rfl, rz42185⟩ := okV_i ov42184
          refine t_cVv (n := 2) (C := RX3) (T := TX3) (N := 13) (As := [.int 2, .int z42185]) (rest := []) X hT (kt111_X3_fail l G tag L F hT.2.2.2 p0 2 z42185 m0 g0 (by decide)) m0 g0 rfl rfl qw_287 qw_288 qw_289 qw_28 qw_290 ⟨rfl, by decide +kernel, by decide +kernel, by decide +kernel⟩ ⟨Nat.le_of_ble_eq_true rfl, Nat.le_of_ble_eq_true rfl⟩ hl rfl rfl (Nat.le_of_ble_eq_true rfl) dX3_name_60 ⟨Nat.le_of_ble_eq_true rfl, Nat.le_of_ble_eq_true rfl⟩ (fun F H locs hT hz42186 => ?_)
          obtain ⟨yz42186, xz42186_0⟩ := hz42186
          have pf0 := (yz42186.1 _ 0 (Or.inr (by decide)) (Or.inr (by decide))).trans pf0
          have pf1 := (yz42186.1 _ 1 (Or.inr (by decide)) (Or.inr (by decide))).trans pf1
          have pf2 := (yz42186.1 _ 2 (Or.inr (by decide)) (Or.inr (by decide))).trans pf2
          have pf3 := (yz42186.1 _ 0 (Or.inr (by decide)) (Or.inr (by decide))).trans pf3
          have pf4 := (yz42186.1 _ 10 (Or.inr (by decide)) (Or.inr (by decide))).trans pf4
          have pf5 := (yz42186.1 _ 11 (Or.inr (by decide)) (Or.inr (by decide))).trans pf5
          have hv42111 := (yz42186.1 _ 3 (Or.inl (by rw [gx0]; decide)) (Or.inr (by decide))).trans hv42111
          have vz42167 := (yz42186.2 _ _ (Or.inl gx4)).trans vz42167
          have hv42184 := (yz42186.1 _ 4 (Or.inr (by decide)) (Or.inl (by rw [gx0]; decide))).trans hv42184
          have hfr : (∀ b j : Nat, (tag b ≠ 24 ∨ j ≠ 2) → (tag b ≠ 24 ∨ j ≠ 3) → (tag b ≠ 24 ∨ j ≠ 4) → (tag b ≠ 24 ∨ j ≠ 5) → (tag b ≠ 24 ∨ j ≠ 6) → (tag b ≠ 24 ∨ j ≠ 7) → (tag b ≠ 25 ∨ j ≠ 3) → (tag b ≠ 25 ∨ j ≠ 4) → fld F b j = fld Fo b j) ∧ EF tag F Fo := ⟨fun b j n24_2 n24_3 n24_4 n24_5 n24_6 n24_7 n25_3 n25_4 => (yz42186.1 b j n25_3 n25_4).trans (hfr.1 b j n24_2 n24_3 n24_4 n24_5 n24_6 n24_7 n25_3 n25_4), fun b j hb => (yz42186.2 b j hb).trans (hfr.2 b j hb)⟩
          have hrel := nsr_of (fun j => yz42186.2 _ j (Or.inl gx4)) (fun j => yz42186.2 _ j (Or.inr gx5)) hrel
          obtain ⟨z42187, qz42187, rz42187⟩ := xz42186_0
          refine lv_aload_n hx hb dX3_name_63 rfl (lv_at hl 1 rfl) ?_
          refine t_get (C := RX3) (T := TX3) (N := 13) X hT m0 g0 rfl rfl 3 (by decide) qw_163 inlX3 rfl dX3_name_64 (fun v42188 hv42188 ov42188 => ?_)
          obtain rfl : v42188 = .int z42187 := hv42188.symm.trans qz42187
          refine lv_if_ne (tgt := 75) hx hb dX3_name_67 (by decide) (fun c42189 => ?_) (fun c42189 => ?_)
          · have w42190 := cv_ne (rfl : z42187.toInt = z42187.toInt) (by decide : (0 : Int32).toInt = 0) c42189
            refine lv_iconst (v := 0) hx hb dX3_name_75 (by decide) ?_
            exact t_iret hQ X hT (⟨rg_all _, hfr, hrel⟩) (Nat.le_of_ble_eq_true rfl) (Nat.le_of_ble_eq_true rfl) dX3_name_76
          · have w42191 := cv_eq (rfl : z42187.toInt = z42187.toInt) (by decide : (0 : Int32).toInt = 0) c42189
            exfalso
            omega
    · have w42192 := cv_ne (rfl : z42150.toInt = z42150.toInt) (by decide : ((-1) : Int32).toInt = (-1)) c42151
      refine lv_aload_n hx hb dX3_name_19 rfl (lv_at hl 0 rfl) ?_
      refine lv_iconst (v := 1) hx hb dX3_name_20 (by decide) ?_
      refine lv_aload_n hx hb dX3_name_21 rfl (lv_at hl 0 rfl) ?_
      refine t_get (C := RX3) (T := TX3) (N := 13) X hT m0 g0 rfl rfl 0 (by decide) qw_73 inlX3 rfl dX3_name_22 (fun v42193 hv42193 ov42193 => ?_)
      obtain rfl : v42193 = .ref x0 := hv42193.symm.trans pf0
      refine t_get (C := RX8) (T := TX8) (N := 8) X hT mx0 gx0 rfl rfl 4 (by decide) qw_227 inlX8 rfl dX3_name_25 (fun v42194 hv42194 ov42194 => ?_)
      obtain ⟨z42195, rfl, rz42195⟩ := okV_i ov42194
      refine t_cVv (n := 2) (C := RX3) (T := TX3) (N := 13) (As := [.int 1, .int z42195]) (rest := []) X hT (kt111_X3_fail l G tag L F hT.2.2.2 p0 1 z42195 m0 g0 (by decide)) m0 g0 rfl rfl qw_287 qw_288 qw_289 qw_28 qw_290 ⟨rfl, by decide +kernel, by decide +kernel, by decide +kernel⟩ ⟨Nat.le_of_ble_eq_true rfl, Nat.le_of_ble_eq_true rfl⟩ hl rfl rfl (Nat.le_of_ble_eq_true rfl) dX3_name_28 ⟨Nat.le_of_ble_eq_true rfl, Nat.le_of_ble_eq_true rfl⟩ (fun F H locs hT hz42196 => ?_)
      obtain ⟨yz42196, xz42196_0⟩ := hz42196
      have pf0 := (yz42196.1 _ 0 (Or.inr (by decide)) (Or.inr (by decide))).trans pf0
      have pf1 := (yz42196.1 _ 1 (Or.inr (by decide)) (Or.inr (by decide))).trans pf1
      have pf2 := (yz42196.1 _ 2 (Or.inr (by decide)) (Or.inr (by decide))).trans pf2
      have pf3 := (yz42196.1 _ 0 (Or.inr (by decide)) (Or.inr (by decide))).trans pf3
      have pf4 := (yz42196.1 _ 10 (Or.inr (by decide)) (Or.inr (by decide))).trans pf4
      have pf5 := (yz42196.1 _ 11 (Or.inr (by decide)) (Or.inr (by decide))).trans pf5
      have hv42111 := (yz42196.1 _ 3 (Or.inl (by rw [gx0]; decide)) (Or.inr (by decide))).trans hv42111
      have hv42194 := (yz42196.1 _ 4 (Or.inr (by decide)) (Or.inl (by rw [gx0]; decide))).trans hv42194
      have hfr : (∀ b j : Nat, (tag b ≠ 24 ∨ j ≠ 2) → (tag b ≠ 24 ∨ j ≠ 3) → (tag b ≠ 24 ∨ j ≠ 4) → (tag b ≠ 24 ∨ j ≠ 5) → (tag b ≠ 24 ∨ j ≠ 6) → (tag b ≠ 24 ∨ j ≠ 7) → (tag b ≠ 25 ∨ j ≠ 3) → (tag b ≠ 25 ∨ j ≠ 4) → fld F b j = fld Fo b j) ∧ EF tag F Fo := ⟨fun b j n24_2 n24_3 n24_4 n24_5 n24_6 n24_7 n25_3 n25_4 => (yz42196.1 b j n25_3 n25_4).trans (hfr.1 b j n24_2 n24_3 n24_4 n24_5 n24_6 n24_7 n25_3 n25_4), fun b j hb => (yz42196.2 b j hb).trans (hfr.2 b j hb)⟩
      have hrel := nsr_of (fun j => yz42196.2 _ j (Or.inl gx4)) (fun j => yz42196.2 _ j (Or.inr gx5)) hrel
      obtain ⟨z42197, qz42197, rz42197⟩ := xz42196_0
      refine lv_aload_n hx hb dX3_name_31 rfl (lv_at hl 0 rfl) ?_
      refine t_cVi (n := 0) (C := RX3) (T := TX3) (N := 13) (As := []) (rest := []) X hT (kt113_X3_findName l G tag L F hT.2.2.2 p0 x0 x1 x2 x3 x4 x5 m0 g0 mx0 gx0 pf0 mx1 gx1 pf1 mx2 gx2 pf2 mx3 gx3 pf3 mx4 gx4 pf4 mx5 gx5 pf5) m0 g0 rfl rfl qw_361 qw_362 qw_363 qw_28 qw_364 ⟨rfl, by decide +kernel, by decide +kernel, by decide +kernel⟩ ⟨Nat.le_of_ble_eq_true rfl, Nat.le_of_ble_eq_true rfl⟩ hl rfl rfl (Nat.le_of_ble_eq_true rfl) dX3_name_32 ⟨Nat.le_of_ble_eq_true rfl, Nat.le_of_ble_eq_true rfl⟩ (fun z42198 F9 H locs hT hz42198 => ?_)
      obtain ⟨fz42198, hz42198⟩ := hz42198
      rw [fz42198] at hT
      refine lv_istore_n (lv' := [(2, .int z42198), (0, .ref p0), (1, .int p1)]) hx hb dX3_name_35 rfl hl (by decide) rfl (fun ls hl => ?_)
      refine lv_iload_n hx hb dX3_name_36 rfl (lv_at hl 0 rfl) ?_
      refine lv_iconst (v := (-1)) hx hb dX3_name_37 (by decide) ?_
      refine lv_icmp_eq (tgt := 51) hx hb dX3_name_38 (by decide) (fun c42199 => ?_) (fun c42199 => ?_)
      · have w42200 := cv_eq (rfl : z42198.toInt = z42198.toInt) (by decide : ((-1) : Int32).toInt = (-1)) c42199
        refine lv_aload_n hx hb dX3_name_51 rfl (lv_at hl 1 rfl) ?_
        refine lv_iconst (v := 2) hx hb dX3_name_52 (by decide) ?_
        refine lv_aload_n hx hb dX3_name_53 rfl (lv_at hl 1 rfl) ?_
        refine t_get (C := RX3) (T := TX3) (N := 13) X hT m0 g0 rfl rfl 0 (by decide) qw_73 inlX3 rfl dX3_name_54 (fun v42201 hv42201 ov42201 => ?_)
        obtain rfl : v42201 = .ref x0 := hv42201.symm.trans pf0
        refine t_get (C := RX8) (T := TX8) (N := 8) X hT mx0 gx0 rfl rfl 4 (by decide) qw_227 inlX8 rfl dX3_name_57 (fun v42202 hv42202 ov42202 => ?_)
        obtain rfl : v42202 = .int z42195 := hv42202.symm.trans hv42194
        refine t_cVv (n := 2) (C := RX3) (T := TX3) (N := 13) (As := [.int 2, .int z42195]) (rest := []) X hT (kt111_X3_fail l G tag L F hT.2.2.2 p0 2 z42195 m0 g0 (by decide)) m0 g0 rfl rfl qw_287 qw_288 qw_289 qw_28 qw_290 ⟨rfl, by decide +kernel, by decide +kernel, by decide +kernel⟩ ⟨Nat.le_of_ble_eq_true rfl, Nat.le_of_ble_eq_true rfl⟩ hl rfl rfl (Nat.le_of_ble_eq_true rfl) dX3_name_60 ⟨Nat.le_of_ble_eq_true rfl, Nat.le_of_ble_eq_true rfl⟩ (fun F H locs hT hz42203 => ?_)
        obtain ⟨yz42203, xz42203_0⟩ := hz42203
        have pf0 := (yz42203.1 _ 0 (Or.inr (by decide)) (Or.inr (by decide))).trans pf0
        have pf1 := (yz42203.1 _ 1 (Or.inr (by decide)) (Or.inr (by decide))).trans pf1
        have pf2 := (yz42203.1 _ 2 (Or.inr (by decide)) (Or.inr (by decide))).trans pf2
        have pf3 := (yz42203.1 _ 0 (Or.inr (by decide)) (Or.inr (by decide))).trans pf3
        have pf4 := (yz42203.1 _ 10 (Or.inr (by decide)) (Or.inr (by decide))).trans pf4
        have pf5 := (yz42203.1 _ 11 (Or.inr (by decide)) (Or.inr (by decide))).trans pf5
        have hv42111 := (yz42203.1 _ 3 (Or.inl (by rw [gx0]; decide)) (Or.inr (by decide))).trans hv42111
        have hv42194 := (yz42203.1 _ 4 (Or.inr (by decide)) (Or.inl (by rw [gx0]; decide))).trans hv42194
        have hfr : (∀ b j : Nat, (tag b ≠ 24 ∨ j ≠ 2) → (tag b ≠ 24 ∨ j ≠ 3) → (tag b ≠ 24 ∨ j ≠ 4) → (tag b ≠ 24 ∨ j ≠ 5) → (tag b ≠ 24 ∨ j ≠ 6) → (tag b ≠ 24 ∨ j ≠ 7) → (tag b ≠ 25 ∨ j ≠ 3) → (tag b ≠ 25 ∨ j ≠ 4) → fld F b j = fld Fo b j) ∧ EF tag F Fo := ⟨fun b j n24_2 n24_3 n24_4 n24_5 n24_6 n24_7 n25_3 n25_4 => (yz42203.1 b j n25_3 n25_4).trans (hfr.1 b j n24_2 n24_3 n24_4 n24_5 n24_6 n24_7 n25_3 n25_4), fun b j hb => (yz42203.2 b j hb).trans (hfr.2 b j hb)⟩
        have hrel := nsr_of (fun j => yz42203.2 _ j (Or.inl gx4)) (fun j => yz42203.2 _ j (Or.inr gx5)) hrel
        obtain ⟨z42204, qz42204, rz42204⟩ := xz42203_0
        refine lv_aload_n hx hb dX3_name_63 rfl (lv_at hl 1 rfl) ?_
        refine t_get (C := RX3) (T := TX3) (N := 13) X hT m0 g0 rfl rfl 3 (by decide) qw_163 inlX3 rfl dX3_name_64 (fun v42205 hv42205 ov42205 => ?_)
        obtain rfl : v42205 = .int z42204 := hv42205.symm.trans qz42204
        refine lv_if_ne (tgt := 75) hx hb dX3_name_67 (by decide) (fun c42206 => ?_) (fun c42206 => ?_)
        · have w42207 := cv_ne (rfl : z42204.toInt = z42204.toInt) (by decide : (0 : Int32).toInt = 0) c42206
          refine lv_iconst (v := 0) hx hb dX3_name_75 (by decide) ?_
          exact t_iret hQ X hT (⟨rg_all _, hfr, hrel⟩) (Nat.le_of_ble_eq_true rfl) (Nat.le_of_ble_eq_true rfl) dX3_name_76
        · have w42208 := cv_eq (rfl : z42204.toInt = z42204.toInt) (by decide : (0 : Int32).toInt = 0) c42206
          exfalso
          omega
      · have w42209 := cv_ne (rfl : z42198.toInt = z42198.toInt) (by decide : ((-1) : Int32).toInt = (-1)) c42199
        refine lv_aload_n hx hb dX3_name_41 rfl (lv_at hl 1 rfl) ?_
        refine t_get (C := RX3) (T := TX3) (N := 13) X hT m0 g0 rfl rfl 10 (by decide) qw_75 inlX3 rfl dX3_name_42 (fun v42210 hv42210 ov42210 => ?_)
        obtain rfl : v42210 = .ref x4 := hv42210.symm.trans pf4
        refine lv_iload_n hx hb dX3_name_45 rfl (lv_at hl 0 rfl) ?_
        refine t_ild X hT mx4 gx4 rfl (by omega) dX3_name_46 (fun z42211 vz42211 rz42211 => ?_)
        have rz42211 : (-2147483648) ≤ z42211.toInt ∧ z42211.toInt ≤ 2147483647 := rz42211
        refine lv_iload_n hx hb dX3_name_47 rfl (lv_at hl 2 rfl) ?_
        refine lv_icmp_eq (tgt := 63) hx hb dX3_name_48 (by decide) (fun c42212 => ?_) (fun c42212 => ?_)
        · have w42213 := cv_eq (rfl : z42211.toInt = z42211.toInt) (rfl : p1.toInt = p1.toInt) c42212
          refine lv_aload_n hx hb dX3_name_63 rfl (lv_at hl 1 rfl) ?_
          refine t_get (C := RX3) (T := TX3) (N := 13) X hT m0 g0 rfl rfl 3 (by decide) qw_163 inlX3 rfl dX3_name_64 (fun v42214 hv42214 ov42214 => ?_)
          obtain rfl : v42214 = .int z42197 := hv42214.symm.trans qz42197
          refine lv_if_ne (tgt := 75) hx hb dX3_name_67 (by decide) (fun c42215 => ?_) (fun c42215 => ?_)
          · have w42216 := cv_ne (rfl : z42197.toInt = z42197.toInt) (by decide : (0 : Int32).toInt = 0) c42215
            refine lv_iconst (v := 0) hx hb dX3_name_75 (by decide) ?_
            exact t_iret hQ X hT (⟨rg_all _, hfr, hrel⟩) (Nat.le_of_ble_eq_true rfl) (Nat.le_of_ble_eq_true rfl) dX3_name_76
          · have w42217 := cv_eq (rfl : z42197.toInt = z42197.toInt) (by decide : (0 : Int32).toInt = 0) c42215
            exfalso
            omega
        · have w42218 := cv_ne (rfl : z42211.toInt = z42211.toInt) (rfl : p1.toInt = p1.toInt) c42212
          refine lv_aload_n hx hb dX3_name_51 rfl (lv_at hl 1 rfl) ?_
          refine lv_iconst (v := 2) hx hb dX3_name_52 (by decide) ?_
          refine lv_aload_n hx hb dX3_name_53 rfl (lv_at hl 1 rfl) ?_
          refine t_get (C := RX3) (T := TX3) (N := 13) X hT m0 g0 rfl rfl 0 (by decide) qw_73 inlX3 rfl dX3_name_54 (fun v42219 hv42219 ov42219 => ?_)
          obtain rfl : v42219 = .ref x0 := hv42219.symm.trans pf0
          refine t_get (C := RX8) (T := TX8) (N := 8) X hT mx0 gx0 rfl rfl 4 (by decide) qw_227 inlX8 rfl dX3_name_57 (fun v42220 hv42220 ov42220 => ?_)
          obtain rfl : v42220 = .int z42195 := hv42220.symm.trans hv42194
          refine t_cVv (n := 2) (C := RX3) (T := TX3) (N := 13) (As := [.int 2, .int z42195]) (rest := []) X hT (kt111_X3_fail l G tag L F hT.2.2.2 p0 2 z42195 m0 g0 (by decide)) m0 g0 rfl rfl qw_287 qw_288 qw_289 qw_28 qw_290 ⟨rfl, by decide +kernel, by decide +kernel, by decide +kernel⟩ ⟨Nat.le_of_ble_eq_true rfl, Nat.le_of_ble_eq_true rfl⟩ hl rfl rfl (Nat.le_of_ble_eq_true rfl) dX3_name_60 ⟨Nat.le_of_ble_eq_true rfl, Nat.le_of_ble_eq_true rfl⟩ (fun F H locs hT hz42221 => ?_)
          obtain ⟨yz42221, xz42221_0⟩ := hz42221
          have pf0 := (yz42221.1 _ 0 (Or.inr (by decide)) (Or.inr (by decide))).trans pf0
          have pf1 := (yz42221.1 _ 1 (Or.inr (by decide)) (Or.inr (by decide))).trans pf1
          have pf2 := (yz42221.1 _ 2 (Or.inr (by decide)) (Or.inr (by decide))).trans pf2
          have pf3 := (yz42221.1 _ 0 (Or.inr (by decide)) (Or.inr (by decide))).trans pf3
          have pf4 := (yz42221.1 _ 10 (Or.inr (by decide)) (Or.inr (by decide))).trans pf4
          have pf5 := (yz42221.1 _ 11 (Or.inr (by decide)) (Or.inr (by decide))).trans pf5
          have hv42111 := (yz42221.1 _ 3 (Or.inl (by rw [gx0]; decide)) (Or.inr (by decide))).trans hv42111
          have hv42194 := (yz42221.1 _ 4 (Or.inr (by decide)) (Or.inl (by rw [gx0]; decide))).trans hv42194
          have vz42211 := (yz42221.2 _ _ (Or.inl gx4)).trans vz42211
          have hfr : (∀ b j : Nat, (tag b ≠ 24 ∨ j ≠ 2) → (tag b ≠ 24 ∨ j ≠ 3) → (tag b ≠ 24 ∨ j ≠ 4) → (tag b ≠ 24 ∨ j ≠ 5) → (tag b ≠ 24 ∨ j ≠ 6) → (tag b ≠ 24 ∨ j ≠ 7) → (tag b ≠ 25 ∨ j ≠ 3) → (tag b ≠ 25 ∨ j ≠ 4) → fld F b j = fld Fo b j) ∧ EF tag F Fo := ⟨fun b j n24_2 n24_3 n24_4 n24_5 n24_6 n24_7 n25_3 n25_4 => (yz42221.1 b j n25_3 n25_4).trans (hfr.1 b j n24_2 n24_3 n24_4 n24_5 n24_6 n24_7 n25_3 n25_4), fun b j hb => (yz42221.2 b j hb).trans (hfr.2 b j hb)⟩
          have hrel := nsr_of (fun j => yz42221.2 _ j (Or.inl gx4)) (fun j => yz42221.2 _ j (Or.inr gx5)) hrel
          obtain ⟨z42222, qz42222, rz42222⟩ := xz42221_0
          refine lv_aload_n hx hb dX3_name_63 rfl (lv_at hl 1 rfl) ?_
          refine t_get (C := RX3) (T := TX3) (N := 13) X hT m0 g0 rfl rfl 3 (by decide) qw_163 inlX3 rfl dX3_name_64 (fun v42223 hv42223 ov42223 => ?_)
          obtain rfl : v42223 = .int z42222 := hv42223.symm.trans qz42222
          refine lv_if_ne (tgt := 75) hx hb dX3_name_67 (by decide) (fun c42224 => ?_) (fun c42224 => ?_)
          · have w42225 := cv_ne (rfl : z42222.toInt = z42222.toInt) (by decide : (0 : Int32).toInt = 0) c42224
            refine lv_iconst (v := 0) hx hb dX3_name_75 (by decide) ?_
            exact t_iret hQ X hT (⟨rg_all _, hfr, hrel⟩) (Nat.le_of_ble_eq_true rfl) (Nat.le_of_ble_eq_true rfl) dX3_name_76
          · have w42226 := cv_eq (rfl : z42222.toInt = z42222.toInt) (by decide : (0 : Int32).toInt = 0) c42224
            exfalso
            omega
set_option maxHeartbeats 4000000 in
set_option maxRecDepth 100000 in
theorem kt119_X3_whole (l : Launch) (G : KG) (tag : Nat → Nat) (L : List Nat) (Fo : Nat → va_E) (ho : okT G ttC tag L Fo) (p0 : Nat) (p1 : Int32) (p2 : Int32) (x0 : Nat) (x1 : Nat) (x2 : Nat) (x3 : Nat) (x4 : Nat) (x5 : Nat) (m0 : p0 ∈ L) (g0 : tag p0 = 25) (h1 : 0 ≤ p1.toInt ∧ p1.toInt ≤ 0) (h2 : 99 ≤ p2.toInt ∧ p2.toInt ≤ 99) (mx0 : x0 ∈ L) (gx0 : tag x0 = 24) (pf0 : fld Fo p0 0 = .ref x0) (mx1 : x1 ∈ L) (gx1 : tag x1 = 18) (pf1 : fld Fo p0 1 = .ref x1) (mx2 : x2 ∈ L) (gx2 : tag x2 = 19) (pf2 : fld Fo p0 2 = .ref x2) (mx3 : x3 ∈ L) (gx3 : tag x3 = 1) (pf3 : fld Fo x0 0 = .ref x3) (mx4 : x4 ∈ L) (gx4 : tag x4 = 14) (pf4 : fld Fo p0 10 = .ref x4) (mx5 : x5 ∈ L) (gx5 : tag x5 = 15) (pf5 : fld Fo p0 11 = .ref x5) : TMi l yX3_whole cX3_whole 4 (some .int) { frames := 3, cells := 0, slots := 0, locals := 62 } G ttC tag L Fo [.ref p0, .int p1, .int p2] (fun r F1 => (0 ≤ r.toInt ∧ r.toInt ≤ 99) ∧ ((∀ b j : Nat, (tag b ≠ 24 ∨ j ≠ 2) → (tag b ≠ 24 ∨ j ≠ 3) → (tag b ≠ 24 ∨ j ≠ 4) → (tag b ≠ 24 ∨ j ≠ 5) → (tag b ≠ 24 ∨ j ≠ 6) → (tag b ≠ 24 ∨ j ≠ 7) → (tag b ≠ 25 ∨ j ≠ 3) → (tag b ≠ 25 ∨ j ≠ 4) → fld F1 b j = fld Fo b j) ∧ EF tag F1 Fo)) := by
  refine t_bodyi (y := yX3_whole) (cd := cX3_whole) (mL := 4) (rt := (some .int)) (rm := { frames := 3, cells := 0, slots := 0, locals := 62 }) (av := [.ref p0, .int p1, .int p2]) (by decide) (Nat.le_of_ble_eq_true rfl) ho ?_
  intro p e s m args below meth c ls A Q hQ X hT hl
  have hx := X.1.1
  have hb := X.1.2.1
  have hl : lv_has ls 4 [(0, .ref p0), (1, .int p1), (2, .int p2)] := hl
  obtain ⟨F, hFo⟩ : ∃ F : Nat → va_E, F = Fo := ⟨_, rfl⟩
  rw [← hFo] at hT pf0 pf1 pf2 pf3 pf4 pf5
  have hfr : (∀ b j : Nat, (tag b ≠ 24 ∨ j ≠ 2) → (tag b ≠ 24 ∨ j ≠ 3) → (tag b ≠ 24 ∨ j ≠ 4) → (tag b ≠ 24 ∨ j ≠ 5) → (tag b ≠ 24 ∨ j ≠ 6) → (tag b ≠ 24 ∨ j ≠ 7) → (tag b ≠ 25 ∨ j ≠ 3) → (tag b ≠ 25 ∨ j ≠ 4) → fld F b j = fld Fo b j) ∧ EF tag F Fo := by
    rw [hFo]
    exact ⟨by intros; rfl, fun _ _ _ => rfl⟩
  refine lv_aload_n hx hb dX3_whole_0 rfl (lv_at hl 0 rfl) ?_
  refine t_get (C := RX3) (T := TX3) (N := 13) X hT m0 g0 rfl rfl 0 (by decide) qw_73 inlX3 rfl dX3_whole_1 (fun v42812 hv42812 ov42812 => ?_)
  obtain rfl : v42812 = .ref x0 := hv42812.symm.trans pf0
  refine t_get (C := RX8) (T := TX8) (N := 8) X hT mx0 gx0 rfl rfl 3 (by decide) qw_170 inlX8 rfl dX3_whole_4 (fun v42813 hv42813 ov42813 => ?_)
  obtain ⟨z42814, rfl, rz42814⟩ := okV_i ov42813
  refine lv_iconst (v := 2) hx hb dX3_whole_7 (by decide) ?_
  refine lv_icmp_eq (tgt := 26) hx hb dX3_whole_8 (by decide) (fun c42815 => ?_) (fun c42815 => ?_)
  · have w42816 := cv_eq (rfl : z42814.toInt = z42814.toInt) (by decide : (2 : Int32).toInt = 2) c42815
    refine lv_aload_n hx hb dX3_whole_26 rfl (lv_at hl 0 rfl) ?_
    refine t_get (C := RX3) (T := TX3) (N := 13) X hT m0 g0 rfl rfl 0 (by decide) qw_73 inlX3 rfl dX3_whole_27 (fun v42817 hv42817 ov42817 => ?_)
    obtain rfl : v42817 = .ref x0 := hv42817.symm.trans pf0
    refine t_get (C := RX8) (T := TX8) (N := 8) X hT mx0 gx0 rfl rfl 6 (by decide) qw_322 inlX8 rfl dX3_whole_30 (fun v42818 hv42818 ov42818 => ?_)
    obtain ⟨z42819, rfl, rz42819⟩ := okV_i ov42818
    refine lv_iload_n hx hb dX3_whole_33 rfl (lv_at hl 1 rfl) ?_
    refine lv_icmp_lt (tgt := 48) hx hb dX3_whole_34 (by decide) (fun c42820 => ?_) (fun c42820 => ?_)
    · have w42821 := cv_lt (rfl : z42819.toInt = z42819.toInt) (rfl : p1.toInt = p1.toInt) c42820
      refine lv_aload_n hx hb dX3_whole_48 rfl (lv_at hl 0 rfl) ?_
      refine lv_iconst (v := 4) hx hb dX3_whole_49 (by decide) ?_
      refine lv_aload_n hx hb dX3_whole_50 rfl (lv_at hl 0 rfl) ?_
      refine t_get (C := RX3) (T := TX3) (N := 13) X hT m0 g0 rfl rfl 0 (by decide) qw_73 inlX3 rfl dX3_whole_51 (fun v42822 hv42822 ov42822 => ?_)
      obtain rfl : v42822 = .ref x0 := hv42822.symm.trans pf0
      refine t_get (C := RX8) (T := TX8) (N := 8) X hT mx0 gx0 rfl rfl 4 (by decide) qw_227 inlX8 rfl dX3_whole_54 (fun v42823 hv42823 ov42823 => ?_)
      obtain ⟨z42824, rfl, rz42824⟩ := okV_i ov42823
      refine t_cVv (n := 2) (C := RX3) (T := TX3) (N := 13) (As := [.int 4, .int z42824]) (rest := []) X hT (kt111_X3_fail l G tag L F hT.2.2.2 p0 4 z42824 m0 g0 (by decide)) m0 g0 rfl rfl qw_287 qw_288 qw_289 qw_28 qw_290 ⟨rfl, by decide +kernel, by decide +kernel, by decide +kernel⟩ ⟨Nat.le_of_ble_eq_true rfl, Nat.le_of_ble_eq_true rfl⟩ hl rfl rfl (Nat.le_of_ble_eq_true rfl) dX3_whole_57 ⟨Nat.le_of_ble_eq_true rfl, Nat.le_of_ble_eq_true rfl⟩ (fun F H locs hT hz42825 => ?_)
      obtain ⟨yz42825, xz42825_0⟩ := hz42825
      have pf0 := (yz42825.1 _ 0 (Or.inr (by decide)) (Or.inr (by decide))).trans pf0
      have pf1 := (yz42825.1 _ 1 (Or.inr (by decide)) (Or.inr (by decide))).trans pf1
      have pf2 := (yz42825.1 _ 2 (Or.inr (by decide)) (Or.inr (by decide))).trans pf2
      have pf3 := (yz42825.1 _ 0 (Or.inr (by decide)) (Or.inr (by decide))).trans pf3
      have pf4 := (yz42825.1 _ 10 (Or.inr (by decide)) (Or.inr (by decide))).trans pf4
      have pf5 := (yz42825.1 _ 11 (Or.inr (by decide)) (Or.inr (by decide))).trans pf5
      have hv42813 := (yz42825.1 _ 3 (Or.inl (by rw [gx0]; decide)) (Or.inr (by decide))).trans hv42813
      have hv42818 := (yz42825.1 _ 6 (Or.inr (by decide)) (Or.inr (by decide))).trans hv42818
      have hv42823 := (yz42825.1 _ 4 (Or.inr (by decide)) (Or.inl (by rw [gx0]; decide))).trans hv42823
      have hfr : (∀ b j : Nat, (tag b ≠ 24 ∨ j ≠ 2) → (tag b ≠ 24 ∨ j ≠ 3) → (tag b ≠ 24 ∨ j ≠ 4) → (tag b ≠ 24 ∨ j ≠ 5) → (tag b ≠ 24 ∨ j ≠ 6) → (tag b ≠ 24 ∨ j ≠ 7) → (tag b ≠ 25 ∨ j ≠ 3) → (tag b ≠ 25 ∨ j ≠ 4) → fld F b j = fld Fo b j) ∧ EF tag F Fo := ⟨fun b j n24_2 n24_3 n24_4 n24_5 n24_6 n24_7 n25_3 n25_4 => (yz42825.1 b j n25_3 n25_4).trans (hfr.1 b j n24_2 n24_3 n24_4 n24_5 n24_6 n24_7 n25_3 n25_4), fun b j hb => (yz42825.2 b j hb).trans (hfr.2 b j hb)⟩
      obtain ⟨z42826, qz42826, rz42826⟩ := xz42825_0
      refine lv_aload_n hx hb dX3_whole_60 rfl (lv_at hl 0 rfl) ?_
      refine t_get (C := RX3) (T := TX3) (N := 13) X hT m0 g0 rfl rfl 3 (by decide) qw_163 inlX3 rfl dX3_whole_61 (fun v42827 hv42827 ov42827 => ?_)
      obtain rfl : v42827 = .int z42826 := hv42827.symm.trans qz42826
      refine lv_if_eq (tgt := 69) hx hb dX3_whole_64 (by decide) (fun c42828 => ?_) (fun c42828 => ?_)
      · have w42829 := cv_eq (rfl : z42826.toInt = z42826.toInt) (by decide : (0 : Int32).toInt = 0) c42828
        exfalso
        omega
      · have w42830 := cv_ne (rfl : z42826.toInt = z42826.toInt) (by decide : (0 : Int32).toInt = 0) c42828
        refine lv_iload_n hx hb dX3_whole_67 rfl (lv_at hl 1 rfl) ?_
        exact t_iret hQ X hT (⟨(by omega), hfr⟩) (Nat.le_of_ble_eq_true rfl) (Nat.le_of_ble_eq_true rfl) dX3_whole_68
    · have w42831 := cv_nlt (rfl : z42819.toInt = z42819.toInt) (rfl : p1.toInt = p1.toInt) c42820
      refine lv_aload_n hx hb dX3_whole_37 rfl (lv_at hl 0 rfl) ?_
      refine t_get (C := RX3) (T := TX3) (N := 13) X hT m0 g0 rfl rfl 0 (by decide) qw_73 inlX3 rfl dX3_whole_38 (fun v42832 hv42832 ov42832 => ?_)
      obtain rfl : v42832 = .ref x0 := hv42832.symm.trans pf0
      refine t_get (C := RX8) (T := TX8) (N := 8) X hT mx0 gx0 rfl rfl 6 (by decide) qw_322 inlX8 rfl dX3_whole_41 (fun v42833 hv42833 ov42833 => ?_)
      obtain rfl : v42833 = .int z42819 := hv42833.symm.trans hv42818
      refine lv_iload_n hx hb dX3_whole_44 rfl (lv_at hl 2 rfl) ?_
      refine lv_icmp_le (tgt := 60) hx hb dX3_whole_45 (by decide) (fun c42834 => ?_) (fun c42834 => ?_)
      · have w42835 := cv_le (rfl : z42819.toInt = z42819.toInt) (rfl : p2.toInt = p2.toInt) c42834
        refine lv_aload_n hx hb dX3_whole_60 rfl (lv_at hl 0 rfl) ?_
        refine t_get (C := RX3) (T := TX3) (N := 13) X hT m0 g0 rfl rfl 3 (by decide) qw_163 inlX3 rfl dX3_whole_61 (fun v42836 hv42836 ov42836 => ?_)
        obtain ⟨z42837, rfl, rz42837⟩ := okV_i ov42836
        refine lv_if_eq (tgt := 69) hx hb dX3_whole_64 (by decide) (fun c42838 => ?_) (fun c42838 => ?_)
        · have w42839 := cv_eq (rfl : z42837.toInt = z42837.toInt) (by decide : (0 : Int32).toInt = 0) c42838
          refine lv_aload_n hx hb dX3_whole_69 rfl (lv_at hl 0 rfl) ?_
          refine t_get (C := RX3) (T := TX3) (N := 13) X hT m0 g0 rfl rfl 0 (by decide) qw_73 inlX3 rfl dX3_whole_70 (fun v42840 hv42840 ov42840 => ?_)
          obtain rfl : v42840 = .ref x0 := hv42840.symm.trans pf0
          refine t_get (C := RX8) (T := TX8) (N := 8) X hT mx0 gx0 rfl rfl 6 (by decide) qw_322 inlX8 rfl dX3_whole_73 (fun v42841 hv42841 ov42841 => ?_)
          obtain rfl : v42841 = .int z42819 := hv42841.symm.trans hv42818
          refine lv_istore_n (lv' := [(3, .int z42819), (0, .ref p0), (1, .int p1), (2, .int p2)]) hx hb dX3_whole_76 rfl hl (by decide) rfl (fun ls hl => ?_)
          refine lv_aload_n hx hb dX3_whole_77 rfl (lv_at hl 1 rfl) ?_
          refine t_get (C := RX3) (T := TX3) (N := 13) X hT m0 g0 rfl rfl 0 (by decide) qw_73 inlX3 rfl dX3_whole_78 (fun v42842 hv42842 ov42842 => ?_)
          obtain rfl : v42842 = .ref x0 := hv42842.symm.trans pf0
          refine t_cVv (n := 0) (C := RX8) (T := TX8) (N := 8) (As := []) (rest := []) X hT (kt98_X8_advance l G tag L F hT.2.2.2 x0 x3 mx0 gx0 mx3 gx3 pf3) mx0 gx0 rfl rfl qw_305 qw_197 qw_198 qw_72 qw_199 ⟨rfl, by decide +kernel, by decide +kernel, by decide +kernel⟩ ⟨Nat.le_of_ble_eq_true rfl, Nat.le_of_ble_eq_true rfl⟩ hl rfl rfl (Nat.le_of_ble_eq_true rfl) dX3_whole_81 ⟨Nat.le_of_ble_eq_true rfl, Nat.le_of_ble_eq_true rfl⟩ (fun F H locs hT hz42843 => ?_)
          have yz42843 := hz42843
          have pf0 := (yz42843.1 _ 0 (Or.inr (by decide)) (Or.inr (by decide)) (Or.inr (by decide)) (Or.inr (by decide)) (Or.inr (by decide)) (Or.inr (by decide))).trans pf0
          have pf1 := (yz42843.1 _ 1 (Or.inr (by decide)) (Or.inr (by decide)) (Or.inr (by decide)) (Or.inr (by decide)) (Or.inr (by decide)) (Or.inr (by decide))).trans pf1
          have pf2 := (yz42843.1 _ 2 (Or.inl (by rw [g0]; decide)) (Or.inr (by decide)) (Or.inr (by decide)) (Or.inr (by decide)) (Or.inr (by decide)) (Or.inr (by decide))).trans pf2
          have pf3 := (yz42843.1 _ 0 (Or.inr (by decide)) (Or.inr (by decide)) (Or.inr (by decide)) (Or.inr (by decide)) (Or.inr (by decide)) (Or.inr (by decide))).trans pf3
          have pf4 := (yz42843.1 _ 10 (Or.inr (by decide)) (Or.inr (by decide)) (Or.inr (by decide)) (Or.inr (by decide)) (Or.inr (by decide)) (Or.inr (by decide))).trans pf4
          have pf5 := (yz42843.1 _ 11 (Or.inr (by decide)) (Or.inr (by decide)) (Or.inr (by decide)) (Or.inr (by decide)) (Or.inr (by decide)) (Or.inr (by decide))).trans pf5
          have hv42836 := (yz42843.1 _ 3 (Or.inr (by decide)) (Or.inl (by rw [g0]; decide)) (Or.inr (by decide)) (Or.inr (by decide)) (Or.inr (by decide)) (Or.inr (by decide))).trans hv42836
          have hfr : (∀ b j : Nat, (tag b ≠ 24 ∨ j ≠ 2) → (tag b ≠ 24 ∨ j ≠ 3) → (tag b ≠ 24 ∨ j ≠ 4) → (tag b ≠ 24 ∨ j ≠ 5) → (tag b ≠ 24 ∨ j ≠ 6) → (tag b ≠ 24 ∨ j ≠ 7) → (tag b ≠ 25 ∨ j ≠ 3) → (tag b ≠ 25 ∨ j ≠ 4) → fld F b j = fld Fo b j) ∧ EF tag F Fo := ⟨fun b j n24_2 n24_3 n24_4 n24_5 n24_6 n24_7 n25_3 n25_4 => (yz42843.1 b j n24_2 n24_3 n24_4 n24_5 n24_6 n24_7).trans (hfr.1 b j n24_2 n24_3 n24_4 n24_5 n24_6 n24_7 n25_3 n25_4), fun b j hb => (yz42843.2 b j hb).trans (hfr.2 b j hb)⟩
          refine lv_iload_n hx hb dX3_whole_84 rfl (lv_at hl 0 rfl) ?_
          exact t_iret hQ X hT (⟨(by omega), hfr⟩) (Nat.le_of_ble_eq_true rfl) (Nat.le_of_ble_eq_true rfl) dX3_whole_85
        · have w42844 := cv_ne (rfl : z42837.toInt = z42837.toInt) (by decide : (0 : Int32).toInt = 0) c42838
          refine lv_iload_n hx hb dX3_whole_67 rfl (lv_at hl 1 rfl) ?_
          exact t_iret hQ X hT (⟨(by omega), hfr⟩) (Nat.le_of_ble_eq_true rfl) (Nat.le_of_ble_eq_true rfl) dX3_whole_68
      · have w42845 := cv_nle (rfl : z42819.toInt = z42819.toInt) (rfl : p2.toInt = p2.toInt) c42834
        refine lv_aload_n hx hb dX3_whole_48 rfl (lv_at hl 0 rfl) ?_
        refine lv_iconst (v := 4) hx hb dX3_whole_49 (by decide) ?_
        refine lv_aload_n hx hb dX3_whole_50 rfl (lv_at hl 0 rfl) ?_
        refine t_get (C := RX3) (T := TX3) (N := 13) X hT m0 g0 rfl rfl 0 (by decide) qw_73 inlX3 rfl dX3_whole_51 (fun v42846 hv42846 ov42846 => ?_)
        obtain rfl : v42846 = .ref x0 := hv42846.symm.trans pf0
        refine t_get (C := RX8) (T := TX8) (N := 8) X hT mx0 gx0 rfl rfl 4 (by decide) qw_227 inlX8 rfl dX3_whole_54 (fun v42847 hv42847 ov42847 => ?_)
        obtain ⟨z42848, rfl, rz42848⟩ := okV_i ov42847
        refine t_cVv (n := 2) (C := RX3) (T := TX3) (N := 13) (As := [.int 4, .int z42848]) (rest := []) X hT (kt111_X3_fail l G tag L F hT.2.2.2 p0 4 z42848 m0 g0 (by decide)) m0 g0 rfl rfl qw_287 qw_288 qw_289 qw_28 qw_290 ⟨rfl, by decide +kernel, by decide +kernel, by decide +kernel⟩ ⟨Nat.le_of_ble_eq_true rfl, Nat.le_of_ble_eq_true rfl⟩ hl rfl rfl (Nat.le_of_ble_eq_true rfl) dX3_whole_57 ⟨Nat.le_of_ble_eq_true rfl, Nat.le_of_ble_eq_true rfl⟩ (fun F H locs hT hz42849 => ?_)
        obtain ⟨yz42849, xz42849_0⟩ := hz42849
        have pf0 := (yz42849.1 _ 0 (Or.inr (by decide)) (Or.inr (by decide))).trans pf0
        have pf1 := (yz42849.1 _ 1 (Or.inr (by decide)) (Or.inr (by decide))).trans pf1
        have pf2 := (yz42849.1 _ 2 (Or.inr (by decide)) (Or.inr (by decide))).trans pf2
        have pf3 := (yz42849.1 _ 0 (Or.inr (by decide)) (Or.inr (by decide))).trans pf3
        have pf4 := (yz42849.1 _ 10 (Or.inr (by decide)) (Or.inr (by decide))).trans pf4
        have pf5 := (yz42849.1 _ 11 (Or.inr (by decide)) (Or.inr (by decide))).trans pf5
        have hv42813 := (yz42849.1 _ 3 (Or.inl (by rw [gx0]; decide)) (Or.inr (by decide))).trans hv42813
        have hv42818 := (yz42849.1 _ 6 (Or.inr (by decide)) (Or.inr (by decide))).trans hv42818
        have hv42847 := (yz42849.1 _ 4 (Or.inr (by decide)) (Or.inl (by rw [gx0]; decide))).trans hv42847
        have hfr : (∀ b j : Nat, (tag b ≠ 24 ∨ j ≠ 2) → (tag b ≠ 24 ∨ j ≠ 3) → (tag b ≠ 24 ∨ j ≠ 4) → (tag b ≠ 24 ∨ j ≠ 5) → (tag b ≠ 24 ∨ j ≠ 6) → (tag b ≠ 24 ∨ j ≠ 7) → (tag b ≠ 25 ∨ j ≠ 3) → (tag b ≠ 25 ∨ j ≠ 4) → fld F b j = fld Fo b j) ∧ EF tag F Fo := ⟨fun b j n24_2 n24_3 n24_4 n24_5 n24_6 n24_7 n25_3 n25_4 => (yz42849.1 b j n25_3 n25_4).trans (hfr.1 b j n24_2 n24_3 n24_4 n24_5 n24_6 n24_7 n25_3 n25_4), fun b j hb => (yz42849.2 b j hb).trans (hfr.2 b j hb)⟩
        obtain ⟨z42850, qz42850, rz42850⟩ := xz42849_0
        refine lv_aload_n hx hb dX3_whole_60 rfl (lv_at hl 0 rfl) ?_
        refine t_get (C := RX3) (T := TX3) (N := 13) X hT m0 g0 rfl rfl 3 (by decide) qw_163 inlX3 rfl dX3_whole_61 (fun v42851 hv42851 ov42851 => ?_)
        obtain rfl : v42851 = .int z42850 := hv42851.symm.trans qz42850
        refine lv_if_eq (tgt := 69) hx hb dX3_whole_64 (by decide) (fun c42852 => ?_) (fun c42852 => ?_)
        · have w42853 := cv_eq (rfl : z42850.toInt = z42850.toInt) (by decide : (0 : Int32).toInt = 0) c42852
          exfalso
          omega
        · have w42854 := cv_ne (rfl : z42850.toInt = z42850.toInt) (by decide : (0 : Int32).toInt = 0) c42852
          refine lv_iload_n hx hb dX3_whole_67 rfl (lv_at hl 1 rfl) ?_
          exact t_iret hQ X hT (⟨(by omega), hfr⟩) (Nat.le_of_ble_eq_true rfl) (Nat.le_of_ble_eq_true rfl) dX3_whole_68
  · have w42855 := cv_ne (rfl : z42814.toInt = z42814.toInt) (by decide : (2 : Int32).toInt = 2) c42815
    refine lv_aload_n hx hb dX3_whole_11 rfl (lv_at hl 0 rfl) ?_
    refine lv_iconst (v := 1) hx hb dX3_whole_12 (by decide) ?_
    refine lv_aload_n hx hb dX3_whole_13 rfl (lv_at hl 0 rfl) ?_
    refine t_get (C := RX3) (T := TX3) (N := 13) X hT m0 g0 rfl rfl 0 (by decide) qw_73 inlX3 rfl dX3_whole_14 (fun v42856 hv42856 ov42856 => ?_)
    obtain rfl : v42856 = .ref x0 := hv42856.symm.trans pf0
    refine t_get (C := RX8) (T := TX8) (N := 8) X hT mx0 gx0 rfl rfl 4 (by decide) qw_227 inlX8 rfl dX3_whole_17 (fun v42857 hv42857 ov42857 => ?_)
    obtain ⟨z42858, rfl, rz42858⟩ := okV_i ov42857
    refine t_cVv (n := 2) (C := RX3) (T := TX3) (N := 13) (As := [.int 1, .int z42858]) (rest := []) X hT (kt111_X3_fail l G tag L F hT.2.2.2 p0 1 z42858 m0 g0 (by decide)) m0 g0 rfl rfl qw_287 qw_288 qw_289 qw_28 qw_290 ⟨rfl, by decide +kernel, by decide +kernel, by decide +kernel⟩ ⟨Nat.le_of_ble_eq_true rfl, Nat.le_of_ble_eq_true rfl⟩ hl rfl rfl (Nat.le_of_ble_eq_true rfl) dX3_whole_20 ⟨Nat.le_of_ble_eq_true rfl, Nat.le_of_ble_eq_true rfl⟩ (fun F H locs hT hz42859 => ?_)
    obtain ⟨yz42859, xz42859_0⟩ := hz42859
    have pf0 := (yz42859.1 _ 0 (Or.inr (by decide)) (Or.inr (by decide))).trans pf0
    have pf1 := (yz42859.1 _ 1 (Or.inr (by decide)) (Or.inr (by decide))).trans pf1
    have pf2 := (yz42859.1 _ 2 (Or.inr (by decide)) (Or.inr (by decide))).trans pf2
    have pf3 := (yz42859.1 _ 0 (Or.inr (by decide)) (Or.inr (by decide))).trans pf3
    have pf4 := (yz42859.1 _ 10 (Or.inr (by decide)) (Or.inr (by decide))).trans pf4
    have pf5 := (yz42859.1 _ 11 (Or.inr (by decide)) (Or.inr (by decide))).trans pf5
    have hv42813 := (yz42859.1 _ 3 (Or.inl (by rw [gx0]; decide)) (Or.inr (by decide))).trans hv42813
    have hv42857 := (yz42859.1 _ 4 (Or.inr (by decide)) (Or.inl (by rw [gx0]; decide))).trans hv42857
    have hfr : (∀ b j : Nat, (tag b ≠ 24 ∨ j ≠ 2) → (tag b ≠ 24 ∨ j ≠ 3) → (tag b ≠ 24 ∨ j ≠ 4) → (tag b ≠ 24 ∨ j ≠ 5) → (tag b ≠ 24 ∨ j ≠ 6) → (tag b ≠ 24 ∨ j ≠ 7) → (tag b ≠ 25 ∨ j ≠ 3) → (tag b ≠ 25 ∨ j ≠ 4) → fld F b j = fld Fo b j) ∧ EF tag F Fo := ⟨fun b j n24_2 n24_3 n24_4 n24_5 n24_6 n24_7 n25_3 n25_4 => (yz42859.1 b j n25_3 n25_4).trans (hfr.1 b j n24_2 n24_3 n24_4 n24_5 n24_6 n24_7 n25_3 n25_4), fun b j hb => (yz42859.2 b j hb).trans (hfr.2 b j hb)⟩
    obtain ⟨z42860, qz42860, rz42860⟩ := xz42859_0
    refine lv_goto (tgt := 60) hx hb dX3_whole_23 (by decide) ?_
    refine lv_aload_n hx hb dX3_whole_60 rfl (lv_at hl 0 rfl) ?_
    refine t_get (C := RX3) (T := TX3) (N := 13) X hT m0 g0 rfl rfl 3 (by decide) qw_163 inlX3 rfl dX3_whole_61 (fun v42861 hv42861 ov42861 => ?_)
    obtain rfl : v42861 = .int z42860 := hv42861.symm.trans qz42860
    refine lv_if_eq (tgt := 69) hx hb dX3_whole_64 (by decide) (fun c42862 => ?_) (fun c42862 => ?_)
    · have w42863 := cv_eq (rfl : z42860.toInt = z42860.toInt) (by decide : (0 : Int32).toInt = 0) c42862
      exfalso
      omega
    · have w42864 := cv_ne (rfl : z42860.toInt = z42860.toInt) (by decide : (0 : Int32).toInt = 0) c42862
      refine lv_iload_n hx hb dX3_whole_67 rfl (lv_at hl 1 rfl) ?_
      exact t_iret hQ X hT (⟨(by omega), hfr⟩) (Nat.le_of_ble_eq_true rfl) (Nat.le_of_ble_eq_true rfl) dX3_whole_68
