set_option maxHeartbeats 4000000 in
set_option maxRecDepth 100000 in
theorem kt144_X3_name (l : Launch) (G : KG) (tag : Nat → Nat) (L : List Nat) (Fo : Nat → va_E) (ho : okT G ttC tag L Fo) (p0 : Nat) (p1 : Int32) (x0 : Nat) (x1 : Nat) (x2 : Nat) (x3 : Nat) (x4 : Nat) (x5 : Nat) (m0 : p0 ∈ L) (g0 : tag p0 = 25) (h1 : 7 ≤ p1.toInt ∧ p1.toInt ≤ 7) (mx0 : x0 ∈ L) (gx0 : tag x0 = 24) (pf0 : fld Fo p0 0 = .ref x0) (mx1 : x1 ∈ L) (gx1 : tag x1 = 18) (pf1 : fld Fo p0 1 = .ref x1) (mx2 : x2 ∈ L) (gx2 : tag x2 = 19) (pf2 : fld Fo p0 2 = .ref x2) (mx3 : x3 ∈ L) (gx3 : tag x3 = 1) (pf3 : fld Fo x0 0 = .ref x3) (mx4 : x4 ∈ L) (gx4 : tag x4 = 14) (pf4 : fld Fo p0 10 = .ref x4) (mx5 : x5 ∈ L) (gx5 : tag x5 = 15) (pf5 : fld Fo p0 11 = .ref x5) (hrel : NSR Fo x4 x5) : TMi l yX3_name cX3_name 3 (some .int) { frames := 6, cells := 0, slots := 0, locals := 128 } G ttC tag L Fo [.ref p0, .int p1] (fun r F1 => (0 ≤ r.toInt ∧ r.toInt ≤ 5) ∧ ((∀ b j : Nat, (tag b ≠ 24 ∨ j ≠ 2) → (tag b ≠ 24 ∨ j ≠ 3) → (tag b ≠ 24 ∨ j ≠ 4) → (tag b ≠ 24 ∨ j ≠ 5) → (tag b ≠ 24 ∨ j ≠ 6) → (tag b ≠ 24 ∨ j ≠ 7) → (tag b ≠ 25 ∨ j ≠ 3) → (tag b ≠ 25 ∨ j ≠ 4) → fld F1 b j = fld Fo b j) ∧ EF tag F1 Fo) ∧ (NSR F1 x4 x5)) := by
  refine t_bodyi (y := yX3_name) (cd := cX3_name) (mL := 3) (rt := (some .int)) (rm := { frames := 6, cells := 0, slots := 0, locals := 128 }) (av := [.ref p0, .int p1]) (by decide) (Nat.le_of_ble_eq_true rfl) ho ?_
  intro p e s m args below meth c ls A Q hQ X hT hl
  have hx := X.1.1
  have hb := X.1.2.1
  have hl : lv_has ls 3 [(0, .ref p0), (1, .int p1)] := hl
  obtain ⟨F, hFo⟩ : ∃ F : Nat → va_E, F = Fo := ⟨_, rfl⟩
  rw [← hFo] at hT pf0 pf1 pf2 pf3 pf4 pf5 hrel
  have hfr : (∀ b j : Nat, (tag b ≠ 24 ∨ j ≠ 2) → (tag b ≠ 24 ∨ j ≠ 3) → (tag b ≠ 24 ∨ j ≠ 4) → (tag b ≠ 24 ∨ j ≠ 5) → (tag b ≠ 24 ∨ j ≠ 6) → (tag b ≠ 24 ∨ j ≠ 7) → (tag b ≠ 25 ∨ j ≠ 3) → (tag b ≠ 25 ∨ j ≠ 4) → fld F b j = fld Fo b j) ∧ EF tag F Fo := by
    rw [hFo]
    exact ⟨by intros; rfl, fun _ _ _ => rfl⟩
  refine lv_aload_n hx hb dX3_name_0 rfl (lv_at hl 0 rfl) ?_
  refine t_get (C := RX3) (T := TX3) (N := 13) X hT m0 g0 rfl rfl 0 (by decide) qw_73 inlX3 rfl dX3_name_1 (fun v59110 hv59110 ov59110 => ?_)
  obtain rfl : v59110 = .ref x0 := hv59110.symm.trans pf0
  refine t_get (C := RX8) (T := TX8) (N := 8) X hT mx0 gx0 rfl rfl 3 (by decide) qw_170 inlX8 rfl dX3_name_4 (fun v59111 hv59111 ov59111 => ?_)
  obtain ⟨z59112, rfl, rz59112⟩ := okV_i ov59111
  refine lv_iconst (v := 1) hx hb dX3_name_7 (by decide) ?_
  refine lv_icmp_ne (tgt := 19) hx hb dX3_name_8 (by decide) (fun c59113 => ?_) (fun c59113 => ?_)
  · have w59114 := cv_ne (rfl : z59112.toInt = z59112.toInt) (by decide : (1 : Int32).toInt = 1) c59113
    refine lv_aload_n hx hb dX3_name_19 rfl (lv_at hl 0 rfl) ?_
    refine lv_iconst (v := 1) hx hb dX3_name_20 (by decide) ?_
    refine lv_aload_n hx hb dX3_name_21 rfl (lv_at hl 0 rfl) ?_
    refine t_get (C := RX3) (T := TX3) (N := 13) X hT m0 g0 rfl rfl 0 (by decide) qw_73 inlX3 rfl dX3_name_22 (fun v59115 hv59115 ov59115 => ?_)
    obtain rfl : v59115 = .ref x0 := hv59115.symm.trans pf0
    refine t_get (C := RX8) (T := TX8) (N := 8) X hT mx0 gx0 rfl rfl 4 (by decide) qw_227 inlX8 rfl dX3_name_25 (fun v59116 hv59116 ov59116 => ?_)
    obtain ⟨z59117, rfl, rz59117⟩ := okV_i ov59116
    refine t_cVv (n := 2) (C := RX3) (T := TX3) (N := 13) (As := [.int 1, .int z59117]) (rest := []) X hT (kt111_X3_fail l G tag L F hT.2.2.2 p0 1 z59117 m0 g0 (by decide)) m0 g0 rfl rfl qw_287 qw_288 qw_289 qw_28 qw_290 ⟨rfl, by decide +kernel, by decide +kernel, by decide +kernel⟩ ⟨Nat.le_of_ble_eq_true rfl, Nat.le_of_ble_eq_true rfl⟩ hl rfl rfl (Nat.le_of_ble_eq_true rfl) dX3_name_28 ⟨Nat.le_of_ble_eq_true rfl, Nat.le_of_ble_eq_true rfl⟩ (fun F H locs hT hz59118 => ?_)
    obtain ⟨yz59118, xz59118_0⟩ := hz59118
    have pf0 := (yz59118.1 _ 0 (Or.inr (by decide)) (Or.inr (by decide))).trans pf0
    have pf1 := (yz59118.1 _ 1 (Or.inr (by decide)) (Or.inr (by decide))).trans pf1
    have pf2 := (yz59118.1 _ 2 (Or.inr (by decide)) (Or.inr (by decide))).trans pf2
    have pf3 := (yz59118.1 _ 0 (Or.inr (by decide)) (Or.inr (by decide))).trans pf3
    have pf4 := (yz59118.1 _ 10 (Or.inr (by decide)) (Or.inr (by decide))).trans pf4
    have pf5 := (yz59118.1 _ 11 (Or.inr (by decide)) (Or.inr (by decide))).trans pf5
    have hv59111 := (yz59118.1 _ 3 (Or.inl (by rw [gx0]; decide)) (Or.inr (by decide))).trans hv59111
    have hv59116 := (yz59118.1 _ 4 (Or.inr (by decide)) (Or.inl (by rw [gx0]; decide))).trans hv59116
    have hfr : (∀ b j : Nat, (tag b ≠ 24 ∨ j ≠ 2) → (tag b ≠ 24 ∨ j ≠ 3) → (tag b ≠ 24 ∨ j ≠ 4) → (tag b ≠ 24 ∨ j ≠ 5) → (tag b ≠ 24 ∨ j ≠ 6) → (tag b ≠ 24 ∨ j ≠ 7) → (tag b ≠ 25 ∨ j ≠ 3) → (tag b ≠ 25 ∨ j ≠ 4) → fld F b j = fld Fo b j) ∧ EF tag F Fo := ⟨fun b j n24_2 n24_3 n24_4 n24_5 n24_6 n24_7 n25_3 n25_4 => (yz59118.1 b j n25_3 n25_4).trans (hfr.1 b j n24_2 n24_3 n24_4 n24_5 n24_6 n24_7 n25_3 n25_4), fun b j hb => (yz59118.2 b j hb).trans (hfr.2 b j hb)⟩
    have hrel := nsr_of (fun j => yz59118.2 _ j (Or.inl gx4)) (fun j => yz59118.2 _ j (Or.inr gx5)) hrel
    obtain ⟨z59119, qz59119, rz59119⟩ := xz59118_0
    refine lv_aload_n hx hb dX3_name_31 rfl (lv_at hl 0 rfl) ?_
    refine t_cVi (n := 0) (C := RX3) (T := TX3) (N := 13) (As := []) (rest := []) X hT (kt113_X3_findName l G tag L F hT.2.2.2 p0 x0 x1 x2 x3 x4 x5 m0 g0 mx0 gx0 pf0 mx1 gx1 pf1 mx2 gx2 pf2 mx3 gx3 pf3 mx4 gx4 pf4 mx5 gx5 pf5) m0 g0 rfl rfl qw_361 qw_362 qw_363 qw_28 qw_364 ⟨rfl, by decide +kernel, by decide +kernel, by decide +kernel⟩ ⟨Nat.le_of_ble_eq_true rfl, Nat.le_of_ble_eq_true rfl⟩ hl rfl rfl (Nat.le_of_ble_eq_true rfl) dX3_name_32 ⟨Nat.le_of_ble_eq_true rfl, Nat.le_of_ble_eq_true rfl⟩ (fun z59120 F9 H locs hT hz59120 => ?_)
    obtain ⟨fz59120, hz59120⟩ := hz59120
    rw [fz59120] at hT
    refine lv_istore_n (lv' := [(2, .int z59120), (0, .ref p0), (1, .int p1)]) hx hb dX3_name_35 rfl hl (by decide) rfl (fun ls hl => ?_)
    refine lv_iload_n hx hb dX3_name_36 rfl (lv_at hl 0 rfl) ?_
    refine lv_iconst (v := (-1)) hx hb dX3_name_37 (by decide) ?_
    refine lv_icmp_eq (tgt := 51) hx hb dX3_name_38 (by decide) (fun c59121 => ?_) (fun c59121 => ?_)
    · have w59122 := cv_eq (rfl : z59120.toInt = z59120.toInt) (by decide : ((-1) : Int32).toInt = (-1)) c59121
      refine lv_aload_n hx hb dX3_name_51 rfl (lv_at hl 1 rfl) ?_
      refine lv_iconst (v := 2) hx hb dX3_name_52 (by decide) ?_
      refine lv_aload_n hx hb dX3_name_53 rfl (lv_at hl 1 rfl) ?_
      refine t_get (C := RX3) (T := TX3) (N := 13) X hT m0 g0 rfl rfl 0 (by decide) qw_73 inlX3 rfl dX3_name_54 (fun v59123 hv59123 ov59123 => ?_)
      obtain rfl : v59123 = .ref x0 := hv59123.symm.trans pf0
      refine t_get (C := RX8) (T := TX8) (N := 8) X hT mx0 gx0 rfl rfl 4 (by decide) qw_227 inlX8 rfl dX3_name_57 (fun v59124 hv59124 ov59124 => ?_)
      obtain rfl : v59124 = .int z59117 := hv59124.symm.trans hv59116
      refine t_cVv (n := 2) (C := RX3) (T := TX3) (N := 13) (As := [.int 2, .int z59117]) (rest := []) X hT (kt111_X3_fail l G tag L F hT.2.2.2 p0 2 z59117 m0 g0 (by decide)) m0 g0 rfl rfl qw_287 qw_288 qw_289 qw_28 qw_290 ⟨rfl, by decide +kernel, by decide +kernel, by decide +kernel⟩ ⟨Nat.le_of_ble_eq_true rfl, Nat.le_of_ble_eq_true rfl⟩ hl rfl rfl (Nat.le_of_ble_eq_true rfl) dX3_name_60 ⟨Nat.le_of_ble_eq_true rfl, Nat.le_of_ble_eq_true rfl⟩ (fun F H locs hT hz59125 => ?_)
      obtain ⟨yz59125, xz59125_0⟩ := hz59125
      have pf0 := (yz59125.1 _ 0 (Or.inr (by decide)) (Or.inr (by decide))).trans pf0
      have pf1 := (yz59125.1 _ 1 (Or.inr (by decide)) (Or.inr (by decide))).trans pf1
      have pf2 := (yz59125.1 _ 2 (Or.inr (by decide)) (Or.inr (by decide))).trans pf2
      have pf3 := (yz59125.1 _ 0 (Or.inr (by decide)) (Or.inr (by decide))).trans pf3
      have pf4 := (yz59125.1 _ 10 (Or.inr (by decide)) (Or.inr (by decide))).trans pf4
      have pf5 := (yz59125.1 _ 11 (Or.inr (by decide)) (Or.inr (by decide))).trans pf5
      have hv59111 := (yz59125.1 _ 3 (Or.inl (by rw [gx0]; decide)) (Or.inr (by decide))).trans hv59111
      have hv59116 := (yz59125.1 _ 4 (Or.inr (by decide)) (Or.inl (by rw [gx0]; decide))).trans hv59116
      have hfr : (∀ b j : Nat, (tag b ≠ 24 ∨ j ≠ 2) → (tag b ≠ 24 ∨ j ≠ 3) → (tag b ≠ 24 ∨ j ≠ 4) → (tag b ≠ 24 ∨ j ≠ 5) → (tag b ≠ 24 ∨ j ≠ 6) → (tag b ≠ 24 ∨ j ≠ 7) → (tag b ≠ 25 ∨ j ≠ 3) → (tag b ≠ 25 ∨ j ≠ 4) → fld F b j = fld Fo b j) ∧ EF tag F Fo := ⟨fun b j n24_2 n24_3 n24_4 n24_5 n24_6 n24_7 n25_3 n25_4 => (yz59125.1 b j n25_3 n25_4).trans (hfr.1 b j n24_2 n24_3 n24_4 n24_5 n24_6 n24_7 n25_3 n25_4), fun b j hb => (yz59125.2 b j hb).trans (hfr.2 b j hb)⟩
      have hrel := nsr_of (fun j => yz59125.2 _ j (Or.inl gx4)) (fun j => yz59125.2 _ j (Or.inr gx5)) hrel
      obtain ⟨z59126, qz59126, rz59126⟩ := xz59125_0
      refine lv_aload_n hx hb dX3_name_63 rfl (lv_at hl 1 rfl) ?_
      refine t_get (C := RX3) (T := TX3) (N := 13) X hT m0 g0 rfl rfl 3 (by decide) qw_163 inlX3 rfl dX3_name_64 (fun v59127 hv59127 ov59127 => ?_)
      obtain rfl : v59127 = .int z59126 := hv59127.symm.trans qz59126
      refine lv_if_ne (tgt := 75) hx hb dX3_name_67 (by decide) (fun c59128 => ?_) (fun c59128 => ?_)
      · have w59129 := cv_ne (rfl : z59126.toInt = z59126.toInt) (by decide : (0 : Int32).toInt = 0) c59128
        refine lv_iconst (v := 0) hx hb dX3_name_75 (by decide) ?_
        exact t_iret hQ X hT (⟨(by decide), hfr, hrel⟩) (Nat.le_of_ble_eq_true rfl) (Nat.le_of_ble_eq_true rfl) dX3_name_76
      · have w59130 := cv_eq (rfl : z59126.toInt = z59126.toInt) (by decide : (0 : Int32).toInt = 0) c59128
        exfalso
        omega
    · have w59131 := cv_ne (rfl : z59120.toInt = z59120.toInt) (by decide : ((-1) : Int32).toInt = (-1)) c59121
      refine lv_aload_n hx hb dX3_name_41 rfl (lv_at hl 1 rfl) ?_
      refine t_get (C := RX3) (T := TX3) (N := 13) X hT m0 g0 rfl rfl 10 (by decide) qw_75 inlX3 rfl dX3_name_42 (fun v59132 hv59132 ov59132 => ?_)
      obtain rfl : v59132 = .ref x4 := hv59132.symm.trans pf4
      refine lv_iload_n hx hb dX3_name_45 rfl (lv_at hl 0 rfl) ?_
      refine t_ild X hT mx4 gx4 rfl (by omega) dX3_name_46 (fun z59133 vz59133 rz59133 => ?_)
      have rz59133 : (-2147483648) ≤ z59133.toInt ∧ z59133.toInt ≤ 2147483647 := rz59133
      refine lv_iload_n hx hb dX3_name_47 rfl (lv_at hl 2 rfl) ?_
      refine lv_icmp_eq (tgt := 63) hx hb dX3_name_48 (by decide) (fun c59134 => ?_) (fun c59134 => ?_)
      · have w59135 := cv_eq (rfl : z59133.toInt = z59133.toInt) (rfl : p1.toInt = p1.toInt) c59134
        refine lv_aload_n hx hb dX3_name_63 rfl (lv_at hl 1 rfl) ?_
        refine t_get (C := RX3) (T := TX3) (N := 13) X hT m0 g0 rfl rfl 3 (by decide) qw_163 inlX3 rfl dX3_name_64 (fun v59136 hv59136 ov59136 => ?_)
        obtain rfl : v59136 = .int z59119 := hv59136.symm.trans qz59119
        refine lv_if_ne (tgt := 75) hx hb dX3_name_67 (by decide) (fun c59137 => ?_) (fun c59137 => ?_)
        · have w59138 := cv_ne (rfl : z59119.toInt = z59119.toInt) (by decide : (0 : Int32).toInt = 0) c59137
          refine lv_iconst (v := 0) hx hb dX3_name_75 (by decide) ?_
          exact t_iret hQ X hT (⟨(by decide), hfr, hrel⟩) (Nat.le_of_ble_eq_true rfl) (Nat.le_of_ble_eq_true rfl) dX3_name_76
        · have w59139 := cv_eq (rfl : z59119.toInt = z59119.toInt) (by decide : (0 : Int32).toInt = 0) c59137
          exfalso
          omega
      · have w59140 := cv_ne (rfl : z59133.toInt = z59133.toInt) (rfl : p1.toInt = p1.toInt) c59134
        refine lv_aload_n hx hb dX3_name_51 rfl (lv_at hl 1 rfl) ?_
        refine lv_iconst (v := 2) hx hb dX3_name_52 (by decide) ?_
        refine lv_aload_n hx hb dX3_name_53 rfl (lv_at hl 1 rfl) ?_
        refine t_get (C := RX3) (T := TX3) (N := 13) X hT m0 g0 rfl rfl 0 (by decide) qw_73 inlX3 rfl dX3_name_54 (fun v59141 hv59141 ov59141 => ?_)
        obtain rfl : v59141 = .ref x0 := hv59141.symm.trans pf0
        refine t_get (C := RX8) (T := TX8) (N := 8) X hT mx0 gx0 rfl rfl 4 (by decide) qw_227 inlX8 rfl dX3_name_57 (fun v59142 hv59142 ov59142 => ?_)
        obtain rfl : v59142 = .int z59117 := hv59142.symm.trans hv59116
        refine t_cVv (n := 2) (C := RX3) (T := TX3) (N := 13) (As := [.int 2, .int z59117]) (rest := []) X hT (kt111_X3_fail l G tag L F hT.2.2.2 p0 2 z59117 m0 g0 (by decide)) m0 g0 rfl rfl qw_287 qw_288 qw_289 qw_28 qw_290 ⟨rfl, by decide +kernel, by decide +kernel, by decide +kernel⟩ ⟨Nat.le_of_ble_eq_true rfl, Nat.le_of_ble_eq_true rfl⟩ hl rfl rfl (Nat.le_of_ble_eq_true rfl) dX3_name_60 ⟨Nat.le_of_ble_eq_true rfl, Nat.le_of_ble_eq_true rfl⟩ (fun F H locs hT hz59143 => ?_)
        obtain ⟨yz59143, xz59143_0⟩ := hz59143
        have pf0 := (yz59143.1 _ 0 (Or.inr (by decide)) (Or.inr (by decide))).trans pf0
        have pf1 := (yz59143.1 _ 1 (Or.inr (by decide)) (Or.inr (by decide))).trans pf1
        have pf2 := (yz59143.1 _ 2 (Or.inr (by decide)) (Or.inr (by decide))).trans pf2
        have pf3 := (yz59143.1 _ 0 (Or.inr (by decide)) (Or.inr (by decide))).trans pf3
        have pf4 := (yz59143.1 _ 10 (Or.inr (by decide)) (Or.inr (by decide))).trans pf4
        have pf5 := (yz59143.1 _ 11 (Or.inr (by decide)) (Or.inr (by decide))).trans pf5
        have hv59111 := (yz59143.1 _ 3 (Or.inl (by rw [gx0]; decide)) (Or.inr (by decide))).trans hv59111
        have hv59116 := (yz59143.1 _ 4 (Or.inr (by decide)) (Or.inl (by rw [gx0]; decide))).trans hv59116
        have vz59133 := (yz59143.2 _ _ (Or.inl gx4)).trans vz59133
        have hfr : (∀ b j : Nat, (tag b ≠ 24 ∨ j ≠ 2) → (tag b ≠ 24 ∨ j ≠ 3) → (tag b ≠ 24 ∨ j ≠ 4) → (tag b ≠ 24 ∨ j ≠ 5) → (tag b ≠ 24 ∨ j ≠ 6) → (tag b ≠ 24 ∨ j ≠ 7) → (tag b ≠ 25 ∨ j ≠ 3) → (tag b ≠ 25 ∨ j ≠ 4) → fld F b j = fld Fo b j) ∧ EF tag F Fo := ⟨fun b j n24_2 n24_3 n24_4 n24_5 n24_6 n24_7 n25_3 n25_4 => (yz59143.1 b j n25_3 n25_4).trans (hfr.1 b j n24_2 n24_3 n24_4 n24_5 n24_6 n24_7 n25_3 n25_4), fun b j hb => (yz59143.2 b j hb).trans (hfr.2 b j hb)⟩
        have hrel := nsr_of (fun j => yz59143.2 _ j (Or.inl gx4)) (fun j => yz59143.2 _ j (Or.inr gx5)) hrel
        obtain ⟨z59144, qz59144, rz59144⟩ := xz59143_0
        refine lv_aload_n hx hb dX3_name_63 rfl (lv_at hl 1 rfl) ?_
        refine t_get (C := RX3) (T := TX3) (N := 13) X hT m0 g0 rfl rfl 3 (by decide) qw_163 inlX3 rfl dX3_name_64 (fun v59145 hv59145 ov59145 => ?_)
        obtain rfl : v59145 = .int z59144 := hv59145.symm.trans qz59144
        refine lv_if_ne (tgt := 75) hx hb dX3_name_67 (by decide) (fun c59146 => ?_) (fun c59146 => ?_)
        · have w59147 := cv_ne (rfl : z59144.toInt = z59144.toInt) (by decide : (0 : Int32).toInt = 0) c59146
          refine lv_iconst (v := 0) hx hb dX3_name_75 (by decide) ?_
          exact t_iret hQ X hT (⟨(by decide), hfr, hrel⟩) (Nat.le_of_ble_eq_true rfl) (Nat.le_of_ble_eq_true rfl) dX3_name_76
        · have w59148 := cv_eq (rfl : z59144.toInt = z59144.toInt) (by decide : (0 : Int32).toInt = 0) c59146
          exfalso
          omega
  · have w59149 := cv_eq (rfl : z59112.toInt = z59112.toInt) (by decide : (1 : Int32).toInt = 1) c59113
    refine lv_aload_n hx hb dX3_name_11 rfl (lv_at hl 0 rfl) ?_
    refine t_cVi (n := 0) (C := RX3) (T := TX3) (N := 13) (As := []) (rest := []) X hT (kt108_X3_lineSort l G tag L F hT.2.2.2 p0 x0 x1 x2 x3 x4 x5 m0 g0 mx0 gx0 pf0 mx1 gx1 pf1 mx2 gx2 pf2 mx3 gx3 pf3 mx4 gx4 pf4 mx5 gx5 pf5) m0 g0 rfl rfl qw_230 qw_231 qw_232 qw_28 qw_233 ⟨rfl, by decide +kernel, by decide +kernel, by decide +kernel⟩ ⟨Nat.le_of_ble_eq_true rfl, Nat.le_of_ble_eq_true rfl⟩ hl rfl rfl (Nat.le_of_ble_eq_true rfl) dX3_name_12 ⟨Nat.le_of_ble_eq_true rfl, Nat.le_of_ble_eq_true rfl⟩ (fun z59150 F9 H locs hT hz59150 => ?_)
    obtain ⟨fz59150, hz59150⟩ := hz59150
    rw [fz59150] at hT
    refine lv_iconst (v := (-1)) hx hb dX3_name_15 (by decide) ?_
    refine lv_icmp_eq (tgt := 31) hx hb dX3_name_16 (by decide) (fun c59151 => ?_) (fun c59151 => ?_)
    · have w59152 := cv_eq (rfl : z59150.toInt = z59150.toInt) (by decide : ((-1) : Int32).toInt = (-1)) c59151
      refine lv_aload_n hx hb dX3_name_31 rfl (lv_at hl 0 rfl) ?_
      refine t_cVi (n := 0) (C := RX3) (T := TX3) (N := 13) (As := []) (rest := []) X hT (kt113_X3_findName l G tag L F hT.2.2.2 p0 x0 x1 x2 x3 x4 x5 m0 g0 mx0 gx0 pf0 mx1 gx1 pf1 mx2 gx2 pf2 mx3 gx3 pf3 mx4 gx4 pf4 mx5 gx5 pf5) m0 g0 rfl rfl qw_361 qw_362 qw_363 qw_28 qw_364 ⟨rfl, by decide +kernel, by decide +kernel, by decide +kernel⟩ ⟨Nat.le_of_ble_eq_true rfl, Nat.le_of_ble_eq_true rfl⟩ hl rfl rfl (Nat.le_of_ble_eq_true rfl) dX3_name_32 ⟨Nat.le_of_ble_eq_true rfl, Nat.le_of_ble_eq_true rfl⟩ (fun z59153 F9 H locs hT hz59153 => ?_)
      obtain ⟨fz59153, hz59153⟩ := hz59153
      rw [fz59153] at hT
      refine lv_istore_n (lv' := [(2, .int z59153), (0, .ref p0), (1, .int p1)]) hx hb dX3_name_35 rfl hl (by decide) rfl (fun ls hl => ?_)
      refine lv_iload_n hx hb dX3_name_36 rfl (lv_at hl 0 rfl) ?_
      refine lv_iconst (v := (-1)) hx hb dX3_name_37 (by decide) ?_
      refine lv_icmp_eq (tgt := 51) hx hb dX3_name_38 (by decide) (fun c59154 => ?_) (fun c59154 => ?_)
      · have w59155 := cv_eq (rfl : z59153.toInt = z59153.toInt) (by decide : ((-1) : Int32).toInt = (-1)) c59154
        refine lv_aload_n hx hb dX3_name_51 rfl (lv_at hl 1 rfl) ?_
        refine lv_iconst (v := 2) hx hb dX3_name_52 (by decide) ?_
        refine lv_aload_n hx hb dX3_name_53 rfl (lv_at hl 1 rfl) ?_
        refine t_get (C := RX3) (T := TX3) (N := 13) X hT m0 g0 rfl rfl 0 (by decide) qw_73 inlX3 rfl dX3_name_54 (fun v59156 hv59156 ov59156 => ?_)
        obtain rfl : v59156 = .ref x0 := hv59156.symm.trans pf0
        refine t_get (C := RX8) (T := TX8) (N := 8) X hT mx0 gx0 rfl rfl 4 (by decide) qw_227 inlX8 rfl dX3_name_57 (fun v59157 hv59157 ov59157 => ?_)
        obtain ⟨z59158, rfl, rz59158⟩ := okV_i ov59157
        refine t_cVv (n := 2) (C := RX3) (T := TX3) (N := 13) (As := [.int 2, .int z59158]) (rest := []) X hT (kt111_X3_fail l G tag L F hT.2.2.2 p0 2 z59158 m0 g0 (by decide)) m0 g0 rfl rfl qw_287 qw_288 qw_289 qw_28 qw_290 ⟨rfl, by decide +kernel, by decide +kernel, by decide +kernel⟩ ⟨Nat.le_of_ble_eq_true rfl, Nat.le_of_ble_eq_true rfl⟩ hl rfl rfl (Nat.le_of_ble_eq_true rfl) dX3_name_60 ⟨Nat.le_of_ble_eq_true rfl, Nat.le_of_ble_eq_true rfl⟩ (fun F H locs hT hz59159 => ?_)
        obtain ⟨yz59159, xz59159_0⟩ := hz59159
        have pf0 := (yz59159.1 _ 0 (Or.inr (by decide)) (Or.inr (by decide))).trans pf0
        have pf1 := (yz59159.1 _ 1 (Or.inr (by decide)) (Or.inr (by decide))).trans pf1
        have pf2 := (yz59159.1 _ 2 (Or.inr (by decide)) (Or.inr (by decide))).trans pf2
        have pf3 := (yz59159.1 _ 0 (Or.inr (by decide)) (Or.inr (by decide))).trans pf3
        have pf4 := (yz59159.1 _ 10 (Or.inr (by decide)) (Or.inr (by decide))).trans pf4
        have pf5 := (yz59159.1 _ 11 (Or.inr (by decide)) (Or.inr (by decide))).trans pf5
        have hv59111 := (yz59159.1 _ 3 (Or.inl (by rw [gx0]; decide)) (Or.inr (by decide))).trans hv59111
        have hv59157 := (yz59159.1 _ 4 (Or.inr (by decide)) (Or.inl (by rw [gx0]; decide))).trans hv59157
        have hfr : (∀ b j : Nat, (tag b ≠ 24 ∨ j ≠ 2) → (tag b ≠ 24 ∨ j ≠ 3) → (tag b ≠ 24 ∨ j ≠ 4) → (tag b ≠ 24 ∨ j ≠ 5) → (tag b ≠ 24 ∨ j ≠ 6) → (tag b ≠ 24 ∨ j ≠ 7) → (tag b ≠ 25 ∨ j ≠ 3) → (tag b ≠ 25 ∨ j ≠ 4) → fld F b j = fld Fo b j) ∧ EF tag F Fo := ⟨fun b j n24_2 n24_3 n24_4 n24_5 n24_6 n24_7 n25_3 n25_4 => (yz59159.1 b j n25_3 n25_4).trans (hfr.1 b j n24_2 n24_3 n24_4 n24_5 n24_6 n24_7 n25_3 n25_4), fun b j hb => (yz59159.2 b j hb).trans (hfr.2 b j hb)⟩
        have hrel := nsr_of (fun j => yz59159.2 _ j (Or.inl gx4)) (fun j => yz59159.2 _ j (Or.inr gx5)) hrel
        obtain ⟨z59160, qz59160, rz59160⟩ := xz59159_0
        refine lv_aload_n hx hb dX3_name_63 rfl (lv_at hl 1 rfl) ?_
        refine t_get (C := RX3) (T := TX3) (N := 13) X hT m0 g0 rfl rfl 3 (by decide) qw_163 inlX3 rfl dX3_name_64 (fun v59161 hv59161 ov59161 => ?_)
        obtain rfl : v59161 = .int z59160 := hv59161.symm.trans qz59160
        refine lv_if_ne (tgt := 75) hx hb dX3_name_67 (by decide) (fun c59162 => ?_) (fun c59162 => ?_)
        · have w59163 := cv_ne (rfl : z59160.toInt = z59160.toInt) (by decide : (0 : Int32).toInt = 0) c59162
          refine lv_iconst (v := 0) hx hb dX3_name_75 (by decide) ?_
          exact t_iret hQ X hT (⟨(by decide), hfr, hrel⟩) (Nat.le_of_ble_eq_true rfl) (Nat.le_of_ble_eq_true rfl) dX3_name_76
        · have w59164 := cv_eq (rfl : z59160.toInt = z59160.toInt) (by decide : (0 : Int32).toInt = 0) c59162
          exfalso
          omega
      · have w59165 := cv_ne (rfl : z59153.toInt = z59153.toInt) (by decide : ((-1) : Int32).toInt = (-1)) c59154
        refine lv_aload_n hx hb dX3_name_41 rfl (lv_at hl 1 rfl) ?_
        refine t_get (C := RX3) (T := TX3) (N := 13) X hT m0 g0 rfl rfl 10 (by decide) qw_75 inlX3 rfl dX3_name_42 (fun v59166 hv59166 ov59166 => ?_)
        obtain rfl : v59166 = .ref x4 := hv59166.symm.trans pf4
        refine lv_iload_n hx hb dX3_name_45 rfl (lv_at hl 0 rfl) ?_
        refine t_ild X hT mx4 gx4 rfl (by omega) dX3_name_46 (fun z59167 vz59167 rz59167 => ?_)
        have rz59167 : (-2147483648) ≤ z59167.toInt ∧ z59167.toInt ≤ 2147483647 := rz59167
        refine lv_iload_n hx hb dX3_name_47 rfl (lv_at hl 2 rfl) ?_
        refine lv_icmp_eq (tgt := 63) hx hb dX3_name_48 (by decide) (fun c59168 => ?_) (fun c59168 => ?_)
        · have w59169 := cv_eq (rfl : z59167.toInt = z59167.toInt) (rfl : p1.toInt = p1.toInt) c59168
          refine lv_aload_n hx hb dX3_name_63 rfl (lv_at hl 1 rfl) ?_
          refine t_get (C := RX3) (T := TX3) (N := 13) X hT m0 g0 rfl rfl 3 (by decide) qw_163 inlX3 rfl dX3_name_64 (fun v59170 hv59170 ov59170 => ?_)
          obtain ⟨z59171, rfl, rz59171⟩ := okV_i ov59170
          refine lv_if_ne (tgt := 75) hx hb dX3_name_67 (by decide) (fun c59172 => ?_) (fun c59172 => ?_)
          · have w59173 := cv_ne (rfl : z59171.toInt = z59171.toInt) (by decide : (0 : Int32).toInt = 0) c59172
            refine lv_iconst (v := 0) hx hb dX3_name_75 (by decide) ?_
            exact t_iret hQ X hT (⟨(by decide), hfr, hrel⟩) (Nat.le_of_ble_eq_true rfl) (Nat.le_of_ble_eq_true rfl) dX3_name_76
          · have w59174 := cv_eq (rfl : z59171.toInt = z59171.toInt) (by decide : (0 : Int32).toInt = 0) c59172
            refine lv_iload_n hx hb dX3_name_70 rfl (lv_at hl 0 rfl) ?_
            refine lv_iconst (v := (-1)) hx hb dX3_name_71 (by decide) ?_
            refine lv_icmp_ne (tgt := 77) hx hb dX3_name_72 (by decide) (fun c59175 => ?_) (fun c59175 => ?_)
            · have w59176 := cv_ne (rfl : z59153.toInt = z59153.toInt) (by decide : ((-1) : Int32).toInt = (-1)) c59175
              refine lv_aload_n hx hb dX3_name_77 rfl (lv_at hl 1 rfl) ?_
              refine t_get (C := RX3) (T := TX3) (N := 13) X hT m0 g0 rfl rfl 0 (by decide) qw_73 inlX3 rfl dX3_name_78 (fun v59177 hv59177 ov59177 => ?_)
              obtain rfl : v59177 = .ref x0 := hv59177.symm.trans pf0
              refine t_cVv (n := 0) (C := RX8) (T := TX8) (N := 8) (As := []) (rest := []) X hT (kt98_X8_advance l G tag L F hT.2.2.2 x0 x3 mx0 gx0 mx3 gx3 pf3) mx0 gx0 rfl rfl qw_305 qw_197 qw_198 qw_72 qw_199 ⟨rfl, by decide +kernel, by decide +kernel, by decide +kernel⟩ ⟨Nat.le_of_ble_eq_true rfl, Nat.le_of_ble_eq_true rfl⟩ hl rfl rfl (Nat.le_of_ble_eq_true rfl) dX3_name_81 ⟨Nat.le_of_ble_eq_true rfl, Nat.le_of_ble_eq_true rfl⟩ (fun F H locs hT hz59178 => ?_)
              have yz59178 := hz59178
              have pf0 := (yz59178.1 _ 0 (Or.inr (by decide)) (Or.inr (by decide)) (Or.inr (by decide)) (Or.inr (by decide)) (Or.inr (by decide)) (Or.inr (by decide))).trans pf0
              have pf1 := (yz59178.1 _ 1 (Or.inr (by decide)) (Or.inr (by decide)) (Or.inr (by decide)) (Or.inr (by decide)) (Or.inr (by decide)) (Or.inr (by decide))).trans pf1
              have pf2 := (yz59178.1 _ 2 (Or.inl (by rw [g0]; decide)) (Or.inr (by decide)) (Or.inr (by decide)) (Or.inr (by decide)) (Or.inr (by decide)) (Or.inr (by decide))).trans pf2
              have pf3 := (yz59178.1 _ 0 (Or.inr (by decide)) (Or.inr (by decide)) (Or.inr (by decide)) (Or.inr (by decide)) (Or.inr (by decide)) (Or.inr (by decide))).trans pf3
              have pf4 := (yz59178.1 _ 10 (Or.inr (by decide)) (Or.inr (by decide)) (Or.inr (by decide)) (Or.inr (by decide)) (Or.inr (by decide)) (Or.inr (by decide))).trans pf4
              have pf5 := (yz59178.1 _ 11 (Or.inr (by decide)) (Or.inr (by decide)) (Or.inr (by decide)) (Or.inr (by decide)) (Or.inr (by decide)) (Or.inr (by decide))).trans pf5
              have vz59167 := (yz59178.2 _ _ (Or.inl gx4)).trans vz59167
              have hv59170 := (yz59178.1 _ 3 (Or.inr (by decide)) (Or.inl (by rw [g0]; decide)) (Or.inr (by decide)) (Or.inr (by decide)) (Or.inr (by decide)) (Or.inr (by decide))).trans hv59170
              have hfr : (∀ b j : Nat, (tag b ≠ 24 ∨ j ≠ 2) → (tag b ≠ 24 ∨ j ≠ 3) → (tag b ≠ 24 ∨ j ≠ 4) → (tag b ≠ 24 ∨ j ≠ 5) → (tag b ≠ 24 ∨ j ≠ 6) → (tag b ≠ 24 ∨ j ≠ 7) → (tag b ≠ 25 ∨ j ≠ 3) → (tag b ≠ 25 ∨ j ≠ 4) → fld F b j = fld Fo b j) ∧ EF tag F Fo := ⟨fun b j n24_2 n24_3 n24_4 n24_5 n24_6 n24_7 n25_3 n25_4 => (yz59178.1 b j n24_2 n24_3 n24_4 n24_5 n24_6 n24_7).trans (hfr.1 b j n24_2 n24_3 n24_4 n24_5 n24_6 n24_7 n25_3 n25_4), fun b j hb => (yz59178.2 b j hb).trans (hfr.2 b j hb)⟩
              have hrel := nsr_of (fun j => yz59178.2 _ j (Or.inl gx4)) (fun j => yz59178.2 _ j (Or.inr gx5)) hrel
              refine lv_aload_n hx hb dX3_name_84 rfl (lv_at hl 1 rfl) ?_
              refine t_get (C := RX3) (T := TX3) (N := 13) X hT m0 g0 rfl rfl 11 (by decide) qw_76 inlX3 rfl dX3_name_85 (fun v59179 hv59179 ov59179 => ?_)
              obtain rfl : v59179 = .ref x5 := hv59179.symm.trans pf5
              refine lv_iload_n hx hb dX3_name_88 rfl (lv_at hl 0 rfl) ?_
              refine t_ild X hT mx5 gx5 rfl (by omega) dX3_name_89 (fun z59180 vz59180 rz59180 => ?_)
              have rz59180 : (-2147483648) ≤ z59180.toInt ∧ z59180.toInt ≤ 2147483647 := rz59180
              have rz59180 := nsr_7 hrel vz59167 vz59180 (by omega)
              exact t_iret hQ X hT (⟨(by omega), hfr, hrel⟩) (Nat.le_of_ble_eq_true rfl) (Nat.le_of_ble_eq_true rfl) dX3_name_90
            · have w59181 := cv_eq (rfl : z59153.toInt = z59153.toInt) (by decide : ((-1) : Int32).toInt = (-1)) c59175
              exfalso
              omega
        · have w59182 := cv_ne (rfl : z59167.toInt = z59167.toInt) (rfl : p1.toInt = p1.toInt) c59168
          refine lv_aload_n hx hb dX3_name_51 rfl (lv_at hl 1 rfl) ?_
          refine lv_iconst (v := 2) hx hb dX3_name_52 (by decide) ?_
          refine lv_aload_n hx hb dX3_name_53 rfl (lv_at hl 1 rfl) ?_
          refine t_get (C := RX3) (T := TX3) (N := 13) X hT m0 g0 rfl rfl 0 (by decide) qw_73 inlX3 rfl dX3_name_54 (fun v59183 hv59183 ov59183 => ?_)
          obtain rfl : v59183 = .ref x0 := hv59183.symm.trans pf0
          refine t_get (C := RX8) (T := TX8) (N := 8) X hT mx0 gx0 rfl rfl 4 (by decide) qw_227 inlX8 rfl dX3_name_57 (fun v59184 hv59184 ov59184 => ?_)
          obtain ⟨z59185, rfl, rz59185⟩ := okV_i ov59184
          refine t_cVv (n := 2) (C := RX3) (T := TX3) (N := 13) (As := [.int 2, .int z59185]) (rest := []) X hT (kt111_X3_fail l G tag L F hT.2.2.2 p0 2 z59185 m0 g0 (by decide)) m0 g0 rfl rfl qw_287 qw_288 qw_289 qw_28 qw_290 ⟨rfl, by decide +kernel, by decide +kernel, by decide +kernel⟩ ⟨Nat.le_of_ble_eq_true rfl, Nat.le_of_ble_eq_true rfl⟩ hl rfl rfl (Nat.le_of_ble_eq_true rfl) dX3_name_60 ⟨Nat.le_of_ble_eq_true rfl, Nat.le_of_ble_eq_true rfl⟩ (fun F H locs hT hz59186 => ?_)
          obtain ⟨yz59186, xz59186_0⟩ := hz59186
          have pf0 := (yz59186.1 _ 0 (Or.inr (by decide)) (Or.inr (by decide))).trans pf0
          have pf1 := (yz59186.1 _ 1 (Or.inr (by decide)) (Or.inr (by decide))).trans pf1
          have pf2 := (yz59186.1 _ 2 (Or.inr (by decide)) (Or.inr (by decide))).trans pf2
          have pf3 := (yz59186.1 _ 0 (Or.inr (by decide)) (Or.inr (by decide))).trans pf3
          have pf4 := (yz59186.1 _ 10 (Or.inr (by decide)) (Or.inr (by decide))).trans pf4
          have pf5 := (yz59186.1 _ 11 (Or.inr (by decide)) (Or.inr (by decide))).trans pf5
          have hv59111 := (yz59186.1 _ 3 (Or.inl (by rw [gx0]; decide)) (Or.inr (by decide))).trans hv59111
          have vz59167 := (yz59186.2 _ _ (Or.inl gx4)).trans vz59167
          have hv59184 := (yz59186.1 _ 4 (Or.inr (by decide)) (Or.inl (by rw [gx0]; decide))).trans hv59184
          have hfr : (∀ b j : Nat, (tag b ≠ 24 ∨ j ≠ 2) → (tag b ≠ 24 ∨ j ≠ 3) → (tag b ≠ 24 ∨ j ≠ 4) → (tag b ≠ 24 ∨ j ≠ 5) → (tag b ≠ 24 ∨ j ≠ 6) → (tag b ≠ 24 ∨ j ≠ 7) → (tag b ≠ 25 ∨ j ≠ 3) → (tag b ≠ 25 ∨ j ≠ 4) → fld F b j = fld Fo b j) ∧ EF tag F Fo := ⟨fun b j n24_2 n24_3 n24_4 n24_5 n24_6 n24_7 n25_3 n25_4 => (yz59186.1 b j n25_3 n25_4).trans (hfr.1 b j n24_2 n24_3 n24_4 n24_5 n24_6 n24_7 n25_3 n25_4), fun b j hb => (yz59186.2 b j hb).trans (hfr.2 b j hb)⟩
          have hrel := nsr_of (fun j => yz59186.2 _ j (Or.inl gx4)) (fun j => yz59186.2 _ j (Or.inr gx5)) hrel
          obtain ⟨z59187, qz59187, rz59187⟩ := xz59186_0
          refine lv_aload_n hx hb dX3_name_63 rfl (lv_at hl 1 rfl) ?_
          refine t_get (C := RX3) (T := TX3) (N := 13) X hT m0 g0 rfl rfl 3 (by decide) qw_163 inlX3 rfl dX3_name_64 (fun v59188 hv59188 ov59188 => ?_)
          obtain rfl : v59188 = .int z59187 := hv59188.symm.trans qz59187
          refine lv_if_ne (tgt := 75) hx hb dX3_name_67 (by decide) (fun c59189 => ?_) (fun c59189 => ?_)
          · have w59190 := cv_ne (rfl : z59187.toInt = z59187.toInt) (by decide : (0 : Int32).toInt = 0) c59189
            refine lv_iconst (v := 0) hx hb dX3_name_75 (by decide) ?_
            exact t_iret hQ X hT (⟨(by decide), hfr, hrel⟩) (Nat.le_of_ble_eq_true rfl) (Nat.le_of_ble_eq_true rfl) dX3_name_76
          · have w59191 := cv_eq (rfl : z59187.toInt = z59187.toInt) (by decide : (0 : Int32).toInt = 0) c59189
            exfalso
            omega
    · have w59192 := cv_ne (rfl : z59150.toInt = z59150.toInt) (by decide : ((-1) : Int32).toInt = (-1)) c59151
      refine lv_aload_n hx hb dX3_name_19 rfl (lv_at hl 0 rfl) ?_
      refine lv_iconst (v := 1) hx hb dX3_name_20 (by decide) ?_
      refine lv_aload_n hx hb dX3_name_21 rfl (lv_at hl 0 rfl) ?_
      refine t_get (C := RX3) (T := TX3) (N := 13) X hT m0 g0 rfl rfl 0 (by decide) qw_73 inlX3 rfl dX3_name_22 (fun v59193 hv59193 ov59193 => ?_)
      obtain rfl : v59193 = .ref x0 := hv59193.symm.trans pf0
      refine t_get (C := RX8) (T := TX8) (N := 8) X hT mx0 gx0 rfl rfl 4 (by decide) qw_227 inlX8 rfl dX3_name_25 (fun v59194 hv59194 ov59194 => ?_)
      obtain ⟨z59195, rfl, rz59195⟩ := okV_i ov59194
      refine t_cVv (n := 2) (C := RX3) (T := TX3) (N := 13) (As := [.int 1, .int z59195]) (rest := []) X hT (kt111_X3_fail l G tag L F hT.2.2.2 p0 1 z59195 m0 g0 (by decide)) m0 g0 rfl rfl qw_287 qw_288 qw_289 qw_28 qw_290 ⟨rfl, by decide +kernel, by decide +kernel, by decide +kernel⟩ ⟨Nat.le_of_ble_eq_true rfl, Nat.le_of_ble_eq_true rfl⟩ hl rfl rfl (Nat.le_of_ble_eq_true rfl) dX3_name_28 ⟨Nat.le_of_ble_eq_true rfl, Nat.le_of_ble_eq_true rfl⟩ (fun F H locs hT hz59196 => ?_)
      obtain ⟨yz59196, xz59196_0⟩ := hz59196
      have pf0 := (yz59196.1 _ 0 (Or.inr (by decide)) (Or.inr (by decide))).trans pf0
      have pf1 := (yz59196.1 _ 1 (Or.inr (by decide)) (Or.inr (by decide))).trans pf1
      have pf2 := (yz59196.1 _ 2 (Or.inr (by decide)) (Or.inr (by decide))).trans pf2
      have pf3 := (yz59196.1 _ 0 (Or.inr (by decide)) (Or.inr (by decide))).trans pf3
      have pf4 := (yz59196.1 _ 10 (Or.inr (by decide)) (Or.inr (by decide))).trans pf4
      have pf5 := (yz59196.1 _ 11 (Or.inr (by decide)) (Or.inr (by decide))).trans pf5
      have hv59111 := (yz59196.1 _ 3 (Or.inl (by rw [gx0]; decide)) (Or.inr (by decide))).trans hv59111
      have hv59194 := (yz59196.1 _ 4 (Or.inr (by decide)) (Or.inl (by rw [gx0]; decide))).trans hv59194
      have hfr : (∀ b j : Nat, (tag b ≠ 24 ∨ j ≠ 2) → (tag b ≠ 24 ∨ j ≠ 3) → (tag b ≠ 24 ∨ j ≠ 4) → (tag b ≠ 24 ∨ j ≠ 5) → (tag b ≠ 24 ∨ j ≠ 6) → (tag b ≠ 24 ∨ j ≠ 7) → (tag b ≠ 25 ∨ j ≠ 3) → (tag b ≠ 25 ∨ j ≠ 4) → fld F b j = fld Fo b j) ∧ EF tag F Fo := ⟨fun b j n24_2 n24_3 n24_4 n24_5 n24_6 n24_7 n25_3 n25_4 => (yz59196.1 b j n25_3 n25_4).trans (hfr.1 b j n24_2 n24_3 n24_4 n24_5 n24_6 n24_7 n25_3 n25_4), fun b j hb => (yz59196.2 b j hb).trans (hfr.2 b j hb)⟩
      have hrel := nsr_of (fun j => yz59196.2 _ j (Or.inl gx4)) (fun j => yz59196.2 _ j (Or.inr gx5)) hrel
      obtain ⟨z59197, qz59197, rz59197⟩ := xz59196_0
      refine lv_aload_n hx hb dX3_name_31 rfl (lv_at hl 0 rfl) ?_
      refine t_cVi (n := 0) (C := RX3) (T := TX3) (N := 13) (As := []) (rest := []) X hT (kt113_X3_findName l G tag L F hT.2.2.2 p0 x0 x1 x2 x3 x4 x5 m0 g0 mx0 gx0 pf0 mx1 gx1 pf1 mx2 gx2 pf2 mx3 gx3 pf3 mx4 gx4 pf4 mx5 gx5 pf5) m0 g0 rfl rfl qw_361 qw_362 qw_363 qw_28 qw_364 ⟨rfl, by decide +kernel, by decide +kernel, by decide +kernel⟩ ⟨Nat.le_of_ble_eq_true rfl, Nat.le_of_ble_eq_true rfl⟩ hl rfl rfl (Nat.le_of_ble_eq_true rfl) dX3_name_32 ⟨Nat.le_of_ble_eq_true rfl, Nat.le_of_ble_eq_true rfl⟩ (fun z59198 F9 H locs hT hz59198 => ?_)
      obtain ⟨fz59198, hz59198⟩ := hz59198
      rw [fz59198] at hT
      refine lv_istore_n (lv' := [(2, .int z59198), (0, .ref p0), (1, .int p1)]) hx hb dX3_name_35 rfl hl (by decide) rfl (fun ls hl => ?_)
      refine lv_iload_n hx hb dX3_name_36 rfl (lv_at hl 0 rfl) ?_
      refine lv_iconst (v := (-1)) hx hb dX3_name_37 (by decide) ?_
      refine lv_icmp_eq (tgt := 51) hx hb dX3_name_38 (by decide) (fun c59199 => ?_) (fun c59199 => ?_)
      · have w59200 := cv_eq (rfl : z59198.toInt = z59198.toInt) (by decide : ((-1) : Int32).toInt = (-1)) c59199
        refine lv_aload_n hx hb dX3_name_51 rfl (lv_at hl 1 rfl) ?_
        refine lv_iconst (v := 2) hx hb dX3_name_52 (by decide) ?_
        refine lv_aload_n hx hb dX3_name_53 rfl (lv_at hl 1 rfl) ?_
        refine t_get (C := RX3) (T := TX3) (N := 13) X hT m0 g0 rfl rfl 0 (by decide) qw_73 inlX3 rfl dX3_name_54 (fun v59201 hv59201 ov59201 => ?_)
        obtain rfl : v59201 = .ref x0 := hv59201.symm.trans pf0
        refine t_get (C := RX8) (T := TX8) (N := 8) X hT mx0 gx0 rfl rfl 4 (by decide) qw_227 inlX8 rfl dX3_name_57 (fun v59202 hv59202 ov59202 => ?_)
        obtain rfl : v59202 = .int z59195 := hv59202.symm.trans hv59194
        refine t_cVv (n := 2) (C := RX3) (T := TX3) (N := 13) (As := [.int 2, .int z59195]) (rest := []) X hT (kt111_X3_fail l G tag L F hT.2.2.2 p0 2 z59195 m0 g0 (by decide)) m0 g0 rfl rfl qw_287 qw_288 qw_289 qw_28 qw_290 ⟨rfl, by decide +kernel, by decide +kernel, by decide +kernel⟩ ⟨Nat.le_of_ble_eq_true rfl, Nat.le_of_ble_eq_true rfl⟩ hl rfl rfl (Nat.le_of_ble_eq_true rfl) dX3_name_60 ⟨Nat.le_of_ble_eq_true rfl, Nat.le_of_ble_eq_true rfl⟩ (fun F H locs hT hz59203 => ?_)
        obtain ⟨yz59203, xz59203_0⟩ := hz59203
        have pf0 := (yz59203.1 _ 0 (Or.inr (by decide)) (Or.inr (by decide))).trans pf0
        have pf1 := (yz59203.1 _ 1 (Or.inr (by decide)) (Or.inr (by decide))).trans pf1
        have pf2 := (yz59203.1 _ 2 (Or.inr (by decide)) (Or.inr (by decide))).trans pf2
        have pf3 := (yz59203.1 _ 0 (Or.inr (by decide)) (Or.inr (by decide))).trans pf3
        have pf4 := (yz59203.1 _ 10 (Or.inr (by decide)) (Or.inr (by decide))).trans pf4
        have pf5 := (yz59203.1 _ 11 (Or.inr (by decide)) (Or.inr (by decide))).trans pf5
        have hv59111 := (yz59203.1 _ 3 (Or.inl (by rw [gx0]; decide)) (Or.inr (by decide))).trans hv59111
        have hv59194 := (yz59203.1 _ 4 (Or.inr (by decide)) (Or.inl (by rw [gx0]; decide))).trans hv59194
        have hfr : (∀ b j : Nat, (tag b ≠ 24 ∨ j ≠ 2) → (tag b ≠ 24 ∨ j ≠ 3) → (tag b ≠ 24 ∨ j ≠ 4) → (tag b ≠ 24 ∨ j ≠ 5) → (tag b ≠ 24 ∨ j ≠ 6) → (tag b ≠ 24 ∨ j ≠ 7) → (tag b ≠ 25 ∨ j ≠ 3) → (tag b ≠ 25 ∨ j ≠ 4) → fld F b j = fld Fo b j) ∧ EF tag F Fo := ⟨fun b j n24_2 n24_3 n24_4 n24_5 n24_6 n24_7 n25_3 n25_4 => (yz59203.1 b j n25_3 n25_4).trans (hfr.1 b j n24_2 n24_3 n24_4 n24_5 n24_6 n24_7 n25_3 n25_4), fun b j hb => (yz59203.2 b j hb).trans (hfr.2 b j hb)⟩
        have hrel := nsr_of (fun j => yz59203.2 _ j (Or.inl gx4)) (fun j => yz59203.2 _ j (Or.inr gx5)) hrel
        obtain ⟨z59204, qz59204, rz59204⟩ := xz59203_0
        refine lv_aload_n hx hb dX3_name_63 rfl (lv_at hl 1 rfl) ?_
        refine t_get (C := RX3) (T := TX3) (N := 13) X hT m0 g0 rfl rfl 3 (by decide) qw_163 inlX3 rfl dX3_name_64 (fun v59205 hv59205 ov59205 => ?_)
        obtain rfl : v59205 = .int z59204 := hv59205.symm.trans qz59204
        refine lv_if_ne (tgt := 75) hx hb dX3_name_67 (by decide) (fun c59206 => ?_) (fun c59206 => ?_)
        · have w59207 := cv_ne (rfl : z59204.toInt = z59204.toInt) (by decide : (0 : Int32).toInt = 0) c59206
          refine lv_iconst (v := 0) hx hb dX3_name_75 (by decide) ?_
          exact t_iret hQ X hT (⟨(by decide), hfr, hrel⟩) (Nat.le_of_ble_eq_true rfl) (Nat.le_of_ble_eq_true rfl) dX3_name_76
        · have w59208 := cv_eq (rfl : z59204.toInt = z59204.toInt) (by decide : (0 : Int32).toInt = 0) c59206
          exfalso
          omega
      · have w59209 := cv_ne (rfl : z59198.toInt = z59198.toInt) (by decide : ((-1) : Int32).toInt = (-1)) c59199
        refine lv_aload_n hx hb dX3_name_41 rfl (lv_at hl 1 rfl) ?_
        refine t_get (C := RX3) (T := TX3) (N := 13) X hT m0 g0 rfl rfl 10 (by decide) qw_75 inlX3 rfl dX3_name_42 (fun v59210 hv59210 ov59210 => ?_)
        obtain rfl : v59210 = .ref x4 := hv59210.symm.trans pf4
        refine lv_iload_n hx hb dX3_name_45 rfl (lv_at hl 0 rfl) ?_
        refine t_ild X hT mx4 gx4 rfl (by omega) dX3_name_46 (fun z59211 vz59211 rz59211 => ?_)
        have rz59211 : (-2147483648) ≤ z59211.toInt ∧ z59211.toInt ≤ 2147483647 := rz59211
        refine lv_iload_n hx hb dX3_name_47 rfl (lv_at hl 2 rfl) ?_
        refine lv_icmp_eq (tgt := 63) hx hb dX3_name_48 (by decide) (fun c59212 => ?_) (fun c59212 => ?_)
        · have w59213 := cv_eq (rfl : z59211.toInt = z59211.toInt) (rfl : p1.toInt = p1.toInt) c59212
          refine lv_aload_n hx hb dX3_name_63 rfl (lv_at hl 1 rfl) ?_
          refine t_get (C := RX3) (T := TX3) (N := 13) X hT m0 g0 rfl rfl 3 (by decide) qw_163 inlX3 rfl dX3_name_64 (fun v59214 hv59214 ov59214 => ?_)
          obtain rfl : v59214 = .int z59197 := hv59214.symm.trans qz59197
          refine lv_if_ne (tgt := 75) hx hb dX3_name_67 (by decide) (fun c59215 => ?_) (fun c59215 => ?_)
          · have w59216 := cv_ne (rfl : z59197.toInt = z59197.toInt) (by decide : (0 : Int32).toInt = 0) c59215
            refine lv_iconst (v := 0) hx hb dX3_name_75 (by decide) ?_
            exact t_iret hQ X hT (⟨(by decide), hfr, hrel⟩) (Nat.le_of_ble_eq_true rfl) (Nat.le_of_ble_eq_true rfl) dX3_name_76
          · have w59217 := cv_eq (rfl : z59197.toInt = z59197.toInt) (by decide : (0 : Int32).toInt = 0) c59215
            exfalso
            omega
        · have w59218 := cv_ne (rfl : z59211.toInt = z59211.toInt) (rfl : p1.toInt = p1.toInt) c59212
          refine lv_aload_n hx hb dX3_name_51 rfl (lv_at hl 1 rfl) ?_
          refine lv_iconst (v := 2) hx hb dX3_name_52 (by decide) ?_
          refine lv_aload_n hx hb dX3_name_53 rfl (lv_at hl 1 rfl) ?_
          refine t_get (C := RX3) (T := TX3) (N := 13) X hT m0 g0 rfl rfl 0 (by decide) qw_73 inlX3 rfl dX3_name_54 (fun v59219 hv59219 ov59219 => ?_)
          obtain rfl : v59219 = .ref x0 := hv59219.symm.trans pf0
          refine t_get (C := RX8) (T := TX8) (N := 8) X hT mx0 gx0 rfl rfl 4 (by decide) qw_227 inlX8 rfl dX3_name_57 (fun v59220 hv59220 ov59220 => ?_)
          obtain rfl : v59220 = .int z59195 := hv59220.symm.trans hv59194
          refine t_cVv (n := 2) (C := RX3) (T := TX3) (N := 13) (As := [.int 2, .int z59195]) (rest := []) X hT (kt111_X3_fail l G tag L F hT.2.2.2 p0 2 z59195 m0 g0 (by decide)) m0 g0 rfl rfl qw_287 qw_288 qw_289 qw_28 qw_290 ⟨rfl, by decide +kernel, by decide +kernel, by decide +kernel⟩ ⟨Nat.le_of_ble_eq_true rfl, Nat.le_of_ble_eq_true rfl⟩ hl rfl rfl (Nat.le_of_ble_eq_true rfl) dX3_name_60 ⟨Nat.le_of_ble_eq_true rfl, Nat.le_of_ble_eq_true rfl⟩ (fun F H locs hT hz59221 => ?_)
          obtain ⟨yz59221, xz59221_0⟩ := hz59221
          have pf0 := (yz59221.1 _ 0 (Or.inr (by decide)) (Or.inr (by decide))).trans pf0
          have pf1 := (yz59221.1 _ 1 (Or.inr (by decide)) (Or.inr (by decide))).trans pf1
          have pf2 := (yz59221.1 _ 2 (Or.inr (by decide)) (Or.inr (by decide))).trans pf2
          have pf3 := (yz59221.1 _ 0 (Or.inr (by decide)) (Or.inr (by decide))).trans pf3
          have pf4 := (yz59221.1 _ 10 (Or.inr (by decide)) (Or.inr (by decide))).trans pf4
          have pf5 := (yz59221.1 _ 11 (Or.inr (by decide)) (Or.inr (by decide))).trans pf5
          have hv59111 := (yz59221.1 _ 3 (Or.inl (by rw [gx0]; decide)) (Or.inr (by decide))).trans hv59111
          have hv59194 := (yz59221.1 _ 4 (Or.inr (by decide)) (Or.inl (by rw [gx0]; decide))).trans hv59194
          have vz59211 := (yz59221.2 _ _ (Or.inl gx4)).trans vz59211
          have hfr : (∀ b j : Nat, (tag b ≠ 24 ∨ j ≠ 2) → (tag b ≠ 24 ∨ j ≠ 3) → (tag b ≠ 24 ∨ j ≠ 4) → (tag b ≠ 24 ∨ j ≠ 5) → (tag b ≠ 24 ∨ j ≠ 6) → (tag b ≠ 24 ∨ j ≠ 7) → (tag b ≠ 25 ∨ j ≠ 3) → (tag b ≠ 25 ∨ j ≠ 4) → fld F b j = fld Fo b j) ∧ EF tag F Fo := ⟨fun b j n24_2 n24_3 n24_4 n24_5 n24_6 n24_7 n25_3 n25_4 => (yz59221.1 b j n25_3 n25_4).trans (hfr.1 b j n24_2 n24_3 n24_4 n24_5 n24_6 n24_7 n25_3 n25_4), fun b j hb => (yz59221.2 b j hb).trans (hfr.2 b j hb)⟩
          have hrel := nsr_of (fun j => yz59221.2 _ j (Or.inl gx4)) (fun j => yz59221.2 _ j (Or.inr gx5)) hrel
          obtain ⟨z59222, qz59222, rz59222⟩ := xz59221_0
          refine lv_aload_n hx hb dX3_name_63 rfl (lv_at hl 1 rfl) ?_
          refine t_get (C := RX3) (T := TX3) (N := 13) X hT m0 g0 rfl rfl 3 (by decide) qw_163 inlX3 rfl dX3_name_64 (fun v59223 hv59223 ov59223 => ?_)
          obtain rfl : v59223 = .int z59222 := hv59223.symm.trans qz59222
          refine lv_if_ne (tgt := 75) hx hb dX3_name_67 (by decide) (fun c59224 => ?_) (fun c59224 => ?_)
          · have w59225 := cv_ne (rfl : z59222.toInt = z59222.toInt) (by decide : (0 : Int32).toInt = 0) c59224
            refine lv_iconst (v := 0) hx hb dX3_name_75 (by decide) ?_
            exact t_iret hQ X hT (⟨(by decide), hfr, hrel⟩) (Nat.le_of_ble_eq_true rfl) (Nat.le_of_ble_eq_true rfl) dX3_name_76
          · have w59226 := cv_eq (rfl : z59222.toInt = z59222.toInt) (by decide : (0 : Int32).toInt = 0) c59224
            exfalso
            omega
set_option maxHeartbeats 4000000 in
set_option maxRecDepth 100000 in
theorem kt145_X3_readOlder (l : Launch) (G : KG) (tag : Nat → Nat) (L : List Nat) (Fo : Nat → va_E) (ho : okT G ttC tag L Fo) (p0 : Nat) (x0 : Nat) (x1 : Nat) (x2 : Nat) (x3 : Nat) (x4 : Nat) (x5 : Nat) (m0 : p0 ∈ L) (g0 : tag p0 = 25) (mx0 : x0 ∈ L) (gx0 : tag x0 = 24) (pf0 : fld Fo p0 0 = .ref x0) (mx1 : x1 ∈ L) (gx1 : tag x1 = 18) (pf1 : fld Fo p0 1 = .ref x1) (mx2 : x2 ∈ L) (gx2 : tag x2 = 19) (pf2 : fld Fo p0 2 = .ref x2) (mx3 : x3 ∈ L) (gx3 : tag x3 = 1) (pf3 : fld Fo x0 0 = .ref x3) (mx4 : x4 ∈ L) (gx4 : tag x4 = 14) (pf4 : fld Fo p0 10 = .ref x4) (mx5 : x5 ∈ L) (gx5 : tag x5 = 15) (pf5 : fld Fo p0 11 = .ref x5) (hrel : NSR Fo x4 x5) : TMv l yX3_readOlder cX3_readOlder 3 { frames := 7, cells := 0, slots := 0, locals := 150 } G ttC tag L Fo [.ref p0] (fun F1 => ((∀ b j : Nat, (tag b ≠ 24 ∨ j ≠ 2) → (tag b ≠ 24 ∨ j ≠ 3) → (tag b ≠ 24 ∨ j ≠ 4) → (tag b ≠ 24 ∨ j ≠ 5) → (tag b ≠ 24 ∨ j ≠ 6) → (tag b ≠ 24 ∨ j ≠ 7) → (tag b ≠ 25 ∨ j ≠ 3) → (tag b ≠ 25 ∨ j ≠ 4) → (tag b ≠ 25 ∨ j ≠ 8) → fld F1 b j = fld Fo b j) ∧ EF tag F1 Fo) ∧ (NSR F1 x4 x5)) := by
  refine t_bodyv (y := yX3_readOlder) (cd := cX3_readOlder) (mL := 3) (rm := { frames := 7, cells := 0, slots := 0, locals := 150 }) (av := [.ref p0]) (by decide) (Nat.le_of_ble_eq_true rfl) ho ?_
  intro p e s m args below meth c ls A Q hQ X hT hl
  have hx := X.1.1
  have hb := X.1.2.1
  have hl : lv_has ls 3 [(0, .ref p0)] := hl
  obtain ⟨F, hFo⟩ : ∃ F : Nat → va_E, F = Fo := ⟨_, rfl⟩
  rw [← hFo] at hT pf0 pf1 pf2 pf3 pf4 pf5 hrel
  have hfr : (∀ b j : Nat, (tag b ≠ 24 ∨ j ≠ 2) → (tag b ≠ 24 ∨ j ≠ 3) → (tag b ≠ 24 ∨ j ≠ 4) → (tag b ≠ 24 ∨ j ≠ 5) → (tag b ≠ 24 ∨ j ≠ 6) → (tag b ≠ 24 ∨ j ≠ 7) → (tag b ≠ 25 ∨ j ≠ 3) → (tag b ≠ 25 ∨ j ≠ 4) → (tag b ≠ 25 ∨ j ≠ 8) → fld F b j = fld Fo b j) ∧ EF tag F Fo := by
    rw [hFo]
    exact ⟨by intros; rfl, fun _ _ _ => rfl⟩
  have K43 : ∀ (z59667 : Int32) (z59668 : Int32) (F : Nat → va_E) (H : Heap) (locs : List Loc) (ls : Array Slot), (0 ≤ z59667.toInt ∧ z59667.toInt ≤ 5) → (0 ≤ z59668.toInt ∧ z59668.toInt ≤ 5) → TH G ttC A s tag L F H locs → ((∀ b j : Nat, (tag b ≠ 24 ∨ j ≠ 2) → (tag b ≠ 24 ∨ j ≠ 3) → (tag b ≠ 24 ∨ j ≠ 4) → (tag b ≠ 24 ∨ j ≠ 5) → (tag b ≠ 24 ∨ j ≠ 6) → (tag b ≠ 24 ∨ j ≠ 7) → (tag b ≠ 25 ∨ j ≠ 3) → (tag b ≠ 25 ∨ j ≠ 4) → (tag b ≠ 25 ∨ j ≠ 8) → fld F b j = fld Fo b j) ∧ EF tag F Fo) → NSR F x4 x5 → fld F p0 0 = .ref x0 → fld F p0 1 = .ref x1 → fld F p0 2 = .ref x2 → fld F x0 0 = .ref x3 → fld F p0 10 = .ref x4 → fld F p0 11 = .ref x5 → lv_has ls 3 [(0, .ref p0), (1, .int z59667), (2, .int z59668)] → W p l e { frames := 7, cells := 0, slots := 0, locals := 150 } s m args below meth c H locs 0 0 Q (F0 m 43 ls []) := by
    intro z59667 z59668 F H locs ls rz59667 rz59668 hT hfr hrel pf0 pf1 pf2 pf3 pf4 pf5 hl
    refine lv_aload_n hx hb dX3_readOlder_43 rfl (lv_at hl 0 rfl) ?_
    refine t_get (C := RX3) (T := TX3) (N := 13) X hT m0 g0 rfl rfl 1 (by decide) qw_161 inlX3 rfl dX3_readOlder_44 (fun v59669 hv59669 ov59669 => ?_)
    obtain rfl : v59669 = .ref x1 := hv59669.symm.trans pf1
    refine t_get (C := RX1) (T := TX1) (N := 20) X hT mx1 gx1 rfl rfl 17 (by decide) qw_440 inlX1 rfl dX3_readOlder_47 (fun v59670 hv59670 ov59670 => ?_)
    obtain ⟨b59671, rfl, mb59671, gb59671⟩ := okV_r ov59670
    have gb59671 : tag b59671 = 7 := tg_of gb59671
    refine lv_iload_n hx hb dX3_readOlder_50 rfl (lv_at hl 2 rfl) ?_
    refine lv_dup2_11 hx hb dX3_readOlder_51 rfl rfl ?_
    refine t_ild X hT mb59671 gb59671 rfl (by omega) dX3_readOlder_52 (fun z59672 vz59672 rz59672 => ?_)
    have rz59672 : (-2147483648) ≤ z59672.toInt ∧ z59672.toInt ≤ 2147483647 := rz59672
    refine lv_iconst (v := 1) hx hb dX3_readOlder_53 (by decide) ?_
    refine lv_iload_n hx hb dX3_readOlder_54 rfl (lv_at hl 1 rfl) ?_
    refine lv_ishl hx hb dX3_readOlder_55 ?_
    refine lv_topi (fun z59673 ez59673 => ?_)
    have rz59673 := rg_all z59673
    refine lv_ior hx hb dX3_readOlder_56 ?_
    refine lv_topi (fun z59674 ez59674 => ?_)
    have rz59674 := rg_all z59674
    refine t_ist X hT mb59671 gb59671 rfl (by omega) (show (-2147483648) ≤ (z59674 : Int32).toInt ∧ (z59674 : Int32).toInt ≤ 2147483647 from (by omega)) dX3_readOlder_57 (fun F H locs hT v59675 h1v59675 h2v59675 => ?_)
    have pf0 := (h2v59675 _ _).trans pf0
    have pf1 := (h2v59675 _ _).trans pf1
    have pf2 := (h2v59675 _ _).trans pf2
    have pf3 := (h2v59675 _ _).trans pf3
    have pf4 := (h2v59675 _ _).trans pf4
    have pf5 := (h2v59675 _ _).trans pf5
    have hv59670 := (h2v59675 _ _).trans hv59670
    have hfr : (∀ b j : Nat, (tag b ≠ 24 ∨ j ≠ 2) → (tag b ≠ 24 ∨ j ≠ 3) → (tag b ≠ 24 ∨ j ≠ 4) → (tag b ≠ 24 ∨ j ≠ 5) → (tag b ≠ 24 ∨ j ≠ 6) → (tag b ≠ 24 ∨ j ≠ 7) → (tag b ≠ 25 ∨ j ≠ 3) → (tag b ≠ 25 ∨ j ≠ 4) → (tag b ≠ 25 ∨ j ≠ 8) → fld F b j = fld Fo b j) ∧ EF tag F Fo := ⟨fun b j n24_2 n24_3 n24_4 n24_5 n24_6 n24_7 n25_3 n25_4 n25_8 => (h2v59675 b j).trans (hfr.1 b j n24_2 n24_3 n24_4 n24_5 n24_6 n24_7 n25_3 n25_4 n25_8), fun b j hb => (h1v59675 b j (Or.inl (ns_ne hb gb59671 (by decide)))).trans (hfr.2 b j hb)⟩
    have hrel := nsr_of (fun j => h1v59675 _ j (Or.inl (tne gx4 gb59671 (by decide)))) (fun j => h1v59675 _ j (Or.inl (tne gx5 gb59671 (by decide)))) hrel
    refine lv_aload_n hx hb dX3_readOlder_58 rfl (lv_at hl 0 rfl) ?_
    refine lv_dup hx hb dX3_readOlder_59 rfl ?_
    refine t_get (C := RX3) (T := TX3) (N := 13) X hT m0 g0 rfl rfl 8 (by decide) qw_168 inlX3 rfl dX3_readOlder_60 (fun v59676 hv59676 ov59676 => ?_)
    obtain ⟨z59677, rfl, rz59677⟩ := okV_i ov59676
    refine lv_iconst (v := 1) hx hb dX3_readOlder_63 (by decide) ?_
    refine lv_iadd hx hb dX3_readOlder_64 ?_
    refine lv_topi (fun z59678 ez59678 => ?_)
    have rz59678 := rg_all z59678
    refine t_put (C := RX3) (T := TX3) (N := 13) (v := .int z59678) X hT m0 g0 rfl tyX3 tyX3_ok nmX3 rfl 8 (by decide) qw_168 inlX3 rfl (by first | rfl | decide) (by first | rfl | decide) rfl (⟨_, rfl, (show (-2147483648) ≤ (z59678 : Int32).toInt from (by omega)), (show (z59678 : Int32).toInt ≤ 2147483647 from (by omega))⟩) dX3_readOlder_65 (fun F H locs hT v59679 h1v59679 h2v59679 => ?_)
    have pf0 := (h1v59679 _ _ (Or.inr (by decide))).trans pf0
    have pf1 := (h1v59679 _ _ (Or.inr (by decide))).trans pf1
    have pf2 := (h1v59679 _ _ (Or.inr (by decide))).trans pf2
    have pf3 := (h1v59679 _ _ (Or.inr (by decide))).trans pf3
    have pf4 := (h1v59679 _ _ (Or.inr (by decide))).trans pf4
    have pf5 := (h1v59679 _ _ (Or.inr (by decide))).trans pf5
    have hv59670 := (h1v59679 _ _ (Or.inr (by decide))).trans hv59670
    have v59675 := (h2v59679 _ _).trans v59675
    have hfr : (∀ b j : Nat, (tag b ≠ 24 ∨ j ≠ 2) → (tag b ≠ 24 ∨ j ≠ 3) → (tag b ≠ 24 ∨ j ≠ 4) → (tag b ≠ 24 ∨ j ≠ 5) → (tag b ≠ 24 ∨ j ≠ 6) → (tag b ≠ 24 ∨ j ≠ 7) → (tag b ≠ 25 ∨ j ≠ 3) → (tag b ≠ 25 ∨ j ≠ 4) → (tag b ≠ 25 ∨ j ≠ 8) → fld F b j = fld Fo b j) ∧ EF tag F Fo := ⟨fun b j n24_2 n24_3 n24_4 n24_5 n24_6 n24_7 n25_3 n25_4 n25_8 => (h1v59679 b j (fr_ne g0 n25_8)).trans (hfr.1 b j n24_2 n24_3 n24_4 n24_5 n24_6 n24_7 n25_3 n25_4 n25_8), fun b j hb => (h2v59679 b j).trans (hfr.2 b j hb)⟩
    have hrel := nsr_of (fun j => h2v59679 _ j) (fun j => h2v59679 _ j) hrel
    exact t_vret hQ X hT ⟨hfr, hrel⟩ (Nat.le_of_ble_eq_true rfl) (Nat.le_of_ble_eq_true rfl) dX3_readOlder_68
  have K31 : ∀ (z59680 : Int32) (z59681 : Int32) (F : Nat → va_E) (H : Heap) (locs : List Loc) (ls : Array Slot), (0 ≤ z59680.toInt ∧ z59680.toInt ≤ 5) → (0 ≤ z59681.toInt ∧ z59681.toInt ≤ 5) → TH G ttC A s tag L F H locs → ((∀ b j : Nat, (tag b ≠ 24 ∨ j ≠ 2) → (tag b ≠ 24 ∨ j ≠ 3) → (tag b ≠ 24 ∨ j ≠ 4) → (tag b ≠ 24 ∨ j ≠ 5) → (tag b ≠ 24 ∨ j ≠ 6) → (tag b ≠ 24 ∨ j ≠ 7) → (tag b ≠ 25 ∨ j ≠ 3) → (tag b ≠ 25 ∨ j ≠ 4) → (tag b ≠ 25 ∨ j ≠ 8) → fld F b j = fld Fo b j) ∧ EF tag F Fo) → NSR F x4 x5 → fld F p0 0 = .ref x0 → fld F p0 1 = .ref x1 → fld F p0 2 = .ref x2 → fld F x0 0 = .ref x3 → fld F p0 10 = .ref x4 → fld F p0 11 = .ref x5 → lv_has ls 3 [(0, .ref p0), (1, .int z59680), (2, .int z59681)] → W p l e { frames := 7, cells := 0, slots := 0, locals := 150 } s m args below meth c H locs 0 0 Q (F0 m 31 ls []) := by
    intro z59680 z59681 F H locs ls rz59680 rz59681 hT hfr hrel pf0 pf1 pf2 pf3 pf4 pf5 hl
    refine lv_aload_n hx hb dX3_readOlder_31 rfl (lv_at hl 0 rfl) ?_
    refine lv_iconst (v := 3) hx hb dX3_readOlder_32 (by decide) ?_
    refine lv_aload_n hx hb dX3_readOlder_33 rfl (lv_at hl 0 rfl) ?_
    refine t_get (C := RX3) (T := TX3) (N := 13) X hT m0 g0 rfl rfl 0 (by decide) qw_73 inlX3 rfl dX3_readOlder_34 (fun v59682 hv59682 ov59682 => ?_)
    obtain rfl : v59682 = .ref x0 := hv59682.symm.trans pf0
    refine t_get (C := RX8) (T := TX8) (N := 8) X hT mx0 gx0 rfl rfl 5 (by decide) qw_339 inlX8 rfl dX3_readOlder_37 (fun v59683 hv59683 ov59683 => ?_)
    obtain ⟨z59684, rfl, rz59684⟩ := okV_i ov59683
    refine t_cVv (n := 2) (C := RX3) (T := TX3) (N := 13) (As := [.int 3, .int z59684]) (rest := []) X hT (kt111_X3_fail l G tag L F hT.2.2.2 p0 3 z59684 m0 g0 (by decide)) m0 g0 rfl rfl qw_287 qw_288 qw_289 qw_28 qw_290 ⟨rfl, by decide +kernel, by decide +kernel, by decide +kernel⟩ ⟨Nat.le_of_ble_eq_true rfl, Nat.le_of_ble_eq_true rfl⟩ hl rfl rfl (Nat.le_of_ble_eq_true rfl) dX3_readOlder_40 ⟨Nat.le_of_ble_eq_true rfl, Nat.le_of_ble_eq_true rfl⟩ (fun F H locs hT hz59685 => ?_)
    obtain ⟨yz59685, xz59685_0⟩ := hz59685
    have pf0 := (yz59685.1 _ 0 (Or.inr (by decide)) (Or.inr (by decide))).trans pf0
    have pf1 := (yz59685.1 _ 1 (Or.inr (by decide)) (Or.inr (by decide))).trans pf1
    have pf2 := (yz59685.1 _ 2 (Or.inr (by decide)) (Or.inr (by decide))).trans pf2
    have pf3 := (yz59685.1 _ 0 (Or.inr (by decide)) (Or.inr (by decide))).trans pf3
    have pf4 := (yz59685.1 _ 10 (Or.inr (by decide)) (Or.inr (by decide))).trans pf4
    have pf5 := (yz59685.1 _ 11 (Or.inr (by decide)) (Or.inr (by decide))).trans pf5
    have hv59683 := (yz59685.1 _ 5 (Or.inr (by decide)) (Or.inr (by decide))).trans hv59683
    have hfr : (∀ b j : Nat, (tag b ≠ 24 ∨ j ≠ 2) → (tag b ≠ 24 ∨ j ≠ 3) → (tag b ≠ 24 ∨ j ≠ 4) → (tag b ≠ 24 ∨ j ≠ 5) → (tag b ≠ 24 ∨ j ≠ 6) → (tag b ≠ 24 ∨ j ≠ 7) → (tag b ≠ 25 ∨ j ≠ 3) → (tag b ≠ 25 ∨ j ≠ 4) → (tag b ≠ 25 ∨ j ≠ 8) → fld F b j = fld Fo b j) ∧ EF tag F Fo := ⟨fun b j n24_2 n24_3 n24_4 n24_5 n24_6 n24_7 n25_3 n25_4 n25_8 => (yz59685.1 b j n25_3 n25_4).trans (hfr.1 b j n24_2 n24_3 n24_4 n24_5 n24_6 n24_7 n25_3 n25_4 n25_8), fun b j hb => (yz59685.2 b j hb).trans (hfr.2 b j hb)⟩
    have hrel := nsr_of (fun j => yz59685.2 _ j (Or.inl gx4)) (fun j => yz59685.2 _ j (Or.inr gx5)) hrel
    obtain ⟨z59686, qz59686, rz59686⟩ := xz59685_0
    exact K43 z59680 z59681 _ _ _ _ (by omega) (by omega) hT hfr hrel pf0 pf1 pf2 pf3 pf4 pf5 (lv_sub hl [0, 1, 2] rfl)
  refine lv_aload_n hx hb dX3_readOlder_0 rfl (lv_at hl 0 rfl) ?_
  refine lv_bipush (v := 7) hx hb dX3_readOlder_1 (by decide) ?_
  refine t_cVi (n := 1) (C := RX3) (T := TX3) (N := 13) (As := [.int 7]) (rest := []) X hT (kt144_X3_name l G tag L F hT.2.2.2 p0 7 x0 x1 x2 x3 x4 x5 m0 g0 (by decide) mx0 gx0 pf0 mx1 gx1 pf1 mx2 gx2 pf2 mx3 gx3 pf3 mx4 gx4 pf4 mx5 gx5 pf5 hrel) m0 g0 rfl rfl qw_393 qw_394 qw_395 qw_28 qw_396 ⟨rfl, by decide +kernel, by decide +kernel, by decide +kernel⟩ ⟨Nat.le_of_ble_eq_true rfl, Nat.le_of_ble_eq_true rfl⟩ hl rfl rfl (Nat.le_of_ble_eq_true rfl) dX3_readOlder_3 ⟨Nat.le_of_ble_eq_true rfl, Nat.le_of_ble_eq_true rfl⟩ (fun z59687 F H locs hT hz59687 => ?_)
  obtain ⟨hz59687, yz59687, hrel⟩ := hz59687
  have pf0 := (yz59687.1 _ 0 (Or.inr (by decide)) (Or.inr (by decide)) (Or.inr (by decide)) (Or.inr (by decide)) (Or.inr (by decide)) (Or.inr (by decide)) (Or.inr (by decide)) (Or.inr (by decide))).trans pf0
  have pf1 := (yz59687.1 _ 1 (Or.inr (by decide)) (Or.inr (by decide)) (Or.inr (by decide)) (Or.inr (by decide)) (Or.inr (by decide)) (Or.inr (by decide)) (Or.inr (by decide)) (Or.inr (by decide))).trans pf1
  have pf2 := (yz59687.1 _ 2 (Or.inl (by rw [g0]; decide)) (Or.inr (by decide)) (Or.inr (by decide)) (Or.inr (by decide)) (Or.inr (by decide)) (Or.inr (by decide)) (Or.inr (by decide)) (Or.inr (by decide))).trans pf2
  have pf3 := (yz59687.1 _ 0 (Or.inr (by decide)) (Or.inr (by decide)) (Or.inr (by decide)) (Or.inr (by decide)) (Or.inr (by decide)) (Or.inr (by decide)) (Or.inr (by decide)) (Or.inr (by decide))).trans pf3
  have pf4 := (yz59687.1 _ 10 (Or.inr (by decide)) (Or.inr (by decide)) (Or.inr (by decide)) (Or.inr (by decide)) (Or.inr (by decide)) (Or.inr (by decide)) (Or.inr (by decide)) (Or.inr (by decide))).trans pf4
  have pf5 := (yz59687.1 _ 11 (Or.inr (by decide)) (Or.inr (by decide)) (Or.inr (by decide)) (Or.inr (by decide)) (Or.inr (by decide)) (Or.inr (by decide)) (Or.inr (by decide)) (Or.inr (by decide))).trans pf5
  have hfr : (∀ b j : Nat, (tag b ≠ 24 ∨ j ≠ 2) → (tag b ≠ 24 ∨ j ≠ 3) → (tag b ≠ 24 ∨ j ≠ 4) → (tag b ≠ 24 ∨ j ≠ 5) → (tag b ≠ 24 ∨ j ≠ 6) → (tag b ≠ 24 ∨ j ≠ 7) → (tag b ≠ 25 ∨ j ≠ 3) → (tag b ≠ 25 ∨ j ≠ 4) → (tag b ≠ 25 ∨ j ≠ 8) → fld F b j = fld Fo b j) ∧ EF tag F Fo := ⟨fun b j n24_2 n24_3 n24_4 n24_5 n24_6 n24_7 n25_3 n25_4 n25_8 => (yz59687.1 b j n24_2 n24_3 n24_4 n24_5 n24_6 n24_7 n25_3 n25_4).trans (hfr.1 b j n24_2 n24_3 n24_4 n24_5 n24_6 n24_7 n25_3 n25_4 n25_8), fun b j hb => (yz59687.2 b j hb).trans (hfr.2 b j hb)⟩
  refine lv_istore_n (lv' := [(1, .int z59687), (0, .ref p0)]) hx hb dX3_readOlder_6 rfl hl (by decide) rfl (fun ls hl => ?_)
  refine lv_aload_n hx hb dX3_readOlder_7 rfl (lv_at hl 1 rfl) ?_
  refine lv_bipush (v := 7) hx hb dX3_readOlder_8 (by decide) ?_
  refine t_cVi (n := 1) (C := RX3) (T := TX3) (N := 13) (As := [.int 7]) (rest := []) X hT (kt144_X3_name l G tag L F hT.2.2.2 p0 7 x0 x1 x2 x3 x4 x5 m0 g0 (by decide) mx0 gx0 pf0 mx1 gx1 pf1 mx2 gx2 pf2 mx3 gx3 pf3 mx4 gx4 pf4 mx5 gx5 pf5 hrel) m0 g0 rfl rfl qw_393 qw_394 qw_395 qw_28 qw_396 ⟨rfl, by decide +kernel, by decide +kernel, by decide +kernel⟩ ⟨Nat.le_of_ble_eq_true rfl, Nat.le_of_ble_eq_true rfl⟩ hl rfl rfl (Nat.le_of_ble_eq_true rfl) dX3_readOlder_10 ⟨Nat.le_of_ble_eq_true rfl, Nat.le_of_ble_eq_true rfl⟩ (fun z59688 F H locs hT hz59688 => ?_)
  obtain ⟨hz59688, yz59688, hrel⟩ := hz59688
  have pf0 := (yz59688.1 _ 0 (Or.inr (by decide)) (Or.inr (by decide)) (Or.inr (by decide)) (Or.inr (by decide)) (Or.inr (by decide)) (Or.inr (by decide)) (Or.inr (by decide)) (Or.inr (by decide))).trans pf0
  have pf1 := (yz59688.1 _ 1 (Or.inr (by decide)) (Or.inr (by decide)) (Or.inr (by decide)) (Or.inr (by decide)) (Or.inr (by decide)) (Or.inr (by decide)) (Or.inr (by decide)) (Or.inr (by decide))).trans pf1
  have pf2 := (yz59688.1 _ 2 (Or.inl (by rw [g0]; decide)) (Or.inr (by decide)) (Or.inr (by decide)) (Or.inr (by decide)) (Or.inr (by decide)) (Or.inr (by decide)) (Or.inr (by decide)) (Or.inr (by decide))).trans pf2
  have pf3 := (yz59688.1 _ 0 (Or.inr (by decide)) (Or.inr (by decide)) (Or.inr (by decide)) (Or.inr (by decide)) (Or.inr (by decide)) (Or.inr (by decide)) (Or.inr (by decide)) (Or.inr (by decide))).trans pf3
  have pf4 := (yz59688.1 _ 10 (Or.inr (by decide)) (Or.inr (by decide)) (Or.inr (by decide)) (Or.inr (by decide)) (Or.inr (by decide)) (Or.inr (by decide)) (Or.inr (by decide)) (Or.inr (by decide))).trans pf4
  have pf5 := (yz59688.1 _ 11 (Or.inr (by decide)) (Or.inr (by decide)) (Or.inr (by decide)) (Or.inr (by decide)) (Or.inr (by decide)) (Or.inr (by decide)) (Or.inr (by decide)) (Or.inr (by decide))).trans pf5
  have hfr : (∀ b j : Nat, (tag b ≠ 24 ∨ j ≠ 2) → (tag b ≠ 24 ∨ j ≠ 3) → (tag b ≠ 24 ∨ j ≠ 4) → (tag b ≠ 24 ∨ j ≠ 5) → (tag b ≠ 24 ∨ j ≠ 6) → (tag b ≠ 24 ∨ j ≠ 7) → (tag b ≠ 25 ∨ j ≠ 3) → (tag b ≠ 25 ∨ j ≠ 4) → (tag b ≠ 25 ∨ j ≠ 8) → fld F b j = fld Fo b j) ∧ EF tag F Fo := ⟨fun b j n24_2 n24_3 n24_4 n24_5 n24_6 n24_7 n25_3 n25_4 n25_8 => (yz59688.1 b j n24_2 n24_3 n24_4 n24_5 n24_6 n24_7 n25_3 n25_4).trans (hfr.1 b j n24_2 n24_3 n24_4 n24_5 n24_6 n24_7 n25_3 n25_4 n25_8), fun b j hb => (yz59688.2 b j hb).trans (hfr.2 b j hb)⟩
  refine lv_istore_n (lv' := [(2, .int z59688), (1, .int z59687), (0, .ref p0)]) hx hb dX3_readOlder_13 rfl hl (by decide) rfl (fun ls hl => ?_)
  refine lv_iload_n hx hb dX3_readOlder_14 rfl (lv_at hl 1 rfl) ?_
  refine lv_iload_n hx hb dX3_readOlder_15 rfl (lv_at hl 0 rfl) ?_
  refine lv_icmp_eq (tgt := 31) hx hb dX3_readOlder_16 (by decide) (fun c59689 => ?_) (fun c59689 => ?_)
  · have w59690 := cv_eq (rfl : z59687.toInt = z59687.toInt) (rfl : z59688.toInt = z59688.toInt) c59689
    exact K31 z59687 z59688 _ _ _ _ (by omega) (by omega) hT hfr hrel pf0 pf1 pf2 pf3 pf4 pf5 (lv_sub hl [2, 1, 0] rfl)
  · have w59691 := cv_ne (rfl : z59687.toInt = z59687.toInt) (rfl : z59688.toInt = z59688.toInt) c59689
    refine lv_aload_n hx hb dX3_readOlder_19 rfl (lv_at hl 2 rfl) ?_
    refine t_get (C := RX3) (T := TX3) (N := 13) X hT m0 g0 rfl rfl 1 (by decide) qw_161 inlX3 rfl dX3_readOlder_20 (fun v59692 hv59692 ov59692 => ?_)
    obtain rfl : v59692 = .ref x1 := hv59692.symm.trans pf1
    refine lv_iload_n hx hb dX3_readOlder_23 rfl (lv_at hl 1 rfl) ?_
    refine lv_iload_n hx hb dX3_readOlder_24 rfl (lv_at hl 0 rfl) ?_
    refine t_cVi (n := 2) (C := RX1) (T := TX1) (N := 20) (As := [.int z59687, .int z59688]) (rest := []) X hT (kt13_X1_isTold l G tag L F hT.2.2.2 x1 z59687 z59688 mx1 gx1 (by omega) (by omega)) mx1 gx1 rfl rfl qw_441 qw_442 qw_443 qw_17 qw_444 ⟨rfl, by decide +kernel, by decide +kernel, by decide +kernel⟩ ⟨Nat.le_of_ble_eq_true rfl, Nat.le_of_ble_eq_true rfl⟩ hl rfl rfl (Nat.le_of_ble_eq_true rfl) dX3_readOlder_25 ⟨Nat.le_of_ble_eq_true rfl, Nat.le_of_ble_eq_true rfl⟩ (fun z59693 F9 H locs hT hz59693 => ?_)
    obtain ⟨fz59693, hz59693⟩ := hz59693
    rw [fz59693] at hT
    refine lv_if_eq (tgt := 43) hx hb dX3_readOlder_28 (by decide) (fun c59694 => ?_) (fun c59694 => ?_)
    · have w59695 := cv_eq (rfl : z59693.toInt = z59693.toInt) (by decide : (0 : Int32).toInt = 0) c59694
      exact K43 z59687 z59688 _ _ _ _ (by omega) (by omega) hT hfr hrel pf0 pf1 pf2 pf3 pf4 pf5 (lv_sub hl [2, 1, 0] rfl)
    · have w59696 := cv_ne (rfl : z59693.toInt = z59693.toInt) (by decide : (0 : Int32).toInt = 0) c59694
      exact K31 z59687 z59688 _ _ _ _ (by omega) (by omega) hT hfr hrel pf0 pf1 pf2 pf3 pf4 pf5 (lv_sub hl [2, 1, 0] rfl)
