set_option maxHeartbeats 4000000 in
set_option maxRecDepth 100000 in
theorem kt195_X3_name (l : Launch) (G : KG) (tag : Nat → Nat) (L : List Nat) (Fo : Nat → va_E) (ho : okT G ttC tag L Fo) (p0 : Nat) (p1 : Int32) (x0 : Nat) (x1 : Nat) (x2 : Nat) (x3 : Nat) (x4 : Nat) (x5 : Nat) (m0 : p0 ∈ L) (g0 : tag p0 = 25) (mx0 : x0 ∈ L) (gx0 : tag x0 = 24) (pf0 : fld Fo p0 0 = .ref x0) (mx1 : x1 ∈ L) (gx1 : tag x1 = 18) (pf1 : fld Fo p0 1 = .ref x1) (mx2 : x2 ∈ L) (gx2 : tag x2 = 19) (pf2 : fld Fo p0 2 = .ref x2) (mx3 : x3 ∈ L) (gx3 : tag x3 = 1) (pf3 : fld Fo x0 0 = .ref x3) (mx4 : x4 ∈ L) (gx4 : tag x4 = 14) (pf4 : fld Fo p0 10 = .ref x4) (mx5 : x5 ∈ L) (gx5 : tag x5 = 15) (pf5 : fld Fo p0 11 = .ref x5) (hrel : NSR Fo x4 x5) : TMi l yX3_name cX3_name 3 (some .int) { frames := 6, cells := 0, slots := 0, locals := 128 } G ttC tag L Fo [.ref p0, .int p1] (fun r F1 => ((-2147483648) ≤ r.toInt ∧ r.toInt ≤ 2147483647) ∧ ((∀ b j : Nat, (tag b ≠ 24 ∨ j ≠ 2) → (tag b ≠ 24 ∨ j ≠ 3) → (tag b ≠ 24 ∨ j ≠ 4) → (tag b ≠ 24 ∨ j ≠ 5) → (tag b ≠ 24 ∨ j ≠ 6) → (tag b ≠ 24 ∨ j ≠ 7) → (tag b ≠ 25 ∨ j ≠ 3) → (tag b ≠ 25 ∨ j ≠ 4) → fld F1 b j = fld Fo b j) ∧ EF tag F1 Fo) ∧ (NSR F1 x4 x5)) := by
  refine t_bodyi (y := yX3_name) (cd := cX3_name) (mL := 3) (rt := (some .int)) (rm := { frames := 6, cells := 0, slots := 0, locals := 128 }) (av := [.ref p0, .int p1]) (by decide) (Nat.le_of_ble_eq_true rfl) ho ?_
  intro p e s m args below meth c ls A Q hQ X hT hl
  have hx := X.1.1
  have hb := X.1.2.1
  have hl : lv_has ls 3 [(0, .ref p0), (1, .int p1)] := hl
  have rp1 := rg_all p1
  obtain ⟨F, hFo⟩ : ∃ F : Nat → va_E, F = Fo := ⟨_, rfl⟩
  rw [← hFo] at hT pf0 pf1 pf2 pf3 pf4 pf5 hrel
  have hfr : (∀ b j : Nat, (tag b ≠ 24 ∨ j ≠ 2) → (tag b ≠ 24 ∨ j ≠ 3) → (tag b ≠ 24 ∨ j ≠ 4) → (tag b ≠ 24 ∨ j ≠ 5) → (tag b ≠ 24 ∨ j ≠ 6) → (tag b ≠ 24 ∨ j ≠ 7) → (tag b ≠ 25 ∨ j ≠ 3) → (tag b ≠ 25 ∨ j ≠ 4) → fld F b j = fld Fo b j) ∧ EF tag F Fo := by
    rw [hFo]
    exact ⟨by intros; rfl, fun _ _ _ => rfl⟩
  refine lv_aload_n hx hb dX3_name_0 rfl (lv_at hl 0 rfl) ?_
  refine t_get (C := RX3) (T := TX3) (N := 13) X hT m0 g0 rfl rfl 0 (by decide) qw_73 inlX3 rfl dX3_name_1 (fun v83632 hv83632 ov83632 => ?_)
  obtain rfl : v83632 = .ref x0 := hv83632.symm.trans pf0
  refine t_get (C := RX8) (T := TX8) (N := 8) X hT mx0 gx0 rfl rfl 3 (by decide) qw_170 inlX8 rfl dX3_name_4 (fun v83633 hv83633 ov83633 => ?_)
  obtain ⟨z83634, rfl, rz83634⟩ := okV_i ov83633
  refine lv_iconst (v := 1) hx hb dX3_name_7 (by decide) ?_
  refine lv_icmp_ne (tgt := 19) hx hb dX3_name_8 (by decide) (fun c83635 => ?_) (fun c83635 => ?_)
  · have w83636 := cv_ne (rfl : z83634.toInt = z83634.toInt) (by decide : (1 : Int32).toInt = 1) c83635
    refine lv_aload_n hx hb dX3_name_19 rfl (lv_at hl 0 rfl) ?_
    refine lv_iconst (v := 1) hx hb dX3_name_20 (by decide) ?_
    refine lv_aload_n hx hb dX3_name_21 rfl (lv_at hl 0 rfl) ?_
    refine t_get (C := RX3) (T := TX3) (N := 13) X hT m0 g0 rfl rfl 0 (by decide) qw_73 inlX3 rfl dX3_name_22 (fun v83637 hv83637 ov83637 => ?_)
    obtain rfl : v83637 = .ref x0 := hv83637.symm.trans pf0
    refine t_get (C := RX8) (T := TX8) (N := 8) X hT mx0 gx0 rfl rfl 4 (by decide) qw_227 inlX8 rfl dX3_name_25 (fun v83638 hv83638 ov83638 => ?_)
    obtain ⟨z83639, rfl, rz83639⟩ := okV_i ov83638
    refine t_cVv (n := 2) (C := RX3) (T := TX3) (N := 13) (As := [.int 1, .int z83639]) (rest := []) X hT (kt111_X3_fail l G tag L F hT.2.2.2 p0 1 z83639 m0 g0 (by decide)) m0 g0 rfl rfl qw_287 qw_288 qw_289 qw_28 qw_290 ⟨rfl, by decide +kernel, by decide +kernel, by decide +kernel⟩ ⟨Nat.le_of_ble_eq_true rfl, Nat.le_of_ble_eq_true rfl⟩ hl rfl rfl (Nat.le_of_ble_eq_true rfl) dX3_name_28 ⟨Nat.le_of_ble_eq_true rfl, Nat.le_of_ble_eq_true rfl⟩ (fun F H locs hT hz83640 => ?_)
    obtain ⟨yz83640, xz83640_0⟩ := hz83640
    have pf0 := (yz83640.1 _ 0 (Or.inr (by decide)) (Or.inr (by decide))).trans pf0
    have pf1 := (yz83640.1 _ 1 (Or.inr (by decide)) (Or.inr (by decide))).trans pf1
    have pf2 := (yz83640.1 _ 2 (Or.inr (by decide)) (Or.inr (by decide))).trans pf2
    have pf3 := (yz83640.1 _ 0 (Or.inr (by decide)) (Or.inr (by decide))).trans pf3
    have pf4 := (yz83640.1 _ 10 (Or.inr (by decide)) (Or.inr (by decide))).trans pf4
    have pf5 := (yz83640.1 _ 11 (Or.inr (by decide)) (Or.inr (by decide))).trans pf5
    have hv83633 := (yz83640.1 _ 3 (Or.inl (by rw [gx0]; decide)) (Or.inr (by decide))).trans hv83633
    have hv83638 := (yz83640.1 _ 4 (Or.inr (by decide)) (Or.inl (by rw [gx0]; decide))).trans hv83638
    have hfr : (∀ b j : Nat, (tag b ≠ 24 ∨ j ≠ 2) → (tag b ≠ 24 ∨ j ≠ 3) → (tag b ≠ 24 ∨ j ≠ 4) → (tag b ≠ 24 ∨ j ≠ 5) → (tag b ≠ 24 ∨ j ≠ 6) → (tag b ≠ 24 ∨ j ≠ 7) → (tag b ≠ 25 ∨ j ≠ 3) → (tag b ≠ 25 ∨ j ≠ 4) → fld F b j = fld Fo b j) ∧ EF tag F Fo := ⟨fun b j n24_2 n24_3 n24_4 n24_5 n24_6 n24_7 n25_3 n25_4 => (yz83640.1 b j n25_3 n25_4).trans (hfr.1 b j n24_2 n24_3 n24_4 n24_5 n24_6 n24_7 n25_3 n25_4), fun b j hb => (yz83640.2 b j hb).trans (hfr.2 b j hb)⟩
    have hrel := nsr_of (fun j => yz83640.2 _ j (Or.inl gx4)) (fun j => yz83640.2 _ j (Or.inr gx5)) hrel
    obtain ⟨z83641, qz83641, rz83641⟩ := xz83640_0
    refine lv_aload_n hx hb dX3_name_31 rfl (lv_at hl 0 rfl) ?_
    refine t_cVi (n := 0) (C := RX3) (T := TX3) (N := 13) (As := []) (rest := []) X hT (kt113_X3_findName l G tag L F hT.2.2.2 p0 x0 x1 x2 x3 x4 x5 m0 g0 mx0 gx0 pf0 mx1 gx1 pf1 mx2 gx2 pf2 mx3 gx3 pf3 mx4 gx4 pf4 mx5 gx5 pf5) m0 g0 rfl rfl qw_361 qw_362 qw_363 qw_28 qw_364 ⟨rfl, by decide +kernel, by decide +kernel, by decide +kernel⟩ ⟨Nat.le_of_ble_eq_true rfl, Nat.le_of_ble_eq_true rfl⟩ hl rfl rfl (Nat.le_of_ble_eq_true rfl) dX3_name_32 ⟨Nat.le_of_ble_eq_true rfl, Nat.le_of_ble_eq_true rfl⟩ (fun z83642 F9 H locs hT hz83642 => ?_)
    obtain ⟨fz83642, hz83642⟩ := hz83642
    rw [fz83642] at hT
    refine lv_istore_n (lv' := [(2, .int z83642), (0, .ref p0), (1, .int p1)]) hx hb dX3_name_35 rfl hl (by decide) rfl (fun ls hl => ?_)
    refine lv_iload_n hx hb dX3_name_36 rfl (lv_at hl 0 rfl) ?_
    refine lv_iconst (v := (-1)) hx hb dX3_name_37 (by decide) ?_
    refine lv_icmp_eq (tgt := 51) hx hb dX3_name_38 (by decide) (fun c83643 => ?_) (fun c83643 => ?_)
    · have w83644 := cv_eq (rfl : z83642.toInt = z83642.toInt) (by decide : ((-1) : Int32).toInt = (-1)) c83643
      refine lv_aload_n hx hb dX3_name_51 rfl (lv_at hl 1 rfl) ?_
      refine lv_iconst (v := 2) hx hb dX3_name_52 (by decide) ?_
      refine lv_aload_n hx hb dX3_name_53 rfl (lv_at hl 1 rfl) ?_
      refine t_get (C := RX3) (T := TX3) (N := 13) X hT m0 g0 rfl rfl 0 (by decide) qw_73 inlX3 rfl dX3_name_54 (fun v83645 hv83645 ov83645 => ?_)
      obtain rfl : v83645 = .ref x0 := hv83645.symm.trans pf0
      refine t_get (C := RX8) (T := TX8) (N := 8) X hT mx0 gx0 rfl rfl 4 (by decide) qw_227 inlX8 rfl dX3_name_57 (fun v83646 hv83646 ov83646 => ?_)
      obtain rfl : v83646 = .int z83639 := hv83646.symm.trans hv83638
      refine t_cVv (n := 2) (C := RX3) (T := TX3) (N := 13) (As := [.int 2, .int z83639]) (rest := []) X hT (kt111_X3_fail l G tag L F hT.2.2.2 p0 2 z83639 m0 g0 (by decide)) m0 g0 rfl rfl qw_287 qw_288 qw_289 qw_28 qw_290 ⟨rfl, by decide +kernel, by decide +kernel, by decide +kernel⟩ ⟨Nat.le_of_ble_eq_true rfl, Nat.le_of_ble_eq_true rfl⟩ hl rfl rfl (Nat.le_of_ble_eq_true rfl) dX3_name_60 ⟨Nat.le_of_ble_eq_true rfl, Nat.le_of_ble_eq_true rfl⟩ (fun F H locs hT hz83647 => ?_)
      obtain ⟨yz83647, xz83647_0⟩ := hz83647
      have pf0 := (yz83647.1 _ 0 (Or.inr (by decide)) (Or.inr (by decide))).trans pf0
      have pf1 := (yz83647.1 _ 1 (Or.inr (by decide)) (Or.inr (by decide))).trans pf1
      have pf2 := (yz83647.1 _ 2 (Or.inr (by decide)) (Or.inr (by decide))).trans pf2
      have pf3 := (yz83647.1 _ 0 (Or.inr (by decide)) (Or.inr (by decide))).trans pf3
      have pf4 := (yz83647.1 _ 10 (Or.inr (by decide)) (Or.inr (by decide))).trans pf4
      have pf5 := (yz83647.1 _ 11 (Or.inr (by decide)) (Or.inr (by decide))).trans pf5
      have hv83633 := (yz83647.1 _ 3 (Or.inl (by rw [gx0]; decide)) (Or.inr (by decide))).trans hv83633
      have hv83638 := (yz83647.1 _ 4 (Or.inr (by decide)) (Or.inl (by rw [gx0]; decide))).trans hv83638
      have hfr : (∀ b j : Nat, (tag b ≠ 24 ∨ j ≠ 2) → (tag b ≠ 24 ∨ j ≠ 3) → (tag b ≠ 24 ∨ j ≠ 4) → (tag b ≠ 24 ∨ j ≠ 5) → (tag b ≠ 24 ∨ j ≠ 6) → (tag b ≠ 24 ∨ j ≠ 7) → (tag b ≠ 25 ∨ j ≠ 3) → (tag b ≠ 25 ∨ j ≠ 4) → fld F b j = fld Fo b j) ∧ EF tag F Fo := ⟨fun b j n24_2 n24_3 n24_4 n24_5 n24_6 n24_7 n25_3 n25_4 => (yz83647.1 b j n25_3 n25_4).trans (hfr.1 b j n24_2 n24_3 n24_4 n24_5 n24_6 n24_7 n25_3 n25_4), fun b j hb => (yz83647.2 b j hb).trans (hfr.2 b j hb)⟩
      have hrel := nsr_of (fun j => yz83647.2 _ j (Or.inl gx4)) (fun j => yz83647.2 _ j (Or.inr gx5)) hrel
      obtain ⟨z83648, qz83648, rz83648⟩ := xz83647_0
      refine lv_aload_n hx hb dX3_name_63 rfl (lv_at hl 1 rfl) ?_
      refine t_get (C := RX3) (T := TX3) (N := 13) X hT m0 g0 rfl rfl 3 (by decide) qw_163 inlX3 rfl dX3_name_64 (fun v83649 hv83649 ov83649 => ?_)
      obtain rfl : v83649 = .int z83648 := hv83649.symm.trans qz83648
      refine lv_if_ne (tgt := 75) hx hb dX3_name_67 (by decide) (fun c83650 => ?_) (fun c83650 => ?_)
      · have w83651 := cv_ne (rfl : z83648.toInt = z83648.toInt) (by decide : (0 : Int32).toInt = 0) c83650
        refine lv_iconst (v := 0) hx hb dX3_name_75 (by decide) ?_
        exact t_iret hQ X hT (⟨rg_all _, hfr, hrel⟩) (Nat.le_of_ble_eq_true rfl) (Nat.le_of_ble_eq_true rfl) dX3_name_76
      · have w83652 := cv_eq (rfl : z83648.toInt = z83648.toInt) (by decide : (0 : Int32).toInt = 0) c83650
        exfalso
        omega
    · have w83653 := cv_ne (rfl : z83642.toInt = z83642.toInt) (by decide : ((-1) : Int32).toInt = (-1)) c83643
      refine lv_aload_n hx hb dX3_name_41 rfl (lv_at hl 1 rfl) ?_
      refine t_get (C := RX3) (T := TX3) (N := 13) X hT m0 g0 rfl rfl 10 (by decide) qw_75 inlX3 rfl dX3_name_42 (fun v83654 hv83654 ov83654 => ?_)
      obtain rfl : v83654 = .ref x4 := hv83654.symm.trans pf4
      refine lv_iload_n hx hb dX3_name_45 rfl (lv_at hl 0 rfl) ?_
      refine t_ild X hT mx4 gx4 rfl (by omega) dX3_name_46 (fun z83655 vz83655 rz83655 => ?_)
      have rz83655 : (-2147483648) ≤ z83655.toInt ∧ z83655.toInt ≤ 2147483647 := rz83655
      refine lv_iload_n hx hb dX3_name_47 rfl (lv_at hl 2 rfl) ?_
      refine lv_icmp_eq (tgt := 63) hx hb dX3_name_48 (by decide) (fun c83656 => ?_) (fun c83656 => ?_)
      · have w83657 := cv_eq (rfl : z83655.toInt = z83655.toInt) (rfl : p1.toInt = p1.toInt) c83656
        refine lv_aload_n hx hb dX3_name_63 rfl (lv_at hl 1 rfl) ?_
        refine t_get (C := RX3) (T := TX3) (N := 13) X hT m0 g0 rfl rfl 3 (by decide) qw_163 inlX3 rfl dX3_name_64 (fun v83658 hv83658 ov83658 => ?_)
        obtain rfl : v83658 = .int z83641 := hv83658.symm.trans qz83641
        refine lv_if_ne (tgt := 75) hx hb dX3_name_67 (by decide) (fun c83659 => ?_) (fun c83659 => ?_)
        · have w83660 := cv_ne (rfl : z83641.toInt = z83641.toInt) (by decide : (0 : Int32).toInt = 0) c83659
          refine lv_iconst (v := 0) hx hb dX3_name_75 (by decide) ?_
          exact t_iret hQ X hT (⟨rg_all _, hfr, hrel⟩) (Nat.le_of_ble_eq_true rfl) (Nat.le_of_ble_eq_true rfl) dX3_name_76
        · have w83661 := cv_eq (rfl : z83641.toInt = z83641.toInt) (by decide : (0 : Int32).toInt = 0) c83659
          exfalso
          omega
      · have w83662 := cv_ne (rfl : z83655.toInt = z83655.toInt) (rfl : p1.toInt = p1.toInt) c83656
        refine lv_aload_n hx hb dX3_name_51 rfl (lv_at hl 1 rfl) ?_
        refine lv_iconst (v := 2) hx hb dX3_name_52 (by decide) ?_
        refine lv_aload_n hx hb dX3_name_53 rfl (lv_at hl 1 rfl) ?_
        refine t_get (C := RX3) (T := TX3) (N := 13) X hT m0 g0 rfl rfl 0 (by decide) qw_73 inlX3 rfl dX3_name_54 (fun v83663 hv83663 ov83663 => ?_)
        obtain rfl : v83663 = .ref x0 := hv83663.symm.trans pf0
        refine t_get (C := RX8) (T := TX8) (N := 8) X hT mx0 gx0 rfl rfl 4 (by decide) qw_227 inlX8 rfl dX3_name_57 (fun v83664 hv83664 ov83664 => ?_)
        obtain rfl : v83664 = .int z83639 := hv83664.symm.trans hv83638
        refine t_cVv (n := 2) (C := RX3) (T := TX3) (N := 13) (As := [.int 2, .int z83639]) (rest := []) X hT (kt111_X3_fail l G tag L F hT.2.2.2 p0 2 z83639 m0 g0 (by decide)) m0 g0 rfl rfl qw_287 qw_288 qw_289 qw_28 qw_290 ⟨rfl, by decide +kernel, by decide +kernel, by decide +kernel⟩ ⟨Nat.le_of_ble_eq_true rfl, Nat.le_of_ble_eq_true rfl⟩ hl rfl rfl (Nat.le_of_ble_eq_true rfl) dX3_name_60 ⟨Nat.le_of_ble_eq_true rfl, Nat.le_of_ble_eq_true rfl⟩ (fun F H locs hT hz83665 => ?_)
        obtain ⟨yz83665, xz83665_0⟩ := hz83665
        have pf0 := (yz83665.1 _ 0 (Or.inr (by decide)) (Or.inr (by decide))).trans pf0
        have pf1 := (yz83665.1 _ 1 (Or.inr (by decide)) (Or.inr (by decide))).trans pf1
        have pf2 := (yz83665.1 _ 2 (Or.inr (by decide)) (Or.inr (by decide))).trans pf2
        have pf3 := (yz83665.1 _ 0 (Or.inr (by decide)) (Or.inr (by decide))).trans pf3
        have pf4 := (yz83665.1 _ 10 (Or.inr (by decide)) (Or.inr (by decide))).trans pf4
        have pf5 := (yz83665.1 _ 11 (Or.inr (by decide)) (Or.inr (by decide))).trans pf5
        have hv83633 := (yz83665.1 _ 3 (Or.inl (by rw [gx0]; decide)) (Or.inr (by decide))).trans hv83633
        have hv83638 := (yz83665.1 _ 4 (Or.inr (by decide)) (Or.inl (by rw [gx0]; decide))).trans hv83638
        have vz83655 := (yz83665.2 _ _ (Or.inl gx4)).trans vz83655
        have hfr : (∀ b j : Nat, (tag b ≠ 24 ∨ j ≠ 2) → (tag b ≠ 24 ∨ j ≠ 3) → (tag b ≠ 24 ∨ j ≠ 4) → (tag b ≠ 24 ∨ j ≠ 5) → (tag b ≠ 24 ∨ j ≠ 6) → (tag b ≠ 24 ∨ j ≠ 7) → (tag b ≠ 25 ∨ j ≠ 3) → (tag b ≠ 25 ∨ j ≠ 4) → fld F b j = fld Fo b j) ∧ EF tag F Fo := ⟨fun b j n24_2 n24_3 n24_4 n24_5 n24_6 n24_7 n25_3 n25_4 => (yz83665.1 b j n25_3 n25_4).trans (hfr.1 b j n24_2 n24_3 n24_4 n24_5 n24_6 n24_7 n25_3 n25_4), fun b j hb => (yz83665.2 b j hb).trans (hfr.2 b j hb)⟩
        have hrel := nsr_of (fun j => yz83665.2 _ j (Or.inl gx4)) (fun j => yz83665.2 _ j (Or.inr gx5)) hrel
        obtain ⟨z83666, qz83666, rz83666⟩ := xz83665_0
        refine lv_aload_n hx hb dX3_name_63 rfl (lv_at hl 1 rfl) ?_
        refine t_get (C := RX3) (T := TX3) (N := 13) X hT m0 g0 rfl rfl 3 (by decide) qw_163 inlX3 rfl dX3_name_64 (fun v83667 hv83667 ov83667 => ?_)
        obtain rfl : v83667 = .int z83666 := hv83667.symm.trans qz83666
        refine lv_if_ne (tgt := 75) hx hb dX3_name_67 (by decide) (fun c83668 => ?_) (fun c83668 => ?_)
        · have w83669 := cv_ne (rfl : z83666.toInt = z83666.toInt) (by decide : (0 : Int32).toInt = 0) c83668
          refine lv_iconst (v := 0) hx hb dX3_name_75 (by decide) ?_
          exact t_iret hQ X hT (⟨rg_all _, hfr, hrel⟩) (Nat.le_of_ble_eq_true rfl) (Nat.le_of_ble_eq_true rfl) dX3_name_76
        · have w83670 := cv_eq (rfl : z83666.toInt = z83666.toInt) (by decide : (0 : Int32).toInt = 0) c83668
          exfalso
          omega
  · have w83671 := cv_eq (rfl : z83634.toInt = z83634.toInt) (by decide : (1 : Int32).toInt = 1) c83635
    refine lv_aload_n hx hb dX3_name_11 rfl (lv_at hl 0 rfl) ?_
    refine t_cVi (n := 0) (C := RX3) (T := TX3) (N := 13) (As := []) (rest := []) X hT (kt108_X3_lineSort l G tag L F hT.2.2.2 p0 x0 x1 x2 x3 x4 x5 m0 g0 mx0 gx0 pf0 mx1 gx1 pf1 mx2 gx2 pf2 mx3 gx3 pf3 mx4 gx4 pf4 mx5 gx5 pf5) m0 g0 rfl rfl qw_230 qw_231 qw_232 qw_28 qw_233 ⟨rfl, by decide +kernel, by decide +kernel, by decide +kernel⟩ ⟨Nat.le_of_ble_eq_true rfl, Nat.le_of_ble_eq_true rfl⟩ hl rfl rfl (Nat.le_of_ble_eq_true rfl) dX3_name_12 ⟨Nat.le_of_ble_eq_true rfl, Nat.le_of_ble_eq_true rfl⟩ (fun z83672 F9 H locs hT hz83672 => ?_)
    obtain ⟨fz83672, hz83672⟩ := hz83672
    rw [fz83672] at hT
    refine lv_iconst (v := (-1)) hx hb dX3_name_15 (by decide) ?_
    refine lv_icmp_eq (tgt := 31) hx hb dX3_name_16 (by decide) (fun c83673 => ?_) (fun c83673 => ?_)
    · have w83674 := cv_eq (rfl : z83672.toInt = z83672.toInt) (by decide : ((-1) : Int32).toInt = (-1)) c83673
      refine lv_aload_n hx hb dX3_name_31 rfl (lv_at hl 0 rfl) ?_
      refine t_cVi (n := 0) (C := RX3) (T := TX3) (N := 13) (As := []) (rest := []) X hT (kt113_X3_findName l G tag L F hT.2.2.2 p0 x0 x1 x2 x3 x4 x5 m0 g0 mx0 gx0 pf0 mx1 gx1 pf1 mx2 gx2 pf2 mx3 gx3 pf3 mx4 gx4 pf4 mx5 gx5 pf5) m0 g0 rfl rfl qw_361 qw_362 qw_363 qw_28 qw_364 ⟨rfl, by decide +kernel, by decide +kernel, by decide +kernel⟩ ⟨Nat.le_of_ble_eq_true rfl, Nat.le_of_ble_eq_true rfl⟩ hl rfl rfl (Nat.le_of_ble_eq_true rfl) dX3_name_32 ⟨Nat.le_of_ble_eq_true rfl, Nat.le_of_ble_eq_true rfl⟩ (fun z83675 F9 H locs hT hz83675 => ?_)
      obtain ⟨fz83675, hz83675⟩ := hz83675
      rw [fz83675] at hT
      refine lv_istore_n (lv' := [(2, .int z83675), (0, .ref p0), (1, .int p1)]) hx hb dX3_name_35 rfl hl (by decide) rfl (fun ls hl => ?_)
      refine lv_iload_n hx hb dX3_name_36 rfl (lv_at hl 0 rfl) ?_
      refine lv_iconst (v := (-1)) hx hb dX3_name_37 (by decide) ?_
      refine lv_icmp_eq (tgt := 51) hx hb dX3_name_38 (by decide) (fun c83676 => ?_) (fun c83676 => ?_)
      · have w83677 := cv_eq (rfl : z83675.toInt = z83675.toInt) (by decide : ((-1) : Int32).toInt = (-1)) c83676
        refine lv_aload_n hx hb dX3_name_51 rfl (lv_at hl 1 rfl) ?_
        refine lv_iconst (v := 2) hx hb dX3_name_52 (by decide) ?_
        refine lv_aload_n hx hb dX3_name_53 rfl (lv_at hl 1 rfl) ?_
        refine t_get (C := RX3) (T := TX3) (N := 13) X hT m0 g0 rfl rfl 0 (by decide) qw_73 inlX3 rfl dX3_name_54 (fun v83678 hv83678 ov83678 => ?_)
        obtain rfl : v83678 = .ref x0 := hv83678.symm.trans pf0
        refine t_get (C := RX8) (T := TX8) (N := 8) X hT mx0 gx0 rfl rfl 4 (by decide) qw_227 inlX8 rfl dX3_name_57 (fun v83679 hv83679 ov83679 => ?_)
        obtain ⟨z83680, rfl, rz83680⟩ := okV_i ov83679
        refine t_cVv (n := 2) (C := RX3) (T := TX3) (N := 13) (As := [.int 2, .int z83680]) (rest := []) X hT (kt111_X3_fail l G tag L F hT.2.2.2 p0 2 z83680 m0 g0 (by decide)) m0 g0 rfl rfl qw_287 qw_288 qw_289 qw_28 qw_290 ⟨rfl, by decide +kernel, by decide +kernel, by decide +kernel⟩ ⟨Nat.le_of_ble_eq_true rfl, Nat.le_of_ble_eq_true rfl⟩ hl rfl rfl (Nat.le_of_ble_eq_true rfl) dX3_name_60 ⟨Nat.le_of_ble_eq_true rfl, Nat.le_of_ble_eq_true rfl⟩ (fun F H locs hT hz83681 => ?_)
        obtain ⟨yz83681, xz83681_0⟩ := hz83681
        have pf0 := (yz83681.1 _ 0 (Or.inr (by decide)) (Or.inr (by decide))).trans pf0
        have pf1 := (yz83681.1 _ 1 (Or.inr (by decide)) (Or.inr (by decide))).trans pf1
        have pf2 := (yz83681.1 _ 2 (Or.inr (by decide)) (Or.inr (by decide))).trans pf2
        have pf3 := (yz83681.1 _ 0 (Or.inr (by decide)) (Or.inr (by decide))).trans pf3
        have pf4 := (yz83681.1 _ 10 (Or.inr (by decide)) (Or.inr (by decide))).trans pf4
        have pf5 := (yz83681.1 _ 11 (Or.inr (by decide)) (Or.inr (by decide))).trans pf5
        have hv83633 := (yz83681.1 _ 3 (Or.inl (by rw [gx0]; decide)) (Or.inr (by decide))).trans hv83633
        have hv83679 := (yz83681.1 _ 4 (Or.inr (by decide)) (Or.inl (by rw [gx0]; decide))).trans hv83679
        have hfr : (∀ b j : Nat, (tag b ≠ 24 ∨ j ≠ 2) → (tag b ≠ 24 ∨ j ≠ 3) → (tag b ≠ 24 ∨ j ≠ 4) → (tag b ≠ 24 ∨ j ≠ 5) → (tag b ≠ 24 ∨ j ≠ 6) → (tag b ≠ 24 ∨ j ≠ 7) → (tag b ≠ 25 ∨ j ≠ 3) → (tag b ≠ 25 ∨ j ≠ 4) → fld F b j = fld Fo b j) ∧ EF tag F Fo := ⟨fun b j n24_2 n24_3 n24_4 n24_5 n24_6 n24_7 n25_3 n25_4 => (yz83681.1 b j n25_3 n25_4).trans (hfr.1 b j n24_2 n24_3 n24_4 n24_5 n24_6 n24_7 n25_3 n25_4), fun b j hb => (yz83681.2 b j hb).trans (hfr.2 b j hb)⟩
        have hrel := nsr_of (fun j => yz83681.2 _ j (Or.inl gx4)) (fun j => yz83681.2 _ j (Or.inr gx5)) hrel
        obtain ⟨z83682, qz83682, rz83682⟩ := xz83681_0
        refine lv_aload_n hx hb dX3_name_63 rfl (lv_at hl 1 rfl) ?_
        refine t_get (C := RX3) (T := TX3) (N := 13) X hT m0 g0 rfl rfl 3 (by decide) qw_163 inlX3 rfl dX3_name_64 (fun v83683 hv83683 ov83683 => ?_)
        obtain rfl : v83683 = .int z83682 := hv83683.symm.trans qz83682
        refine lv_if_ne (tgt := 75) hx hb dX3_name_67 (by decide) (fun c83684 => ?_) (fun c83684 => ?_)
        · have w83685 := cv_ne (rfl : z83682.toInt = z83682.toInt) (by decide : (0 : Int32).toInt = 0) c83684
          refine lv_iconst (v := 0) hx hb dX3_name_75 (by decide) ?_
          exact t_iret hQ X hT (⟨rg_all _, hfr, hrel⟩) (Nat.le_of_ble_eq_true rfl) (Nat.le_of_ble_eq_true rfl) dX3_name_76
        · have w83686 := cv_eq (rfl : z83682.toInt = z83682.toInt) (by decide : (0 : Int32).toInt = 0) c83684
          exfalso
          omega
      · have w83687 := cv_ne (rfl : z83675.toInt = z83675.toInt) (by decide : ((-1) : Int32).toInt = (-1)) c83676
        refine lv_aload_n hx hb dX3_name_41 rfl (lv_at hl 1 rfl) ?_
        refine t_get (C := RX3) (T := TX3) (N := 13) X hT m0 g0 rfl rfl 10 (by decide) qw_75 inlX3 rfl dX3_name_42 (fun v83688 hv83688 ov83688 => ?_)
        obtain rfl : v83688 = .ref x4 := hv83688.symm.trans pf4
        refine lv_iload_n hx hb dX3_name_45 rfl (lv_at hl 0 rfl) ?_
        refine t_ild X hT mx4 gx4 rfl (by omega) dX3_name_46 (fun z83689 vz83689 rz83689 => ?_)
        have rz83689 : (-2147483648) ≤ z83689.toInt ∧ z83689.toInt ≤ 2147483647 := rz83689
        refine lv_iload_n hx hb dX3_name_47 rfl (lv_at hl 2 rfl) ?_
        refine lv_icmp_eq (tgt := 63) hx hb dX3_name_48 (by decide) (fun c83690 => ?_) (fun c83690 => ?_)
        · have w83691 := cv_eq (rfl : z83689.toInt = z83689.toInt) (rfl : p1.toInt = p1.toInt) c83690
          refine lv_aload_n hx hb dX3_name_63 rfl (lv_at hl 1 rfl) ?_
          refine t_get (C := RX3) (T := TX3) (N := 13) X hT m0 g0 rfl rfl 3 (by decide) qw_163 inlX3 rfl dX3_name_64 (fun v83692 hv83692 ov83692 => ?_)
          obtain ⟨z83693, rfl, rz83693⟩ := okV_i ov83692
          refine lv_if_ne (tgt := 75) hx hb dX3_name_67 (by decide) (fun c83694 => ?_) (fun c83694 => ?_)
          · have w83695 := cv_ne (rfl : z83693.toInt = z83693.toInt) (by decide : (0 : Int32).toInt = 0) c83694
            refine lv_iconst (v := 0) hx hb dX3_name_75 (by decide) ?_
            exact t_iret hQ X hT (⟨rg_all _, hfr, hrel⟩) (Nat.le_of_ble_eq_true rfl) (Nat.le_of_ble_eq_true rfl) dX3_name_76
          · have w83696 := cv_eq (rfl : z83693.toInt = z83693.toInt) (by decide : (0 : Int32).toInt = 0) c83694
            refine lv_iload_n hx hb dX3_name_70 rfl (lv_at hl 0 rfl) ?_
            refine lv_iconst (v := (-1)) hx hb dX3_name_71 (by decide) ?_
            refine lv_icmp_ne (tgt := 77) hx hb dX3_name_72 (by decide) (fun c83697 => ?_) (fun c83697 => ?_)
            · have w83698 := cv_ne (rfl : z83675.toInt = z83675.toInt) (by decide : ((-1) : Int32).toInt = (-1)) c83697
              refine lv_aload_n hx hb dX3_name_77 rfl (lv_at hl 1 rfl) ?_
              refine t_get (C := RX3) (T := TX3) (N := 13) X hT m0 g0 rfl rfl 0 (by decide) qw_73 inlX3 rfl dX3_name_78 (fun v83699 hv83699 ov83699 => ?_)
              obtain rfl : v83699 = .ref x0 := hv83699.symm.trans pf0
              refine t_cVv (n := 0) (C := RX8) (T := TX8) (N := 8) (As := []) (rest := []) X hT (kt98_X8_advance l G tag L F hT.2.2.2 x0 x3 mx0 gx0 mx3 gx3 pf3) mx0 gx0 rfl rfl qw_305 qw_197 qw_198 qw_72 qw_199 ⟨rfl, by decide +kernel, by decide +kernel, by decide +kernel⟩ ⟨Nat.le_of_ble_eq_true rfl, Nat.le_of_ble_eq_true rfl⟩ hl rfl rfl (Nat.le_of_ble_eq_true rfl) dX3_name_81 ⟨Nat.le_of_ble_eq_true rfl, Nat.le_of_ble_eq_true rfl⟩ (fun F H locs hT hz83700 => ?_)
              have yz83700 := hz83700
              have pf0 := (yz83700.1 _ 0 (Or.inr (by decide)) (Or.inr (by decide)) (Or.inr (by decide)) (Or.inr (by decide)) (Or.inr (by decide)) (Or.inr (by decide))).trans pf0
              have pf1 := (yz83700.1 _ 1 (Or.inr (by decide)) (Or.inr (by decide)) (Or.inr (by decide)) (Or.inr (by decide)) (Or.inr (by decide)) (Or.inr (by decide))).trans pf1
              have pf2 := (yz83700.1 _ 2 (Or.inl (by rw [g0]; decide)) (Or.inr (by decide)) (Or.inr (by decide)) (Or.inr (by decide)) (Or.inr (by decide)) (Or.inr (by decide))).trans pf2
              have pf3 := (yz83700.1 _ 0 (Or.inr (by decide)) (Or.inr (by decide)) (Or.inr (by decide)) (Or.inr (by decide)) (Or.inr (by decide)) (Or.inr (by decide))).trans pf3
              have pf4 := (yz83700.1 _ 10 (Or.inr (by decide)) (Or.inr (by decide)) (Or.inr (by decide)) (Or.inr (by decide)) (Or.inr (by decide)) (Or.inr (by decide))).trans pf4
              have pf5 := (yz83700.1 _ 11 (Or.inr (by decide)) (Or.inr (by decide)) (Or.inr (by decide)) (Or.inr (by decide)) (Or.inr (by decide)) (Or.inr (by decide))).trans pf5
              have vz83689 := (yz83700.2 _ _ (Or.inl gx4)).trans vz83689
              have hv83692 := (yz83700.1 _ 3 (Or.inr (by decide)) (Or.inl (by rw [g0]; decide)) (Or.inr (by decide)) (Or.inr (by decide)) (Or.inr (by decide)) (Or.inr (by decide))).trans hv83692
              have hfr : (∀ b j : Nat, (tag b ≠ 24 ∨ j ≠ 2) → (tag b ≠ 24 ∨ j ≠ 3) → (tag b ≠ 24 ∨ j ≠ 4) → (tag b ≠ 24 ∨ j ≠ 5) → (tag b ≠ 24 ∨ j ≠ 6) → (tag b ≠ 24 ∨ j ≠ 7) → (tag b ≠ 25 ∨ j ≠ 3) → (tag b ≠ 25 ∨ j ≠ 4) → fld F b j = fld Fo b j) ∧ EF tag F Fo := ⟨fun b j n24_2 n24_3 n24_4 n24_5 n24_6 n24_7 n25_3 n25_4 => (yz83700.1 b j n24_2 n24_3 n24_4 n24_5 n24_6 n24_7).trans (hfr.1 b j n24_2 n24_3 n24_4 n24_5 n24_6 n24_7 n25_3 n25_4), fun b j hb => (yz83700.2 b j hb).trans (hfr.2 b j hb)⟩
              have hrel := nsr_of (fun j => yz83700.2 _ j (Or.inl gx4)) (fun j => yz83700.2 _ j (Or.inr gx5)) hrel
              refine lv_aload_n hx hb dX3_name_84 rfl (lv_at hl 1 rfl) ?_
              refine t_get (C := RX3) (T := TX3) (N := 13) X hT m0 g0 rfl rfl 11 (by decide) qw_76 inlX3 rfl dX3_name_85 (fun v83701 hv83701 ov83701 => ?_)
              obtain rfl : v83701 = .ref x5 := hv83701.symm.trans pf5
              refine lv_iload_n hx hb dX3_name_88 rfl (lv_at hl 0 rfl) ?_
              refine t_ild X hT mx5 gx5 rfl (by omega) dX3_name_89 (fun z83702 vz83702 rz83702 => ?_)
              have rz83702 : (-2147483648) ≤ z83702.toInt ∧ z83702.toInt ≤ 2147483647 := rz83702
              exact t_iret hQ X hT (⟨rg_all _, hfr, hrel⟩) (Nat.le_of_ble_eq_true rfl) (Nat.le_of_ble_eq_true rfl) dX3_name_90
            · have w83703 := cv_eq (rfl : z83675.toInt = z83675.toInt) (by decide : ((-1) : Int32).toInt = (-1)) c83697
              exfalso
              omega
        · have w83704 := cv_ne (rfl : z83689.toInt = z83689.toInt) (rfl : p1.toInt = p1.toInt) c83690
          refine lv_aload_n hx hb dX3_name_51 rfl (lv_at hl 1 rfl) ?_
          refine lv_iconst (v := 2) hx hb dX3_name_52 (by decide) ?_
          refine lv_aload_n hx hb dX3_name_53 rfl (lv_at hl 1 rfl) ?_
          refine t_get (C := RX3) (T := TX3) (N := 13) X hT m0 g0 rfl rfl 0 (by decide) qw_73 inlX3 rfl dX3_name_54 (fun v83705 hv83705 ov83705 => ?_)
          obtain rfl : v83705 = .ref x0 := hv83705.symm.trans pf0
          refine t_get (C := RX8) (T := TX8) (N := 8) X hT mx0 gx0 rfl rfl 4 (by decide) qw_227 inlX8 rfl dX3_name_57 (fun v83706 hv83706 ov83706 => ?_)
          obtain ⟨z83707, rfl, rz83707⟩ := okV_i ov83706
          refine t_cVv (n := 2) (C := RX3) (T := TX3) (N := 13) (As := [.int 2, .int z83707]) (rest := []) X hT (kt111_X3_fail l G tag L F hT.2.2.2 p0 2 z83707 m0 g0 (by decide)) m0 g0 rfl rfl qw_287 qw_288 qw_289 qw_28 qw_290 ⟨rfl, by decide +kernel, by decide +kernel, by decide +kernel⟩ ⟨Nat.le_of_ble_eq_true rfl, Nat.le_of_ble_eq_true rfl⟩ hl rfl rfl (Nat.le_of_ble_eq_true rfl) dX3_name_60 ⟨Nat.le_of_ble_eq_true rfl, Nat.le_of_ble_eq_true rfl⟩ (fun F H locs hT hz83708 => ?_)
          obtain ⟨yz83708, xz83708_0⟩ := hz83708
          have pf0 := (yz83708.1 _ 0 (Or.inr (by decide)) (Or.inr (by decide))).trans pf0
          have pf1 := (yz83708.1 _ 1 (Or.inr (by decide)) (Or.inr (by decide))).trans pf1
          have pf2 := (yz83708.1 _ 2 (Or.inr (by decide)) (Or.inr (by decide))).trans pf2
          have pf3 := (yz83708.1 _ 0 (Or.inr (by decide)) (Or.inr (by decide))).trans pf3
          have pf4 := (yz83708.1 _ 10 (Or.inr (by decide)) (Or.inr (by decide))).trans pf4
          have pf5 := (yz83708.1 _ 11 (Or.inr (by decide)) (Or.inr (by decide))).trans pf5
          have hv83633 := (yz83708.1 _ 3 (Or.inl (by rw [gx0]; decide)) (Or.inr (by decide))).trans hv83633
          have vz83689 := (yz83708.2 _ _ (Or.inl gx4)).trans vz83689
          have hv83706 := (yz83708.1 _ 4 (Or.inr (by decide)) (Or.inl (by rw [gx0]; decide))).trans hv83706
          have hfr : (∀ b j : Nat, (tag b ≠ 24 ∨ j ≠ 2) → (tag b ≠ 24 ∨ j ≠ 3) → (tag b ≠ 24 ∨ j ≠ 4) → (tag b ≠ 24 ∨ j ≠ 5) → (tag b ≠ 24 ∨ j ≠ 6) → (tag b ≠ 24 ∨ j ≠ 7) → (tag b ≠ 25 ∨ j ≠ 3) → (tag b ≠ 25 ∨ j ≠ 4) → fld F b j = fld Fo b j) ∧ EF tag F Fo := ⟨fun b j n24_2 n24_3 n24_4 n24_5 n24_6 n24_7 n25_3 n25_4 => (yz83708.1 b j n25_3 n25_4).trans (hfr.1 b j n24_2 n24_3 n24_4 n24_5 n24_6 n24_7 n25_3 n25_4), fun b j hb => (yz83708.2 b j hb).trans (hfr.2 b j hb)⟩
          have hrel := nsr_of (fun j => yz83708.2 _ j (Or.inl gx4)) (fun j => yz83708.2 _ j (Or.inr gx5)) hrel
          obtain ⟨z83709, qz83709, rz83709⟩ := xz83708_0
          refine lv_aload_n hx hb dX3_name_63 rfl (lv_at hl 1 rfl) ?_
          refine t_get (C := RX3) (T := TX3) (N := 13) X hT m0 g0 rfl rfl 3 (by decide) qw_163 inlX3 rfl dX3_name_64 (fun v83710 hv83710 ov83710 => ?_)
          obtain rfl : v83710 = .int z83709 := hv83710.symm.trans qz83709
          refine lv_if_ne (tgt := 75) hx hb dX3_name_67 (by decide) (fun c83711 => ?_) (fun c83711 => ?_)
          · have w83712 := cv_ne (rfl : z83709.toInt = z83709.toInt) (by decide : (0 : Int32).toInt = 0) c83711
            refine lv_iconst (v := 0) hx hb dX3_name_75 (by decide) ?_
            exact t_iret hQ X hT (⟨rg_all _, hfr, hrel⟩) (Nat.le_of_ble_eq_true rfl) (Nat.le_of_ble_eq_true rfl) dX3_name_76
          · have w83713 := cv_eq (rfl : z83709.toInt = z83709.toInt) (by decide : (0 : Int32).toInt = 0) c83711
            exfalso
            omega
    · have w83714 := cv_ne (rfl : z83672.toInt = z83672.toInt) (by decide : ((-1) : Int32).toInt = (-1)) c83673
      refine lv_aload_n hx hb dX3_name_19 rfl (lv_at hl 0 rfl) ?_
      refine lv_iconst (v := 1) hx hb dX3_name_20 (by decide) ?_
      refine lv_aload_n hx hb dX3_name_21 rfl (lv_at hl 0 rfl) ?_
      refine t_get (C := RX3) (T := TX3) (N := 13) X hT m0 g0 rfl rfl 0 (by decide) qw_73 inlX3 rfl dX3_name_22 (fun v83715 hv83715 ov83715 => ?_)
      obtain rfl : v83715 = .ref x0 := hv83715.symm.trans pf0
      refine t_get (C := RX8) (T := TX8) (N := 8) X hT mx0 gx0 rfl rfl 4 (by decide) qw_227 inlX8 rfl dX3_name_25 (fun v83716 hv83716 ov83716 => ?_)
      obtain ⟨z83717, rfl, rz83717⟩ := okV_i ov83716
      refine t_cVv (n := 2) (C := RX3) (T := TX3) (N := 13) (As := [.int 1, .int z83717]) (rest := []) X hT (kt111_X3_fail l G tag L F hT.2.2.2 p0 1 z83717 m0 g0 (by decide)) m0 g0 rfl rfl qw_287 qw_288 qw_289 qw_28 qw_290 ⟨rfl, by decide +kernel, by decide +kernel, by decide +kernel⟩ ⟨Nat.le_of_ble_eq_true rfl, Nat.le_of_ble_eq_true rfl⟩ hl rfl rfl (Nat.le_of_ble_eq_true rfl) dX3_name_28 ⟨Nat.le_of_ble_eq_true rfl, Nat.le_of_ble_eq_true rfl⟩ (fun F H locs hT hz83718 => ?_)
      obtain ⟨yz83718, xz83718_0⟩ := hz83718
      have pf0 := (yz83718.1 _ 0 (Or.inr (by decide)) (Or.inr (by decide))).trans pf0
      have pf1 := (yz83718.1 _ 1 (Or.inr (by decide)) (Or.inr (by decide))).trans pf1
      have pf2 := (yz83718.1 _ 2 (Or.inr (by decide)) (Or.inr (by decide))).trans pf2
      have pf3 := (yz83718.1 _ 0 (Or.inr (by decide)) (Or.inr (by decide))).trans pf3
      have pf4 := (yz83718.1 _ 10 (Or.inr (by decide)) (Or.inr (by decide))).trans pf4
      have pf5 := (yz83718.1 _ 11 (Or.inr (by decide)) (Or.inr (by decide))).trans pf5
      have hv83633 := (yz83718.1 _ 3 (Or.inl (by rw [gx0]; decide)) (Or.inr (by decide))).trans hv83633
      have hv83716 := (yz83718.1 _ 4 (Or.inr (by decide)) (Or.inl (by rw [gx0]; decide))).trans hv83716
      have hfr : (∀ b j : Nat, (tag b ≠ 24 ∨ j ≠ 2) → (tag b ≠ 24 ∨ j ≠ 3) → (tag b ≠ 24 ∨ j ≠ 4) → (tag b ≠ 24 ∨ j ≠ 5) → (tag b ≠ 24 ∨ j ≠ 6) → (tag b ≠ 24 ∨ j ≠ 7) → (tag b ≠ 25 ∨ j ≠ 3) → (tag b ≠ 25 ∨ j ≠ 4) → fld F b j = fld Fo b j) ∧ EF tag F Fo := ⟨fun b j n24_2 n24_3 n24_4 n24_5 n24_6 n24_7 n25_3 n25_4 => (yz83718.1 b j n25_3 n25_4).trans (hfr.1 b j n24_2 n24_3 n24_4 n24_5 n24_6 n24_7 n25_3 n25_4), fun b j hb => (yz83718.2 b j hb).trans (hfr.2 b j hb)⟩
      have hrel := nsr_of (fun j => yz83718.2 _ j (Or.inl gx4)) (fun j => yz83718.2 _ j (Or.inr gx5)) hrel
      obtain ⟨z83719, qz83719, rz83719⟩ := xz83718_0
      refine lv_aload_n hx hb dX3_name_31 rfl (lv_at hl 0 rfl) ?_
      refine t_cVi (n := 0) (C := RX3) (T := TX3) (N := 13) (As := []) (rest := []) X hT (kt113_X3_findName l G tag L F hT.2.2.2 p0 x0 x1 x2 x3 x4 x5 m0 g0 mx0 gx0 pf0 mx1 gx1 pf1 mx2 gx2 pf2 mx3 gx3 pf3 mx4 gx4 pf4 mx5 gx5 pf5) m0 g0 rfl rfl qw_361 qw_362 qw_363 qw_28 qw_364 ⟨rfl, by decide +kernel, by decide +kernel, by decide +kernel⟩ ⟨Nat.le_of_ble_eq_true rfl, Nat.le_of_ble_eq_true rfl⟩ hl rfl rfl (Nat.le_of_ble_eq_true rfl) dX3_name_32 ⟨Nat.le_of_ble_eq_true rfl, Nat.le_of_ble_eq_true rfl⟩ (fun z83720 F9 H locs hT hz83720 => ?_)
      obtain ⟨fz83720, hz83720⟩ := hz83720
      rw [fz83720] at hT
      refine lv_istore_n (lv' := [(2, .int z83720), (0, .ref p0), (1, .int p1)]) hx hb dX3_name_35 rfl hl (by decide) rfl (fun ls hl => ?_)
      refine lv_iload_n hx hb dX3_name_36 rfl (lv_at hl 0 rfl) ?_
      refine lv_iconst (v := (-1)) hx hb dX3_name_37 (by decide) ?_
      refine lv_icmp_eq (tgt := 51) hx hb dX3_name_38 (by decide) (fun c83721 => ?_) (fun c83721 => ?_)
      · have w83722 := cv_eq (rfl : z83720.toInt = z83720.toInt) (by decide : ((-1) : Int32).toInt = (-1)) c83721
        refine lv_aload_n hx hb dX3_name_51 rfl (lv_at hl 1 rfl) ?_
        refine lv_iconst (v := 2) hx hb dX3_name_52 (by decide) ?_
        refine lv_aload_n hx hb dX3_name_53 rfl (lv_at hl 1 rfl) ?_
        refine t_get (C := RX3) (T := TX3) (N := 13) X hT m0 g0 rfl rfl 0 (by decide) qw_73 inlX3 rfl dX3_name_54 (fun v83723 hv83723 ov83723 => ?_)
        obtain rfl : v83723 = .ref x0 := hv83723.symm.trans pf0
        refine t_get (C := RX8) (T := TX8) (N := 8) X hT mx0 gx0 rfl rfl 4 (by decide) qw_227 inlX8 rfl dX3_name_57 (fun v83724 hv83724 ov83724 => ?_)
        obtain rfl : v83724 = .int z83717 := hv83724.symm.trans hv83716
        refine t_cVv (n := 2) (C := RX3) (T := TX3) (N := 13) (As := [.int 2, .int z83717]) (rest := []) X hT (kt111_X3_fail l G tag L F hT.2.2.2 p0 2 z83717 m0 g0 (by decide)) m0 g0 rfl rfl qw_287 qw_288 qw_289 qw_28 qw_290 ⟨rfl, by decide +kernel, by decide +kernel, by decide +kernel⟩ ⟨Nat.le_of_ble_eq_true rfl, Nat.le_of_ble_eq_true rfl⟩ hl rfl rfl (Nat.le_of_ble_eq_true rfl) dX3_name_60 ⟨Nat.le_of_ble_eq_true rfl, Nat.le_of_ble_eq_true rfl⟩ (fun F H locs hT hz83725 => ?_)
        obtain ⟨yz83725, xz83725_0⟩ := hz83725
        have pf0 := (yz83725.1 _ 0 (Or.inr (by decide)) (Or.inr (by decide))).trans pf0
        have pf1 := (yz83725.1 _ 1 (Or.inr (by decide)) (Or.inr (by decide))).trans pf1
        have pf2 := (yz83725.1 _ 2 (Or.inr (by decide)) (Or.inr (by decide))).trans pf2
        have pf3 := (yz83725.1 _ 0 (Or.inr (by decide)) (Or.inr (by decide))).trans pf3
        have pf4 := (yz83725.1 _ 10 (Or.inr (by decide)) (Or.inr (by decide))).trans pf4
        have pf5 := (yz83725.1 _ 11 (Or.inr (by decide)) (Or.inr (by decide))).trans pf5
        have hv83633 := (yz83725.1 _ 3 (Or.inl (by rw [gx0]; decide)) (Or.inr (by decide))).trans hv83633
        have hv83716 := (yz83725.1 _ 4 (Or.inr (by decide)) (Or.inl (by rw [gx0]; decide))).trans hv83716
        have hfr : (∀ b j : Nat, (tag b ≠ 24 ∨ j ≠ 2) → (tag b ≠ 24 ∨ j ≠ 3) → (tag b ≠ 24 ∨ j ≠ 4) → (tag b ≠ 24 ∨ j ≠ 5) → (tag b ≠ 24 ∨ j ≠ 6) → (tag b ≠ 24 ∨ j ≠ 7) → (tag b ≠ 25 ∨ j ≠ 3) → (tag b ≠ 25 ∨ j ≠ 4) → fld F b j = fld Fo b j) ∧ EF tag F Fo := ⟨fun b j n24_2 n24_3 n24_4 n24_5 n24_6 n24_7 n25_3 n25_4 => (yz83725.1 b j n25_3 n25_4).trans (hfr.1 b j n24_2 n24_3 n24_4 n24_5 n24_6 n24_7 n25_3 n25_4), fun b j hb => (yz83725.2 b j hb).trans (hfr.2 b j hb)⟩
        have hrel := nsr_of (fun j => yz83725.2 _ j (Or.inl gx4)) (fun j => yz83725.2 _ j (Or.inr gx5)) hrel
        obtain ⟨z83726, qz83726, rz83726⟩ := xz83725_0
        refine lv_aload_n hx hb dX3_name_63 rfl (lv_at hl 1 rfl) ?_
        refine t_get (C := RX3) (T := TX3) (N := 13) X hT m0 g0 rfl rfl 3 (by decide) qw_163 inlX3 rfl dX3_name_64 (fun v83727 hv83727 ov83727 => ?_)
        obtain rfl : v83727 = .int z83726 := hv83727.symm.trans qz83726
        refine lv_if_ne (tgt := 75) hx hb dX3_name_67 (by decide) (fun c83728 => ?_) (fun c83728 => ?_)
        · have w83729 := cv_ne (rfl : z83726.toInt = z83726.toInt) (by decide : (0 : Int32).toInt = 0) c83728
          refine lv_iconst (v := 0) hx hb dX3_name_75 (by decide) ?_
          exact t_iret hQ X hT (⟨rg_all _, hfr, hrel⟩) (Nat.le_of_ble_eq_true rfl) (Nat.le_of_ble_eq_true rfl) dX3_name_76
        · have w83730 := cv_eq (rfl : z83726.toInt = z83726.toInt) (by decide : (0 : Int32).toInt = 0) c83728
          exfalso
          omega
      · have w83731 := cv_ne (rfl : z83720.toInt = z83720.toInt) (by decide : ((-1) : Int32).toInt = (-1)) c83721
        refine lv_aload_n hx hb dX3_name_41 rfl (lv_at hl 1 rfl) ?_
        refine t_get (C := RX3) (T := TX3) (N := 13) X hT m0 g0 rfl rfl 10 (by decide) qw_75 inlX3 rfl dX3_name_42 (fun v83732 hv83732 ov83732 => ?_)
        obtain rfl : v83732 = .ref x4 := hv83732.symm.trans pf4
        refine lv_iload_n hx hb dX3_name_45 rfl (lv_at hl 0 rfl) ?_
        refine t_ild X hT mx4 gx4 rfl (by omega) dX3_name_46 (fun z83733 vz83733 rz83733 => ?_)
        have rz83733 : (-2147483648) ≤ z83733.toInt ∧ z83733.toInt ≤ 2147483647 := rz83733
        refine lv_iload_n hx hb dX3_name_47 rfl (lv_at hl 2 rfl) ?_
        refine lv_icmp_eq (tgt := 63) hx hb dX3_name_48 (by decide) (fun c83734 => ?_) (fun c83734 => ?_)
        · have w83735 := cv_eq (rfl : z83733.toInt = z83733.toInt) (rfl : p1.toInt = p1.toInt) c83734
          refine lv_aload_n hx hb dX3_name_63 rfl (lv_at hl 1 rfl) ?_
          refine t_get (C := RX3) (T := TX3) (N := 13) X hT m0 g0 rfl rfl 3 (by decide) qw_163 inlX3 rfl dX3_name_64 (fun v83736 hv83736 ov83736 => ?_)
          obtain rfl : v83736 = .int z83719 := hv83736.symm.trans qz83719
          refine lv_if_ne (tgt := 75) hx hb dX3_name_67 (by decide) (fun c83737 => ?_) (fun c83737 => ?_)
          · have w83738 := cv_ne (rfl : z83719.toInt = z83719.toInt) (by decide : (0 : Int32).toInt = 0) c83737
            refine lv_iconst (v := 0) hx hb dX3_name_75 (by decide) ?_
            exact t_iret hQ X hT (⟨rg_all _, hfr, hrel⟩) (Nat.le_of_ble_eq_true rfl) (Nat.le_of_ble_eq_true rfl) dX3_name_76
          · have w83739 := cv_eq (rfl : z83719.toInt = z83719.toInt) (by decide : (0 : Int32).toInt = 0) c83737
            exfalso
            omega
        · have w83740 := cv_ne (rfl : z83733.toInt = z83733.toInt) (rfl : p1.toInt = p1.toInt) c83734
          refine lv_aload_n hx hb dX3_name_51 rfl (lv_at hl 1 rfl) ?_
          refine lv_iconst (v := 2) hx hb dX3_name_52 (by decide) ?_
          refine lv_aload_n hx hb dX3_name_53 rfl (lv_at hl 1 rfl) ?_
          refine t_get (C := RX3) (T := TX3) (N := 13) X hT m0 g0 rfl rfl 0 (by decide) qw_73 inlX3 rfl dX3_name_54 (fun v83741 hv83741 ov83741 => ?_)
          obtain rfl : v83741 = .ref x0 := hv83741.symm.trans pf0
          refine t_get (C := RX8) (T := TX8) (N := 8) X hT mx0 gx0 rfl rfl 4 (by decide) qw_227 inlX8 rfl dX3_name_57 (fun v83742 hv83742 ov83742 => ?_)
          obtain rfl : v83742 = .int z83717 := hv83742.symm.trans hv83716
          refine t_cVv (n := 2) (C := RX3) (T := TX3) (N := 13) (As := [.int 2, .int z83717]) (rest := []) X hT (kt111_X3_fail l G tag L F hT.2.2.2 p0 2 z83717 m0 g0 (by decide)) m0 g0 rfl rfl qw_287 qw_288 qw_289 qw_28 qw_290 ⟨rfl, by decide +kernel, by decide +kernel, by decide +kernel⟩ ⟨Nat.le_of_ble_eq_true rfl, Nat.le_of_ble_eq_true rfl⟩ hl rfl rfl (Nat.le_of_ble_eq_true rfl) dX3_name_60 ⟨Nat.le_of_ble_eq_true rfl, Nat.le_of_ble_eq_true rfl⟩ (fun F H locs hT hz83743 => ?_)
          obtain ⟨yz83743, xz83743_0⟩ := hz83743
          have pf0 := (yz83743.1 _ 0 (Or.inr (by decide)) (Or.inr (by decide))).trans pf0
          have pf1 := (yz83743.1 _ 1 (Or.inr (by decide)) (Or.inr (by decide))).trans pf1
          have pf2 := (yz83743.1 _ 2 (Or.inr (by decide)) (Or.inr (by decide))).trans pf2
          have pf3 := (yz83743.1 _ 0 (Or.inr (by decide)) (Or.inr (by decide))).trans pf3
          have pf4 := (yz83743.1 _ 10 (Or.inr (by decide)) (Or.inr (by decide))).trans pf4
          have pf5 := (yz83743.1 _ 11 (Or.inr (by decide)) (Or.inr (by decide))).trans pf5
          have hv83633 := (yz83743.1 _ 3 (Or.inl (by rw [gx0]; decide)) (Or.inr (by decide))).trans hv83633
          have hv83716 := (yz83743.1 _ 4 (Or.inr (by decide)) (Or.inl (by rw [gx0]; decide))).trans hv83716
          have vz83733 := (yz83743.2 _ _ (Or.inl gx4)).trans vz83733
          have hfr : (∀ b j : Nat, (tag b ≠ 24 ∨ j ≠ 2) → (tag b ≠ 24 ∨ j ≠ 3) → (tag b ≠ 24 ∨ j ≠ 4) → (tag b ≠ 24 ∨ j ≠ 5) → (tag b ≠ 24 ∨ j ≠ 6) → (tag b ≠ 24 ∨ j ≠ 7) → (tag b ≠ 25 ∨ j ≠ 3) → (tag b ≠ 25 ∨ j ≠ 4) → fld F b j = fld Fo b j) ∧ EF tag F Fo := ⟨fun b j n24_2 n24_3 n24_4 n24_5 n24_6 n24_7 n25_3 n25_4 => (yz83743.1 b j n25_3 n25_4).trans (hfr.1 b j n24_2 n24_3 n24_4 n24_5 n24_6 n24_7 n25_3 n25_4), fun b j hb => (yz83743.2 b j hb).trans (hfr.2 b j hb)⟩
          have hrel := nsr_of (fun j => yz83743.2 _ j (Or.inl gx4)) (fun j => yz83743.2 _ j (Or.inr gx5)) hrel
          obtain ⟨z83744, qz83744, rz83744⟩ := xz83743_0
          refine lv_aload_n hx hb dX3_name_63 rfl (lv_at hl 1 rfl) ?_
          refine t_get (C := RX3) (T := TX3) (N := 13) X hT m0 g0 rfl rfl 3 (by decide) qw_163 inlX3 rfl dX3_name_64 (fun v83745 hv83745 ov83745 => ?_)
          obtain rfl : v83745 = .int z83744 := hv83745.symm.trans qz83744
          refine lv_if_ne (tgt := 75) hx hb dX3_name_67 (by decide) (fun c83746 => ?_) (fun c83746 => ?_)
          · have w83747 := cv_ne (rfl : z83744.toInt = z83744.toInt) (by decide : (0 : Int32).toInt = 0) c83746
            refine lv_iconst (v := 0) hx hb dX3_name_75 (by decide) ?_
            exact t_iret hQ X hT (⟨rg_all _, hfr, hrel⟩) (Nat.le_of_ble_eq_true rfl) (Nat.le_of_ble_eq_true rfl) dX3_name_76
          · have w83748 := cv_eq (rfl : z83744.toInt = z83744.toInt) (by decide : (0 : Int32).toInt = 0) c83746
            exfalso
            omega
set_option maxHeartbeats 4000000 in
set_option maxRecDepth 100000 in
theorem kt196_X3_whole (l : Launch) (G : KG) (tag : Nat → Nat) (L : List Nat) (Fo : Nat → va_E) (ho : okT G ttC tag L Fo) (p0 : Nat) (p1 : Int32) (p2 : Int32) (x0 : Nat) (x1 : Nat) (x2 : Nat) (x3 : Nat) (x4 : Nat) (x5 : Nat) (m0 : p0 ∈ L) (g0 : tag p0 = 25) (mx0 : x0 ∈ L) (gx0 : tag x0 = 24) (pf0 : fld Fo p0 0 = .ref x0) (mx1 : x1 ∈ L) (gx1 : tag x1 = 18) (pf1 : fld Fo p0 1 = .ref x1) (mx2 : x2 ∈ L) (gx2 : tag x2 = 19) (pf2 : fld Fo p0 2 = .ref x2) (mx3 : x3 ∈ L) (gx3 : tag x3 = 1) (pf3 : fld Fo x0 0 = .ref x3) (mx4 : x4 ∈ L) (gx4 : tag x4 = 14) (pf4 : fld Fo p0 10 = .ref x4) (mx5 : x5 ∈ L) (gx5 : tag x5 = 15) (pf5 : fld Fo p0 11 = .ref x5) : TMi l yX3_whole cX3_whole 4 (some .int) { frames := 3, cells := 0, slots := 0, locals := 62 } G ttC tag L Fo [.ref p0, .int p1, .int p2] (fun r F1 => ((-2147483648) ≤ r.toInt ∧ r.toInt ≤ 2147483647) ∧ ((∀ b j : Nat, (tag b ≠ 24 ∨ j ≠ 2) → (tag b ≠ 24 ∨ j ≠ 3) → (tag b ≠ 24 ∨ j ≠ 4) → (tag b ≠ 24 ∨ j ≠ 5) → (tag b ≠ 24 ∨ j ≠ 6) → (tag b ≠ 24 ∨ j ≠ 7) → (tag b ≠ 25 ∨ j ≠ 3) → (tag b ≠ 25 ∨ j ≠ 4) → fld F1 b j = fld Fo b j) ∧ EF tag F1 Fo)) := by
  refine t_bodyi (y := yX3_whole) (cd := cX3_whole) (mL := 4) (rt := (some .int)) (rm := { frames := 3, cells := 0, slots := 0, locals := 62 }) (av := [.ref p0, .int p1, .int p2]) (by decide) (Nat.le_of_ble_eq_true rfl) ho ?_
  intro p e s m args below meth c ls A Q hQ X hT hl
  have hx := X.1.1
  have hb := X.1.2.1
  have hl : lv_has ls 4 [(0, .ref p0), (1, .int p1), (2, .int p2)] := hl
  have rp1 := rg_all p1
  have rp2 := rg_all p2
  obtain ⟨F, hFo⟩ : ∃ F : Nat → va_E, F = Fo := ⟨_, rfl⟩
  rw [← hFo] at hT pf0 pf1 pf2 pf3 pf4 pf5
  have hfr : (∀ b j : Nat, (tag b ≠ 24 ∨ j ≠ 2) → (tag b ≠ 24 ∨ j ≠ 3) → (tag b ≠ 24 ∨ j ≠ 4) → (tag b ≠ 24 ∨ j ≠ 5) → (tag b ≠ 24 ∨ j ≠ 6) → (tag b ≠ 24 ∨ j ≠ 7) → (tag b ≠ 25 ∨ j ≠ 3) → (tag b ≠ 25 ∨ j ≠ 4) → fld F b j = fld Fo b j) ∧ EF tag F Fo := by
    rw [hFo]
    exact ⟨by intros; rfl, fun _ _ _ => rfl⟩
  refine lv_aload_n hx hb dX3_whole_0 rfl (lv_at hl 0 rfl) ?_
  refine t_get (C := RX3) (T := TX3) (N := 13) X hT m0 g0 rfl rfl 0 (by decide) qw_73 inlX3 rfl dX3_whole_1 (fun v85185 hv85185 ov85185 => ?_)
  obtain rfl : v85185 = .ref x0 := hv85185.symm.trans pf0
  refine t_get (C := RX8) (T := TX8) (N := 8) X hT mx0 gx0 rfl rfl 3 (by decide) qw_170 inlX8 rfl dX3_whole_4 (fun v85186 hv85186 ov85186 => ?_)
  obtain ⟨z85187, rfl, rz85187⟩ := okV_i ov85186
  refine lv_iconst (v := 2) hx hb dX3_whole_7 (by decide) ?_
  refine lv_icmp_eq (tgt := 26) hx hb dX3_whole_8 (by decide) (fun c85188 => ?_) (fun c85188 => ?_)
  · have w85189 := cv_eq (rfl : z85187.toInt = z85187.toInt) (by decide : (2 : Int32).toInt = 2) c85188
    refine lv_aload_n hx hb dX3_whole_26 rfl (lv_at hl 0 rfl) ?_
    refine t_get (C := RX3) (T := TX3) (N := 13) X hT m0 g0 rfl rfl 0 (by decide) qw_73 inlX3 rfl dX3_whole_27 (fun v85190 hv85190 ov85190 => ?_)
    obtain rfl : v85190 = .ref x0 := hv85190.symm.trans pf0
    refine t_get (C := RX8) (T := TX8) (N := 8) X hT mx0 gx0 rfl rfl 6 (by decide) qw_322 inlX8 rfl dX3_whole_30 (fun v85191 hv85191 ov85191 => ?_)
    obtain ⟨z85192, rfl, rz85192⟩ := okV_i ov85191
    refine lv_iload_n hx hb dX3_whole_33 rfl (lv_at hl 1 rfl) ?_
    refine lv_icmp_lt (tgt := 48) hx hb dX3_whole_34 (by decide) (fun c85193 => ?_) (fun c85193 => ?_)
    · have w85194 := cv_lt (rfl : z85192.toInt = z85192.toInt) (rfl : p1.toInt = p1.toInt) c85193
      refine lv_aload_n hx hb dX3_whole_48 rfl (lv_at hl 0 rfl) ?_
      refine lv_iconst (v := 4) hx hb dX3_whole_49 (by decide) ?_
      refine lv_aload_n hx hb dX3_whole_50 rfl (lv_at hl 0 rfl) ?_
      refine t_get (C := RX3) (T := TX3) (N := 13) X hT m0 g0 rfl rfl 0 (by decide) qw_73 inlX3 rfl dX3_whole_51 (fun v85195 hv85195 ov85195 => ?_)
      obtain rfl : v85195 = .ref x0 := hv85195.symm.trans pf0
      refine t_get (C := RX8) (T := TX8) (N := 8) X hT mx0 gx0 rfl rfl 4 (by decide) qw_227 inlX8 rfl dX3_whole_54 (fun v85196 hv85196 ov85196 => ?_)
      obtain ⟨z85197, rfl, rz85197⟩ := okV_i ov85196
      refine t_cVv (n := 2) (C := RX3) (T := TX3) (N := 13) (As := [.int 4, .int z85197]) (rest := []) X hT (kt111_X3_fail l G tag L F hT.2.2.2 p0 4 z85197 m0 g0 (by decide)) m0 g0 rfl rfl qw_287 qw_288 qw_289 qw_28 qw_290 ⟨rfl, by decide +kernel, by decide +kernel, by decide +kernel⟩ ⟨Nat.le_of_ble_eq_true rfl, Nat.le_of_ble_eq_true rfl⟩ hl rfl rfl (Nat.le_of_ble_eq_true rfl) dX3_whole_57 ⟨Nat.le_of_ble_eq_true rfl, Nat.le_of_ble_eq_true rfl⟩ (fun F H locs hT hz85198 => ?_)
      obtain ⟨yz85198, xz85198_0⟩ := hz85198
      have pf0 := (yz85198.1 _ 0 (Or.inr (by decide)) (Or.inr (by decide))).trans pf0
      have pf1 := (yz85198.1 _ 1 (Or.inr (by decide)) (Or.inr (by decide))).trans pf1
      have pf2 := (yz85198.1 _ 2 (Or.inr (by decide)) (Or.inr (by decide))).trans pf2
      have pf3 := (yz85198.1 _ 0 (Or.inr (by decide)) (Or.inr (by decide))).trans pf3
      have pf4 := (yz85198.1 _ 10 (Or.inr (by decide)) (Or.inr (by decide))).trans pf4
      have pf5 := (yz85198.1 _ 11 (Or.inr (by decide)) (Or.inr (by decide))).trans pf5
      have hv85186 := (yz85198.1 _ 3 (Or.inl (by rw [gx0]; decide)) (Or.inr (by decide))).trans hv85186
      have hv85191 := (yz85198.1 _ 6 (Or.inr (by decide)) (Or.inr (by decide))).trans hv85191
      have hv85196 := (yz85198.1 _ 4 (Or.inr (by decide)) (Or.inl (by rw [gx0]; decide))).trans hv85196
      have hfr : (∀ b j : Nat, (tag b ≠ 24 ∨ j ≠ 2) → (tag b ≠ 24 ∨ j ≠ 3) → (tag b ≠ 24 ∨ j ≠ 4) → (tag b ≠ 24 ∨ j ≠ 5) → (tag b ≠ 24 ∨ j ≠ 6) → (tag b ≠ 24 ∨ j ≠ 7) → (tag b ≠ 25 ∨ j ≠ 3) → (tag b ≠ 25 ∨ j ≠ 4) → fld F b j = fld Fo b j) ∧ EF tag F Fo := ⟨fun b j n24_2 n24_3 n24_4 n24_5 n24_6 n24_7 n25_3 n25_4 => (yz85198.1 b j n25_3 n25_4).trans (hfr.1 b j n24_2 n24_3 n24_4 n24_5 n24_6 n24_7 n25_3 n25_4), fun b j hb => (yz85198.2 b j hb).trans (hfr.2 b j hb)⟩
      obtain ⟨z85199, qz85199, rz85199⟩ := xz85198_0
      refine lv_aload_n hx hb dX3_whole_60 rfl (lv_at hl 0 rfl) ?_
      refine t_get (C := RX3) (T := TX3) (N := 13) X hT m0 g0 rfl rfl 3 (by decide) qw_163 inlX3 rfl dX3_whole_61 (fun v85200 hv85200 ov85200 => ?_)
      obtain rfl : v85200 = .int z85199 := hv85200.symm.trans qz85199
      refine lv_if_eq (tgt := 69) hx hb dX3_whole_64 (by decide) (fun c85201 => ?_) (fun c85201 => ?_)
      · have w85202 := cv_eq (rfl : z85199.toInt = z85199.toInt) (by decide : (0 : Int32).toInt = 0) c85201
        exfalso
        omega
      · have w85203 := cv_ne (rfl : z85199.toInt = z85199.toInt) (by decide : (0 : Int32).toInt = 0) c85201
        refine lv_iload_n hx hb dX3_whole_67 rfl (lv_at hl 1 rfl) ?_
        exact t_iret hQ X hT (⟨rg_all _, hfr⟩) (Nat.le_of_ble_eq_true rfl) (Nat.le_of_ble_eq_true rfl) dX3_whole_68
    · have w85204 := cv_nlt (rfl : z85192.toInt = z85192.toInt) (rfl : p1.toInt = p1.toInt) c85193
      refine lv_aload_n hx hb dX3_whole_37 rfl (lv_at hl 0 rfl) ?_
      refine t_get (C := RX3) (T := TX3) (N := 13) X hT m0 g0 rfl rfl 0 (by decide) qw_73 inlX3 rfl dX3_whole_38 (fun v85205 hv85205 ov85205 => ?_)
      obtain rfl : v85205 = .ref x0 := hv85205.symm.trans pf0
      refine t_get (C := RX8) (T := TX8) (N := 8) X hT mx0 gx0 rfl rfl 6 (by decide) qw_322 inlX8 rfl dX3_whole_41 (fun v85206 hv85206 ov85206 => ?_)
      obtain rfl : v85206 = .int z85192 := hv85206.symm.trans hv85191
      refine lv_iload_n hx hb dX3_whole_44 rfl (lv_at hl 2 rfl) ?_
      refine lv_icmp_le (tgt := 60) hx hb dX3_whole_45 (by decide) (fun c85207 => ?_) (fun c85207 => ?_)
      · have w85208 := cv_le (rfl : z85192.toInt = z85192.toInt) (rfl : p2.toInt = p2.toInt) c85207
        refine lv_aload_n hx hb dX3_whole_60 rfl (lv_at hl 0 rfl) ?_
        refine t_get (C := RX3) (T := TX3) (N := 13) X hT m0 g0 rfl rfl 3 (by decide) qw_163 inlX3 rfl dX3_whole_61 (fun v85209 hv85209 ov85209 => ?_)
        obtain ⟨z85210, rfl, rz85210⟩ := okV_i ov85209
        refine lv_if_eq (tgt := 69) hx hb dX3_whole_64 (by decide) (fun c85211 => ?_) (fun c85211 => ?_)
        · have w85212 := cv_eq (rfl : z85210.toInt = z85210.toInt) (by decide : (0 : Int32).toInt = 0) c85211
          refine lv_aload_n hx hb dX3_whole_69 rfl (lv_at hl 0 rfl) ?_
          refine t_get (C := RX3) (T := TX3) (N := 13) X hT m0 g0 rfl rfl 0 (by decide) qw_73 inlX3 rfl dX3_whole_70 (fun v85213 hv85213 ov85213 => ?_)
          obtain rfl : v85213 = .ref x0 := hv85213.symm.trans pf0
          refine t_get (C := RX8) (T := TX8) (N := 8) X hT mx0 gx0 rfl rfl 6 (by decide) qw_322 inlX8 rfl dX3_whole_73 (fun v85214 hv85214 ov85214 => ?_)
          obtain rfl : v85214 = .int z85192 := hv85214.symm.trans hv85191
          refine lv_istore_n (lv' := [(3, .int z85192), (0, .ref p0), (1, .int p1), (2, .int p2)]) hx hb dX3_whole_76 rfl hl (by decide) rfl (fun ls hl => ?_)
          refine lv_aload_n hx hb dX3_whole_77 rfl (lv_at hl 1 rfl) ?_
          refine t_get (C := RX3) (T := TX3) (N := 13) X hT m0 g0 rfl rfl 0 (by decide) qw_73 inlX3 rfl dX3_whole_78 (fun v85215 hv85215 ov85215 => ?_)
          obtain rfl : v85215 = .ref x0 := hv85215.symm.trans pf0
          refine t_cVv (n := 0) (C := RX8) (T := TX8) (N := 8) (As := []) (rest := []) X hT (kt98_X8_advance l G tag L F hT.2.2.2 x0 x3 mx0 gx0 mx3 gx3 pf3) mx0 gx0 rfl rfl qw_305 qw_197 qw_198 qw_72 qw_199 ⟨rfl, by decide +kernel, by decide +kernel, by decide +kernel⟩ ⟨Nat.le_of_ble_eq_true rfl, Nat.le_of_ble_eq_true rfl⟩ hl rfl rfl (Nat.le_of_ble_eq_true rfl) dX3_whole_81 ⟨Nat.le_of_ble_eq_true rfl, Nat.le_of_ble_eq_true rfl⟩ (fun F H locs hT hz85216 => ?_)
          have yz85216 := hz85216
          have pf0 := (yz85216.1 _ 0 (Or.inr (by decide)) (Or.inr (by decide)) (Or.inr (by decide)) (Or.inr (by decide)) (Or.inr (by decide)) (Or.inr (by decide))).trans pf0
          have pf1 := (yz85216.1 _ 1 (Or.inr (by decide)) (Or.inr (by decide)) (Or.inr (by decide)) (Or.inr (by decide)) (Or.inr (by decide)) (Or.inr (by decide))).trans pf1
          have pf2 := (yz85216.1 _ 2 (Or.inl (by rw [g0]; decide)) (Or.inr (by decide)) (Or.inr (by decide)) (Or.inr (by decide)) (Or.inr (by decide)) (Or.inr (by decide))).trans pf2
          have pf3 := (yz85216.1 _ 0 (Or.inr (by decide)) (Or.inr (by decide)) (Or.inr (by decide)) (Or.inr (by decide)) (Or.inr (by decide)) (Or.inr (by decide))).trans pf3
          have pf4 := (yz85216.1 _ 10 (Or.inr (by decide)) (Or.inr (by decide)) (Or.inr (by decide)) (Or.inr (by decide)) (Or.inr (by decide)) (Or.inr (by decide))).trans pf4
          have pf5 := (yz85216.1 _ 11 (Or.inr (by decide)) (Or.inr (by decide)) (Or.inr (by decide)) (Or.inr (by decide)) (Or.inr (by decide)) (Or.inr (by decide))).trans pf5
          have hv85209 := (yz85216.1 _ 3 (Or.inr (by decide)) (Or.inl (by rw [g0]; decide)) (Or.inr (by decide)) (Or.inr (by decide)) (Or.inr (by decide)) (Or.inr (by decide))).trans hv85209
          have hfr : (∀ b j : Nat, (tag b ≠ 24 ∨ j ≠ 2) → (tag b ≠ 24 ∨ j ≠ 3) → (tag b ≠ 24 ∨ j ≠ 4) → (tag b ≠ 24 ∨ j ≠ 5) → (tag b ≠ 24 ∨ j ≠ 6) → (tag b ≠ 24 ∨ j ≠ 7) → (tag b ≠ 25 ∨ j ≠ 3) → (tag b ≠ 25 ∨ j ≠ 4) → fld F b j = fld Fo b j) ∧ EF tag F Fo := ⟨fun b j n24_2 n24_3 n24_4 n24_5 n24_6 n24_7 n25_3 n25_4 => (yz85216.1 b j n24_2 n24_3 n24_4 n24_5 n24_6 n24_7).trans (hfr.1 b j n24_2 n24_3 n24_4 n24_5 n24_6 n24_7 n25_3 n25_4), fun b j hb => (yz85216.2 b j hb).trans (hfr.2 b j hb)⟩
          refine lv_iload_n hx hb dX3_whole_84 rfl (lv_at hl 0 rfl) ?_
          exact t_iret hQ X hT (⟨rg_all _, hfr⟩) (Nat.le_of_ble_eq_true rfl) (Nat.le_of_ble_eq_true rfl) dX3_whole_85
        · have w85217 := cv_ne (rfl : z85210.toInt = z85210.toInt) (by decide : (0 : Int32).toInt = 0) c85211
          refine lv_iload_n hx hb dX3_whole_67 rfl (lv_at hl 1 rfl) ?_
          exact t_iret hQ X hT (⟨rg_all _, hfr⟩) (Nat.le_of_ble_eq_true rfl) (Nat.le_of_ble_eq_true rfl) dX3_whole_68
      · have w85218 := cv_nle (rfl : z85192.toInt = z85192.toInt) (rfl : p2.toInt = p2.toInt) c85207
        refine lv_aload_n hx hb dX3_whole_48 rfl (lv_at hl 0 rfl) ?_
        refine lv_iconst (v := 4) hx hb dX3_whole_49 (by decide) ?_
        refine lv_aload_n hx hb dX3_whole_50 rfl (lv_at hl 0 rfl) ?_
        refine t_get (C := RX3) (T := TX3) (N := 13) X hT m0 g0 rfl rfl 0 (by decide) qw_73 inlX3 rfl dX3_whole_51 (fun v85219 hv85219 ov85219 => ?_)
        obtain rfl : v85219 = .ref x0 := hv85219.symm.trans pf0
        refine t_get (C := RX8) (T := TX8) (N := 8) X hT mx0 gx0 rfl rfl 4 (by decide) qw_227 inlX8 rfl dX3_whole_54 (fun v85220 hv85220 ov85220 => ?_)
        obtain ⟨z85221, rfl, rz85221⟩ := okV_i ov85220
        refine t_cVv (n := 2) (C := RX3) (T := TX3) (N := 13) (As := [.int 4, .int z85221]) (rest := []) X hT (kt111_X3_fail l G tag L F hT.2.2.2 p0 4 z85221 m0 g0 (by decide)) m0 g0 rfl rfl qw_287 qw_288 qw_289 qw_28 qw_290 ⟨rfl, by decide +kernel, by decide +kernel, by decide +kernel⟩ ⟨Nat.le_of_ble_eq_true rfl, Nat.le_of_ble_eq_true rfl⟩ hl rfl rfl (Nat.le_of_ble_eq_true rfl) dX3_whole_57 ⟨Nat.le_of_ble_eq_true rfl, Nat.le_of_ble_eq_true rfl⟩ (fun F H locs hT hz85222 => ?_)
        obtain ⟨yz85222, xz85222_0⟩ := hz85222
        have pf0 := (yz85222.1 _ 0 (Or.inr (by decide)) (Or.inr (by decide))).trans pf0
        have pf1 := (yz85222.1 _ 1 (Or.inr (by decide)) (Or.inr (by decide))).trans pf1
        have pf2 := (yz85222.1 _ 2 (Or.inr (by decide)) (Or.inr (by decide))).trans pf2
        have pf3 := (yz85222.1 _ 0 (Or.inr (by decide)) (Or.inr (by decide))).trans pf3
        have pf4 := (yz85222.1 _ 10 (Or.inr (by decide)) (Or.inr (by decide))).trans pf4
        have pf5 := (yz85222.1 _ 11 (Or.inr (by decide)) (Or.inr (by decide))).trans pf5
        have hv85186 := (yz85222.1 _ 3 (Or.inl (by rw [gx0]; decide)) (Or.inr (by decide))).trans hv85186
        have hv85191 := (yz85222.1 _ 6 (Or.inr (by decide)) (Or.inr (by decide))).trans hv85191
        have hv85220 := (yz85222.1 _ 4 (Or.inr (by decide)) (Or.inl (by rw [gx0]; decide))).trans hv85220
        have hfr : (∀ b j : Nat, (tag b ≠ 24 ∨ j ≠ 2) → (tag b ≠ 24 ∨ j ≠ 3) → (tag b ≠ 24 ∨ j ≠ 4) → (tag b ≠ 24 ∨ j ≠ 5) → (tag b ≠ 24 ∨ j ≠ 6) → (tag b ≠ 24 ∨ j ≠ 7) → (tag b ≠ 25 ∨ j ≠ 3) → (tag b ≠ 25 ∨ j ≠ 4) → fld F b j = fld Fo b j) ∧ EF tag F Fo := ⟨fun b j n24_2 n24_3 n24_4 n24_5 n24_6 n24_7 n25_3 n25_4 => (yz85222.1 b j n25_3 n25_4).trans (hfr.1 b j n24_2 n24_3 n24_4 n24_5 n24_6 n24_7 n25_3 n25_4), fun b j hb => (yz85222.2 b j hb).trans (hfr.2 b j hb)⟩
        obtain ⟨z85223, qz85223, rz85223⟩ := xz85222_0
        refine lv_aload_n hx hb dX3_whole_60 rfl (lv_at hl 0 rfl) ?_
        refine t_get (C := RX3) (T := TX3) (N := 13) X hT m0 g0 rfl rfl 3 (by decide) qw_163 inlX3 rfl dX3_whole_61 (fun v85224 hv85224 ov85224 => ?_)
        obtain rfl : v85224 = .int z85223 := hv85224.symm.trans qz85223
        refine lv_if_eq (tgt := 69) hx hb dX3_whole_64 (by decide) (fun c85225 => ?_) (fun c85225 => ?_)
        · have w85226 := cv_eq (rfl : z85223.toInt = z85223.toInt) (by decide : (0 : Int32).toInt = 0) c85225
          exfalso
          omega
        · have w85227 := cv_ne (rfl : z85223.toInt = z85223.toInt) (by decide : (0 : Int32).toInt = 0) c85225
          refine lv_iload_n hx hb dX3_whole_67 rfl (lv_at hl 1 rfl) ?_
          exact t_iret hQ X hT (⟨rg_all _, hfr⟩) (Nat.le_of_ble_eq_true rfl) (Nat.le_of_ble_eq_true rfl) dX3_whole_68
  · have w85228 := cv_ne (rfl : z85187.toInt = z85187.toInt) (by decide : (2 : Int32).toInt = 2) c85188
    refine lv_aload_n hx hb dX3_whole_11 rfl (lv_at hl 0 rfl) ?_
    refine lv_iconst (v := 1) hx hb dX3_whole_12 (by decide) ?_
    refine lv_aload_n hx hb dX3_whole_13 rfl (lv_at hl 0 rfl) ?_
    refine t_get (C := RX3) (T := TX3) (N := 13) X hT m0 g0 rfl rfl 0 (by decide) qw_73 inlX3 rfl dX3_whole_14 (fun v85229 hv85229 ov85229 => ?_)
    obtain rfl : v85229 = .ref x0 := hv85229.symm.trans pf0
    refine t_get (C := RX8) (T := TX8) (N := 8) X hT mx0 gx0 rfl rfl 4 (by decide) qw_227 inlX8 rfl dX3_whole_17 (fun v85230 hv85230 ov85230 => ?_)
    obtain ⟨z85231, rfl, rz85231⟩ := okV_i ov85230
    refine t_cVv (n := 2) (C := RX3) (T := TX3) (N := 13) (As := [.int 1, .int z85231]) (rest := []) X hT (kt111_X3_fail l G tag L F hT.2.2.2 p0 1 z85231 m0 g0 (by decide)) m0 g0 rfl rfl qw_287 qw_288 qw_289 qw_28 qw_290 ⟨rfl, by decide +kernel, by decide +kernel, by decide +kernel⟩ ⟨Nat.le_of_ble_eq_true rfl, Nat.le_of_ble_eq_true rfl⟩ hl rfl rfl (Nat.le_of_ble_eq_true rfl) dX3_whole_20 ⟨Nat.le_of_ble_eq_true rfl, Nat.le_of_ble_eq_true rfl⟩ (fun F H locs hT hz85232 => ?_)
    obtain ⟨yz85232, xz85232_0⟩ := hz85232
    have pf0 := (yz85232.1 _ 0 (Or.inr (by decide)) (Or.inr (by decide))).trans pf0
    have pf1 := (yz85232.1 _ 1 (Or.inr (by decide)) (Or.inr (by decide))).trans pf1
    have pf2 := (yz85232.1 _ 2 (Or.inr (by decide)) (Or.inr (by decide))).trans pf2
    have pf3 := (yz85232.1 _ 0 (Or.inr (by decide)) (Or.inr (by decide))).trans pf3
    have pf4 := (yz85232.1 _ 10 (Or.inr (by decide)) (Or.inr (by decide))).trans pf4
    have pf5 := (yz85232.1 _ 11 (Or.inr (by decide)) (Or.inr (by decide))).trans pf5
    have hv85186 := (yz85232.1 _ 3 (Or.inl (by rw [gx0]; decide)) (Or.inr (by decide))).trans hv85186
    have hv85230 := (yz85232.1 _ 4 (Or.inr (by decide)) (Or.inl (by rw [gx0]; decide))).trans hv85230
    have hfr : (∀ b j : Nat, (tag b ≠ 24 ∨ j ≠ 2) → (tag b ≠ 24 ∨ j ≠ 3) → (tag b ≠ 24 ∨ j ≠ 4) → (tag b ≠ 24 ∨ j ≠ 5) → (tag b ≠ 24 ∨ j ≠ 6) → (tag b ≠ 24 ∨ j ≠ 7) → (tag b ≠ 25 ∨ j ≠ 3) → (tag b ≠ 25 ∨ j ≠ 4) → fld F b j = fld Fo b j) ∧ EF tag F Fo := ⟨fun b j n24_2 n24_3 n24_4 n24_5 n24_6 n24_7 n25_3 n25_4 => (yz85232.1 b j n25_3 n25_4).trans (hfr.1 b j n24_2 n24_3 n24_4 n24_5 n24_6 n24_7 n25_3 n25_4), fun b j hb => (yz85232.2 b j hb).trans (hfr.2 b j hb)⟩
    obtain ⟨z85233, qz85233, rz85233⟩ := xz85232_0
    refine lv_goto (tgt := 60) hx hb dX3_whole_23 (by decide) ?_
    refine lv_aload_n hx hb dX3_whole_60 rfl (lv_at hl 0 rfl) ?_
    refine t_get (C := RX3) (T := TX3) (N := 13) X hT m0 g0 rfl rfl 3 (by decide) qw_163 inlX3 rfl dX3_whole_61 (fun v85234 hv85234 ov85234 => ?_)
    obtain rfl : v85234 = .int z85233 := hv85234.symm.trans qz85233
    refine lv_if_eq (tgt := 69) hx hb dX3_whole_64 (by decide) (fun c85235 => ?_) (fun c85235 => ?_)
    · have w85236 := cv_eq (rfl : z85233.toInt = z85233.toInt) (by decide : (0 : Int32).toInt = 0) c85235
      exfalso
      omega
    · have w85237 := cv_ne (rfl : z85233.toInt = z85233.toInt) (by decide : (0 : Int32).toInt = 0) c85235
      refine lv_iload_n hx hb dX3_whole_67 rfl (lv_at hl 1 rfl) ?_
      exact t_iret hQ X hT (⟨rg_all _, hfr⟩) (Nat.le_of_ble_eq_true rfl) (Nat.le_of_ble_eq_true rfl) dX3_whole_68
