set_option maxHeartbeats 4000000 in
set_option maxRecDepth 100000 in
theorem kt479_X3_whole (l : Launch) (G : KG) (tag : Nat → Nat) (L : List Nat) (Fo : Nat → va_E) (ho : okT G ttC tag L Fo) (p0 : Nat) (p1 : Int32) (p2 : Int32) (x0 : Nat) (x1 : Nat) (x2 : Nat) (x3 : Nat) (x4 : Nat) (x5 : Nat) (m0 : p0 ∈ L) (g0 : tag p0 = 25) (mx0 : x0 ∈ L) (gx0 : tag x0 = 24) (pf0 : fld Fo p0 0 = .ref x0) (mx1 : x1 ∈ L) (gx1 : tag x1 = 18) (pf1 : fld Fo p0 1 = .ref x1) (mx2 : x2 ∈ L) (gx2 : tag x2 = 19) (pf2 : fld Fo p0 2 = .ref x2) (mx3 : x3 ∈ L) (gx3 : tag x3 = 1) (pf3 : fld Fo x0 0 = .ref x3) (mx4 : x4 ∈ L) (gx4 : tag x4 = 14) (pf4 : fld Fo p0 10 = .ref x4) (mx5 : x5 ∈ L) (gx5 : tag x5 = 15) (pf5 : fld Fo p0 11 = .ref x5) : TMi l yX3_whole cX3_whole 4 (some .int) { frames := 3, cells := 0, slots := 0, locals := 62 } G ttC tag L Fo [.ref p0, .int p1, .int p2] (fun r F1 => ((-2147483648) ≤ r.toInt ∧ r.toInt ≤ 2147483647) ∧ ((∀ b j : Nat, (tag b ≠ 24 ∨ j ≠ 2) → (tag b ≠ 24 ∨ j ≠ 3) → (tag b ≠ 24 ∨ j ≠ 4) → (tag b ≠ 24 ∨ j ≠ 5) → (tag b ≠ 24 ∨ j ≠ 6) → (tag b ≠ 24 ∨ j ≠ 7) → (tag b ≠ 25 ∨ j ≠ 3) → (tag b ≠ 25 ∨ j ≠ 4) → fld F1 b j = fld Fo b j) ∧ EF tag F1 Fo)) := by
  refine t_bodyi (y := yX3_whole) (cd := cX3_whole) (mL := 4) (rt := (some .int)) (rm := { frames := 3, cells := 0, slots := 0, locals := 62 }) (av := [.ref p0, .int p1, .int p2]) (by decide) (Nat.le_of_ble_eq_true rfl) ho ?_
  intro p e s m args below meth c ls A Q hQ X hT hl
  have hx := X.1.1
  have hb := X.1.2.1
  have hl : lv_has ls 4 [(0, .ref p0), (1, .int p1), (2, .int p2)] := hl
  have rp1 := rg_all p1
  have rp2 := rg_all p2
  obtain ⟨F, hFo⟩ : ∃ F : Nat → va_E, F = Fo := ⟨_, rfl⟩
  rw [← hFo] at hT pf0 pf1 pf2 pf3 pf4 pf5
  have hfr : (∀ b j : Nat, (tag b ≠ 24 ∨ j ≠ 2) → (tag b ≠ 24 ∨ j ≠ 3) → (tag b ≠ 24 ∨ j ≠ 4) → (tag b ≠ 24 ∨ j ≠ 5) → (tag b ≠ 24 ∨ j ≠ 6) → (tag b ≠ 24 ∨ j ≠ 7) → (tag b ≠ 25 ∨ j ≠ 3) → (tag b ≠ 25 ∨ j ≠ 4) → fld F b j = fld Fo b j) ∧ EF tag F Fo := by
    rw [hFo]
    exact ⟨by intros; rfl, fun _ _ _ => rfl⟩
  refine lv_aload_n hx hb dX3_whole_0 rfl (lv_at hl 0 rfl) ?_
  refine t_get (C := RX3) (T := TX3) (N := 13) X hT m0 g0 rfl rfl 0 (by decide) qw_73 inlX3 rfl dX3_whole_1 (fun v167630 hv167630 ov167630 => ?_)
  obtain rfl : v167630 = .ref x0 := hv167630.symm.trans pf0
  refine t_get (C := RX8) (T := TX8) (N := 8) X hT mx0 gx0 rfl rfl 3 (by decide) qw_170 inlX8 rfl dX3_whole_4 (fun v167631 hv167631 ov167631 => ?_)
  obtain ⟨z167632, rfl, rz167632⟩ := okV_i ov167631
  refine lv_iconst (v := 2) hx hb dX3_whole_7 (by decide) ?_
  refine lv_icmp_eq (tgt := 26) hx hb dX3_whole_8 (by decide) (fun c167633 => ?_) (fun c167633 => ?_)
  · have w167634 := cv_eq (rfl : z167632.toInt = z167632.toInt) (by decide : (2 : Int32).toInt = 2) c167633
    refine lv_aload_n hx hb dX3_whole_26 rfl (lv_at hl 0 rfl) ?_
    refine t_get (C := RX3) (T := TX3) (N := 13) X hT m0 g0 rfl rfl 0 (by decide) qw_73 inlX3 rfl dX3_whole_27 (fun v167635 hv167635 ov167635 => ?_)
    obtain rfl : v167635 = .ref x0 := hv167635.symm.trans pf0
    refine t_get (C := RX8) (T := TX8) (N := 8) X hT mx0 gx0 rfl rfl 6 (by decide) qw_322 inlX8 rfl dX3_whole_30 (fun v167636 hv167636 ov167636 => ?_)
    obtain ⟨z167637, rfl, rz167637⟩ := okV_i ov167636
    refine lv_iload_n hx hb dX3_whole_33 rfl (lv_at hl 1 rfl) ?_
    refine lv_icmp_lt (tgt := 48) hx hb dX3_whole_34 (by decide) (fun c167638 => ?_) (fun c167638 => ?_)
    · have w167639 := cv_lt (rfl : z167637.toInt = z167637.toInt) (rfl : p1.toInt = p1.toInt) c167638
      refine lv_aload_n hx hb dX3_whole_48 rfl (lv_at hl 0 rfl) ?_
      refine lv_iconst (v := 4) hx hb dX3_whole_49 (by decide) ?_
      refine lv_aload_n hx hb dX3_whole_50 rfl (lv_at hl 0 rfl) ?_
      refine t_get (C := RX3) (T := TX3) (N := 13) X hT m0 g0 rfl rfl 0 (by decide) qw_73 inlX3 rfl dX3_whole_51 (fun v167640 hv167640 ov167640 => ?_)
      obtain rfl : v167640 = .ref x0 := hv167640.symm.trans pf0
      refine t_get (C := RX8) (T := TX8) (N := 8) X hT mx0 gx0 rfl rfl 4 (by decide) qw_227 inlX8 rfl dX3_whole_54 (fun v167641 hv167641 ov167641 => ?_)
      obtain ⟨z167642, rfl, rz167642⟩ := okV_i ov167641
      refine t_cVv (n := 2) (C := RX3) (T := TX3) (N := 13) (As := [.int 4, .int z167642]) (rest := []) X hT (kt432_X3_fail l G tag L F hT.2.2.2 p0 4 z167642 m0 g0 (by decide)) m0 g0 rfl rfl qw_287 qw_288 qw_289 qw_28 qw_290 ⟨rfl, by decide +kernel, by decide +kernel, by decide +kernel⟩ ⟨Nat.le_of_ble_eq_true rfl, Nat.le_of_ble_eq_true rfl⟩ hl rfl rfl (Nat.le_of_ble_eq_true rfl) dX3_whole_57 ⟨Nat.le_of_ble_eq_true rfl, Nat.le_of_ble_eq_true rfl⟩ (fun F H locs hT hz167643 => ?_)
      obtain ⟨yz167643, xz167643_0⟩ := hz167643
      have pf0 := (yz167643.1 _ 0 (Or.inr (by decide)) (Or.inr (by decide))).trans pf0
      have pf1 := (yz167643.1 _ 1 (Or.inr (by decide)) (Or.inr (by decide))).trans pf1
      have pf2 := (yz167643.1 _ 2 (Or.inr (by decide)) (Or.inr (by decide))).trans pf2
      have pf3 := (yz167643.1 _ 0 (Or.inr (by decide)) (Or.inr (by decide))).trans pf3
      have pf4 := (yz167643.1 _ 10 (Or.inr (by decide)) (Or.inr (by decide))).trans pf4
      have pf5 := (yz167643.1 _ 11 (Or.inr (by decide)) (Or.inr (by decide))).trans pf5
      have hv167631 := (yz167643.1 _ 3 (Or.inl (by rw [gx0]; decide)) (Or.inr (by decide))).trans hv167631
      have hv167636 := (yz167643.1 _ 6 (Or.inr (by decide)) (Or.inr (by decide))).trans hv167636
      have hv167641 := (yz167643.1 _ 4 (Or.inr (by decide)) (Or.inl (by rw [gx0]; decide))).trans hv167641
      have hfr : (∀ b j : Nat, (tag b ≠ 24 ∨ j ≠ 2) → (tag b ≠ 24 ∨ j ≠ 3) → (tag b ≠ 24 ∨ j ≠ 4) → (tag b ≠ 24 ∨ j ≠ 5) → (tag b ≠ 24 ∨ j ≠ 6) → (tag b ≠ 24 ∨ j ≠ 7) → (tag b ≠ 25 ∨ j ≠ 3) → (tag b ≠ 25 ∨ j ≠ 4) → fld F b j = fld Fo b j) ∧ EF tag F Fo := ⟨fun b j n24_2 n24_3 n24_4 n24_5 n24_6 n24_7 n25_3 n25_4 => (yz167643.1 b j n25_3 n25_4).trans (hfr.1 b j n24_2 n24_3 n24_4 n24_5 n24_6 n24_7 n25_3 n25_4), fun b j hb => (yz167643.2 b j hb).trans (hfr.2 b j hb)⟩
      obtain ⟨z167644, qz167644, rz167644⟩ := xz167643_0
      refine lv_aload_n hx hb dX3_whole_60 rfl (lv_at hl 0 rfl) ?_
      refine t_get (C := RX3) (T := TX3) (N := 13) X hT m0 g0 rfl rfl 3 (by decide) qw_163 inlX3 rfl dX3_whole_61 (fun v167645 hv167645 ov167645 => ?_)
      obtain rfl : v167645 = .int z167644 := hv167645.symm.trans qz167644
      refine lv_if_eq (tgt := 69) hx hb dX3_whole_64 (by decide) (fun c167646 => ?_) (fun c167646 => ?_)
      · have w167647 := cv_eq (rfl : z167644.toInt = z167644.toInt) (by decide : (0 : Int32).toInt = 0) c167646
        exfalso
        omega
      · have w167648 := cv_ne (rfl : z167644.toInt = z167644.toInt) (by decide : (0 : Int32).toInt = 0) c167646
        refine lv_iload_n hx hb dX3_whole_67 rfl (lv_at hl 1 rfl) ?_
        exact t_iret hQ X hT (⟨rg_all _, hfr⟩) (Nat.le_of_ble_eq_true rfl) (Nat.le_of_ble_eq_true rfl) dX3_whole_68
    · have w167649 := cv_nlt (rfl : z167637.toInt = z167637.toInt) (rfl : p1.toInt = p1.toInt) c167638
      refine lv_aload_n hx hb dX3_whole_37 rfl (lv_at hl 0 rfl) ?_
      refine t_get (C := RX3) (T := TX3) (N := 13) X hT m0 g0 rfl rfl 0 (by decide) qw_73 inlX3 rfl dX3_whole_38 (fun v167650 hv167650 ov167650 => ?_)
      obtain rfl : v167650 = .ref x0 := hv167650.symm.trans pf0
      refine t_get (C := RX8) (T := TX8) (N := 8) X hT mx0 gx0 rfl rfl 6 (by decide) qw_322 inlX8 rfl dX3_whole_41 (fun v167651 hv167651 ov167651 => ?_)
      obtain rfl : v167651 = .int z167637 := hv167651.symm.trans hv167636
      refine lv_iload_n hx hb dX3_whole_44 rfl (lv_at hl 2 rfl) ?_
      refine lv_icmp_le (tgt := 60) hx hb dX3_whole_45 (by decide) (fun c167652 => ?_) (fun c167652 => ?_)
      · have w167653 := cv_le (rfl : z167637.toInt = z167637.toInt) (rfl : p2.toInt = p2.toInt) c167652
        refine lv_aload_n hx hb dX3_whole_60 rfl (lv_at hl 0 rfl) ?_
        refine t_get (C := RX3) (T := TX3) (N := 13) X hT m0 g0 rfl rfl 3 (by decide) qw_163 inlX3 rfl dX3_whole_61 (fun v167654 hv167654 ov167654 => ?_)
        obtain ⟨z167655, rfl, rz167655⟩ := okV_i ov167654
        refine lv_if_eq (tgt := 69) hx hb dX3_whole_64 (by decide) (fun c167656 => ?_) (fun c167656 => ?_)
        · have w167657 := cv_eq (rfl : z167655.toInt = z167655.toInt) (by decide : (0 : Int32).toInt = 0) c167656
          refine lv_aload_n hx hb dX3_whole_69 rfl (lv_at hl 0 rfl) ?_
          refine t_get (C := RX3) (T := TX3) (N := 13) X hT m0 g0 rfl rfl 0 (by decide) qw_73 inlX3 rfl dX3_whole_70 (fun v167658 hv167658 ov167658 => ?_)
          obtain rfl : v167658 = .ref x0 := hv167658.symm.trans pf0
          refine t_get (C := RX8) (T := TX8) (N := 8) X hT mx0 gx0 rfl rfl 6 (by decide) qw_322 inlX8 rfl dX3_whole_73 (fun v167659 hv167659 ov167659 => ?_)
          obtain rfl : v167659 = .int z167637 := hv167659.symm.trans hv167636
          refine lv_istore_n (lv' := [(3, .int z167637), (0, .ref p0), (1, .int p1), (2, .int p2)]) hx hb dX3_whole_76 rfl hl (by decide) rfl (fun ls hl => ?_)
          refine lv_aload_n hx hb dX3_whole_77 rfl (lv_at hl 1 rfl) ?_
          refine t_get (C := RX3) (T := TX3) (N := 13) X hT m0 g0 rfl rfl 0 (by decide) qw_73 inlX3 rfl dX3_whole_78 (fun v167660 hv167660 ov167660 => ?_)
          obtain rfl : v167660 = .ref x0 := hv167660.symm.trans pf0
          refine t_cVv (n := 0) (C := RX8) (T := TX8) (N := 8) (As := []) (rest := []) X hT (kt440_X8_advance l G tag L F hT.2.2.2 x0 x3 mx0 gx0 mx3 gx3 pf3) mx0 gx0 rfl rfl qw_305 qw_197 qw_198 qw_72 qw_199 ⟨rfl, by decide +kernel, by decide +kernel, by decide +kernel⟩ ⟨Nat.le_of_ble_eq_true rfl, Nat.le_of_ble_eq_true rfl⟩ hl rfl rfl (Nat.le_of_ble_eq_true rfl) dX3_whole_81 ⟨Nat.le_of_ble_eq_true rfl, Nat.le_of_ble_eq_true rfl⟩ (fun F H locs hT hz167661 => ?_)
          have yz167661 := hz167661
          have pf0 := (yz167661.1 _ 0 (Or.inr (by decide)) (Or.inr (by decide)) (Or.inr (by decide)) (Or.inr (by decide)) (Or.inr (by decide)) (Or.inr (by decide))).trans pf0
          have pf1 := (yz167661.1 _ 1 (Or.inr (by decide)) (Or.inr (by decide)) (Or.inr (by decide)) (Or.inr (by decide)) (Or.inr (by decide)) (Or.inr (by decide))).trans pf1
          have pf2 := (yz167661.1 _ 2 (Or.inl (by rw [g0]; decide)) (Or.inr (by decide)) (Or.inr (by decide)) (Or.inr (by decide)) (Or.inr (by decide)) (Or.inr (by decide))).trans pf2
          have pf3 := (yz167661.1 _ 0 (Or.inr (by decide)) (Or.inr (by decide)) (Or.inr (by decide)) (Or.inr (by decide)) (Or.inr (by decide)) (Or.inr (by decide))).trans pf3
          have pf4 := (yz167661.1 _ 10 (Or.inr (by decide)) (Or.inr (by decide)) (Or.inr (by decide)) (Or.inr (by decide)) (Or.inr (by decide)) (Or.inr (by decide))).trans pf4
          have pf5 := (yz167661.1 _ 11 (Or.inr (by decide)) (Or.inr (by decide)) (Or.inr (by decide)) (Or.inr (by decide)) (Or.inr (by decide)) (Or.inr (by decide))).trans pf5
          have hv167654 := (yz167661.1 _ 3 (Or.inr (by decide)) (Or.inl (by rw [g0]; decide)) (Or.inr (by decide)) (Or.inr (by decide)) (Or.inr (by decide)) (Or.inr (by decide))).trans hv167654
          have hfr : (∀ b j : Nat, (tag b ≠ 24 ∨ j ≠ 2) → (tag b ≠ 24 ∨ j ≠ 3) → (tag b ≠ 24 ∨ j ≠ 4) → (tag b ≠ 24 ∨ j ≠ 5) → (tag b ≠ 24 ∨ j ≠ 6) → (tag b ≠ 24 ∨ j ≠ 7) → (tag b ≠ 25 ∨ j ≠ 3) → (tag b ≠ 25 ∨ j ≠ 4) → fld F b j = fld Fo b j) ∧ EF tag F Fo := ⟨fun b j n24_2 n24_3 n24_4 n24_5 n24_6 n24_7 n25_3 n25_4 => (yz167661.1 b j n24_2 n24_3 n24_4 n24_5 n24_6 n24_7).trans (hfr.1 b j n24_2 n24_3 n24_4 n24_5 n24_6 n24_7 n25_3 n25_4), fun b j hb => (yz167661.2 b j hb).trans (hfr.2 b j hb)⟩
          refine lv_iload_n hx hb dX3_whole_84 rfl (lv_at hl 0 rfl) ?_
          exact t_iret hQ X hT (⟨rg_all _, hfr⟩) (Nat.le_of_ble_eq_true rfl) (Nat.le_of_ble_eq_true rfl) dX3_whole_85
        · have w167662 := cv_ne (rfl : z167655.toInt = z167655.toInt) (by decide : (0 : Int32).toInt = 0) c167656
          refine lv_iload_n hx hb dX3_whole_67 rfl (lv_at hl 1 rfl) ?_
          exact t_iret hQ X hT (⟨rg_all _, hfr⟩) (Nat.le_of_ble_eq_true rfl) (Nat.le_of_ble_eq_true rfl) dX3_whole_68
      · have w167663 := cv_nle (rfl : z167637.toInt = z167637.toInt) (rfl : p2.toInt = p2.toInt) c167652
        refine lv_aload_n hx hb dX3_whole_48 rfl (lv_at hl 0 rfl) ?_
        refine lv_iconst (v := 4) hx hb dX3_whole_49 (by decide) ?_
        refine lv_aload_n hx hb dX3_whole_50 rfl (lv_at hl 0 rfl) ?_
        refine t_get (C := RX3) (T := TX3) (N := 13) X hT m0 g0 rfl rfl 0 (by decide) qw_73 inlX3 rfl dX3_whole_51 (fun v167664 hv167664 ov167664 => ?_)
        obtain rfl : v167664 = .ref x0 := hv167664.symm.trans pf0
        refine t_get (C := RX8) (T := TX8) (N := 8) X hT mx0 gx0 rfl rfl 4 (by decide) qw_227 inlX8 rfl dX3_whole_54 (fun v167665 hv167665 ov167665 => ?_)
        obtain ⟨z167666, rfl, rz167666⟩ := okV_i ov167665
        refine t_cVv (n := 2) (C := RX3) (T := TX3) (N := 13) (As := [.int 4, .int z167666]) (rest := []) X hT (kt432_X3_fail l G tag L F hT.2.2.2 p0 4 z167666 m0 g0 (by decide)) m0 g0 rfl rfl qw_287 qw_288 qw_289 qw_28 qw_290 ⟨rfl, by decide +kernel, by decide +kernel, by decide +kernel⟩ ⟨Nat.le_of_ble_eq_true rfl, Nat.le_of_ble_eq_true rfl⟩ hl rfl rfl (Nat.le_of_ble_eq_true rfl) dX3_whole_57 ⟨Nat.le_of_ble_eq_true rfl, Nat.le_of_ble_eq_true rfl⟩ (fun F H locs hT hz167667 => ?_)
        obtain ⟨yz167667, xz167667_0⟩ := hz167667
        have pf0 := (yz167667.1 _ 0 (Or.inr (by decide)) (Or.inr (by decide))).trans pf0
        have pf1 := (yz167667.1 _ 1 (Or.inr (by decide)) (Or.inr (by decide))).trans pf1
        have pf2 := (yz167667.1 _ 2 (Or.inr (by decide)) (Or.inr (by decide))).trans pf2
        have pf3 := (yz167667.1 _ 0 (Or.inr (by decide)) (Or.inr (by decide))).trans pf3
        have pf4 := (yz167667.1 _ 10 (Or.inr (by decide)) (Or.inr (by decide))).trans pf4
        have pf5 := (yz167667.1 _ 11 (Or.inr (by decide)) (Or.inr (by decide))).trans pf5
        have hv167631 := (yz167667.1 _ 3 (Or.inl (by rw [gx0]; decide)) (Or.inr (by decide))).trans hv167631
        have hv167636 := (yz167667.1 _ 6 (Or.inr (by decide)) (Or.inr (by decide))).trans hv167636
        have hv167665 := (yz167667.1 _ 4 (Or.inr (by decide)) (Or.inl (by rw [gx0]; decide))).trans hv167665
        have hfr : (∀ b j : Nat, (tag b ≠ 24 ∨ j ≠ 2) → (tag b ≠ 24 ∨ j ≠ 3) → (tag b ≠ 24 ∨ j ≠ 4) → (tag b ≠ 24 ∨ j ≠ 5) → (tag b ≠ 24 ∨ j ≠ 6) → (tag b ≠ 24 ∨ j ≠ 7) → (tag b ≠ 25 ∨ j ≠ 3) → (tag b ≠ 25 ∨ j ≠ 4) → fld F b j = fld Fo b j) ∧ EF tag F Fo := ⟨fun b j n24_2 n24_3 n24_4 n24_5 n24_6 n24_7 n25_3 n25_4 => (yz167667.1 b j n25_3 n25_4).trans (hfr.1 b j n24_2 n24_3 n24_4 n24_5 n24_6 n24_7 n25_3 n25_4), fun b j hb => (yz167667.2 b j hb).trans (hfr.2 b j hb)⟩
        obtain ⟨z167668, qz167668, rz167668⟩ := xz167667_0
        refine lv_aload_n hx hb dX3_whole_60 rfl (lv_at hl 0 rfl) ?_
        refine t_get (C := RX3) (T := TX3) (N := 13) X hT m0 g0 rfl rfl 3 (by decide) qw_163 inlX3 rfl dX3_whole_61 (fun v167669 hv167669 ov167669 => ?_)
        obtain rfl : v167669 = .int z167668 := hv167669.symm.trans qz167668
        refine lv_if_eq (tgt := 69) hx hb dX3_whole_64 (by decide) (fun c167670 => ?_) (fun c167670 => ?_)
        · have w167671 := cv_eq (rfl : z167668.toInt = z167668.toInt) (by decide : (0 : Int32).toInt = 0) c167670
          exfalso
          omega
        · have w167672 := cv_ne (rfl : z167668.toInt = z167668.toInt) (by decide : (0 : Int32).toInt = 0) c167670
          refine lv_iload_n hx hb dX3_whole_67 rfl (lv_at hl 1 rfl) ?_
          exact t_iret hQ X hT (⟨rg_all _, hfr⟩) (Nat.le_of_ble_eq_true rfl) (Nat.le_of_ble_eq_true rfl) dX3_whole_68
  · have w167673 := cv_ne (rfl : z167632.toInt = z167632.toInt) (by decide : (2 : Int32).toInt = 2) c167633
    refine lv_aload_n hx hb dX3_whole_11 rfl (lv_at hl 0 rfl) ?_
    refine lv_iconst (v := 1) hx hb dX3_whole_12 (by decide) ?_
    refine lv_aload_n hx hb dX3_whole_13 rfl (lv_at hl 0 rfl) ?_
    refine t_get (C := RX3) (T := TX3) (N := 13) X hT m0 g0 rfl rfl 0 (by decide) qw_73 inlX3 rfl dX3_whole_14 (fun v167674 hv167674 ov167674 => ?_)
    obtain rfl : v167674 = .ref x0 := hv167674.symm.trans pf0
    refine t_get (C := RX8) (T := TX8) (N := 8) X hT mx0 gx0 rfl rfl 4 (by decide) qw_227 inlX8 rfl dX3_whole_17 (fun v167675 hv167675 ov167675 => ?_)
    obtain ⟨z167676, rfl, rz167676⟩ := okV_i ov167675
    refine t_cVv (n := 2) (C := RX3) (T := TX3) (N := 13) (As := [.int 1, .int z167676]) (rest := []) X hT (kt432_X3_fail l G tag L F hT.2.2.2 p0 1 z167676 m0 g0 (by decide)) m0 g0 rfl rfl qw_287 qw_288 qw_289 qw_28 qw_290 ⟨rfl, by decide +kernel, by decide +kernel, by decide +kernel⟩ ⟨Nat.le_of_ble_eq_true rfl, Nat.le_of_ble_eq_true rfl⟩ hl rfl rfl (Nat.le_of_ble_eq_true rfl) dX3_whole_20 ⟨Nat.le_of_ble_eq_true rfl, Nat.le_of_ble_eq_true rfl⟩ (fun F H locs hT hz167677 => ?_)
    obtain ⟨yz167677, xz167677_0⟩ := hz167677
    have pf0 := (yz167677.1 _ 0 (Or.inr (by decide)) (Or.inr (by decide))).trans pf0
    have pf1 := (yz167677.1 _ 1 (Or.inr (by decide)) (Or.inr (by decide))).trans pf1
    have pf2 := (yz167677.1 _ 2 (Or.inr (by decide)) (Or.inr (by decide))).trans pf2
    have pf3 := (yz167677.1 _ 0 (Or.inr (by decide)) (Or.inr (by decide))).trans pf3
    have pf4 := (yz167677.1 _ 10 (Or.inr (by decide)) (Or.inr (by decide))).trans pf4
    have pf5 := (yz167677.1 _ 11 (Or.inr (by decide)) (Or.inr (by decide))).trans pf5
    have hv167631 := (yz167677.1 _ 3 (Or.inl (by rw [gx0]; decide)) (Or.inr (by decide))).trans hv167631
    have hv167675 := (yz167677.1 _ 4 (Or.inr (by decide)) (Or.inl (by rw [gx0]; decide))).trans hv167675
    have hfr : (∀ b j : Nat, (tag b ≠ 24 ∨ j ≠ 2) → (tag b ≠ 24 ∨ j ≠ 3) → (tag b ≠ 24 ∨ j ≠ 4) → (tag b ≠ 24 ∨ j ≠ 5) → (tag b ≠ 24 ∨ j ≠ 6) → (tag b ≠ 24 ∨ j ≠ 7) → (tag b ≠ 25 ∨ j ≠ 3) → (tag b ≠ 25 ∨ j ≠ 4) → fld F b j = fld Fo b j) ∧ EF tag F Fo := ⟨fun b j n24_2 n24_3 n24_4 n24_5 n24_6 n24_7 n25_3 n25_4 => (yz167677.1 b j n25_3 n25_4).trans (hfr.1 b j n24_2 n24_3 n24_4 n24_5 n24_6 n24_7 n25_3 n25_4), fun b j hb => (yz167677.2 b j hb).trans (hfr.2 b j hb)⟩
    obtain ⟨z167678, qz167678, rz167678⟩ := xz167677_0
    refine lv_goto (tgt := 60) hx hb dX3_whole_23 (by decide) ?_
    refine lv_aload_n hx hb dX3_whole_60 rfl (lv_at hl 0 rfl) ?_
    refine t_get (C := RX3) (T := TX3) (N := 13) X hT m0 g0 rfl rfl 3 (by decide) qw_163 inlX3 rfl dX3_whole_61 (fun v167679 hv167679 ov167679 => ?_)
    obtain rfl : v167679 = .int z167678 := hv167679.symm.trans qz167678
    refine lv_if_eq (tgt := 69) hx hb dX3_whole_64 (by decide) (fun c167680 => ?_) (fun c167680 => ?_)
    · have w167681 := cv_eq (rfl : z167678.toInt = z167678.toInt) (by decide : (0 : Int32).toInt = 0) c167680
      exfalso
      omega
    · have w167682 := cv_ne (rfl : z167678.toInt = z167678.toInt) (by decide : (0 : Int32).toInt = 0) c167680
      refine lv_iload_n hx hb dX3_whole_67 rfl (lv_at hl 1 rfl) ?_
      exact t_iret hQ X hT (⟨rg_all _, hfr⟩) (Nat.le_of_ble_eq_true rfl) (Nat.le_of_ble_eq_true rfl) dX3_whole_68
set_option maxHeartbeats 4000000 in
set_option maxRecDepth 100000 in
theorem kt480_X8_begin (l : Launch) (G : KG) (tag : Nat → Nat) (L : List Nat) (Fo : Nat → va_E) (ho : okT G ttC tag L Fo) (p0 : Nat) (p1 : Nat) (p2 : Int32) (m0 : p0 ∈ L) (g0 : tag p0 = 24) (m1 : p1 ∈ L) (g1 : tag p1 = 1) (h2 : 0 ≤ p2.toInt ∧ p2.toInt ≤ 1000) : TMv l yX8_begin cX8_begin 3 { frames := 3, cells := 0, slots := 0, locals := 62 } G ttC tag L Fo [.ref p0, .ref p1, .int p2] (fun F1 => ((∀ b j : Nat, (tag b ≠ 24 ∨ j ≠ 0) → (tag b ≠ 24 ∨ j ≠ 1) → (tag b ≠ 24 ∨ j ≠ 2) → (tag b ≠ 24 ∨ j ≠ 3) → (tag b ≠ 24 ∨ j ≠ 4) → (tag b ≠ 24 ∨ j ≠ 5) → (tag b ≠ 24 ∨ j ≠ 6) → (tag b ≠ 24 ∨ j ≠ 7) → fld F1 b j = fld Fo b j) ∧ EF tag F1 Fo) ∧ (fld F1 p0 0 = .ref p1)) := by
  refine t_bodyv (y := yX8_begin) (cd := cX8_begin) (mL := 3) (rm := { frames := 3, cells := 0, slots := 0, locals := 62 }) (av := [.ref p0, .ref p1, .int p2]) (by decide) (Nat.le_of_ble_eq_true rfl) ho ?_
  intro p e s m args below meth c ls A Q hQ X hT hl
  have hx := X.1.1
  have hb := X.1.2.1
  have hl : lv_has ls 3 [(0, .ref p0), (1, .ref p1), (2, .int p2)] := hl
  obtain ⟨F, hFo⟩ : ∃ F : Nat → va_E, F = Fo := ⟨_, rfl⟩
  rw [← hFo] at hT
  have hfr : (∀ b j : Nat, (tag b ≠ 24 ∨ j ≠ 0) → (tag b ≠ 24 ∨ j ≠ 1) → (tag b ≠ 24 ∨ j ≠ 2) → (tag b ≠ 24 ∨ j ≠ 3) → (tag b ≠ 24 ∨ j ≠ 4) → (tag b ≠ 24 ∨ j ≠ 5) → (tag b ≠ 24 ∨ j ≠ 6) → (tag b ≠ 24 ∨ j ≠ 7) → fld F b j = fld Fo b j) ∧ EF tag F Fo := by
    rw [hFo]
    exact ⟨by intros; rfl, fun _ _ _ => rfl⟩
  refine lv_aload_n hx hb dX8_begin_0 rfl (lv_at hl 0 rfl) ?_
  refine lv_aload_n hx hb dX8_begin_1 rfl (lv_at hl 1 rfl) ?_
  refine t_put (C := RX8) (T := TX8) (N := 8) (v := .ref p1) X hT m0 g0 rfl tyX8 tyX8_ok nmX8 rfl 0 (by decide) qw_193 inlX8 rfl (by first | rfl | decide) (by first | rfl | decide) rfl (Or.inr ⟨_, rfl, m1, by rw [g1]; rfl⟩) dX8_begin_2 (fun F H locs hT v167757 h1v167757 h2v167757 => ?_)
  have hfr : (∀ b j : Nat, (tag b ≠ 24 ∨ j ≠ 0) → (tag b ≠ 24 ∨ j ≠ 1) → (tag b ≠ 24 ∨ j ≠ 2) → (tag b ≠ 24 ∨ j ≠ 3) → (tag b ≠ 24 ∨ j ≠ 4) → (tag b ≠ 24 ∨ j ≠ 5) → (tag b ≠ 24 ∨ j ≠ 6) → (tag b ≠ 24 ∨ j ≠ 7) → fld F b j = fld Fo b j) ∧ EF tag F Fo := ⟨fun b j n24_0 n24_1 n24_2 n24_3 n24_4 n24_5 n24_6 n24_7 => (h1v167757 b j (fr_ne g0 n24_0)).trans (hfr.1 b j n24_0 n24_1 n24_2 n24_3 n24_4 n24_5 n24_6 n24_7), fun b j hb => (h2v167757 b j).trans (hfr.2 b j hb)⟩
  refine lv_aload_n hx hb dX8_begin_5 rfl (lv_at hl 0 rfl) ?_
  refine lv_iload_n hx hb dX8_begin_6 rfl (lv_at hl 2 rfl) ?_
  refine t_put (C := RX8) (T := TX8) (N := 8) (v := .int p2) X hT m0 g0 rfl tyX8 tyX8_ok nmX8 rfl 1 (by decide) qw_194 inlX8 rfl (by first | rfl | decide) (by first | rfl | decide) rfl (⟨_, rfl, (show 0 ≤ (p2 : Int32).toInt from (by omega)), (show (p2 : Int32).toInt ≤ 1000 from (by omega))⟩) dX8_begin_7 (fun F H locs hT v167758 h1v167758 h2v167758 => ?_)
  have v167757 := (h1v167758 _ _ (Or.inr (by decide))).trans v167757
  have hfr : (∀ b j : Nat, (tag b ≠ 24 ∨ j ≠ 0) → (tag b ≠ 24 ∨ j ≠ 1) → (tag b ≠ 24 ∨ j ≠ 2) → (tag b ≠ 24 ∨ j ≠ 3) → (tag b ≠ 24 ∨ j ≠ 4) → (tag b ≠ 24 ∨ j ≠ 5) → (tag b ≠ 24 ∨ j ≠ 6) → (tag b ≠ 24 ∨ j ≠ 7) → fld F b j = fld Fo b j) ∧ EF tag F Fo := ⟨fun b j n24_0 n24_1 n24_2 n24_3 n24_4 n24_5 n24_6 n24_7 => (h1v167758 b j (fr_ne g0 n24_1)).trans (hfr.1 b j n24_0 n24_1 n24_2 n24_3 n24_4 n24_5 n24_6 n24_7), fun b j hb => (h2v167758 b j).trans (hfr.2 b j hb)⟩
  refine lv_aload_n hx hb dX8_begin_10 rfl (lv_at hl 0 rfl) ?_
  refine lv_iconst (v := 0) hx hb dX8_begin_11 (by decide) ?_
  refine t_put (C := RX8) (T := TX8) (N := 8) (v := .int 0) X hT m0 g0 rfl tyX8 tyX8_ok nmX8 rfl 2 (by decide) qw_195 inlX8 rfl (by first | rfl | decide) (by first | rfl | decide) rfl (⟨_, rfl, (show 0 ≤ (0 : Int32).toInt from (by decide)), (show (0 : Int32).toInt ≤ 1000 from (by decide))⟩) dX8_begin_12 (fun F H locs hT v167759 h1v167759 h2v167759 => ?_)
  have v167757 := (h1v167759 _ _ (Or.inr (by decide))).trans v167757
  have v167758 := (h1v167759 _ _ (Or.inr (by decide))).trans v167758
  have hfr : (∀ b j : Nat, (tag b ≠ 24 ∨ j ≠ 0) → (tag b ≠ 24 ∨ j ≠ 1) → (tag b ≠ 24 ∨ j ≠ 2) → (tag b ≠ 24 ∨ j ≠ 3) → (tag b ≠ 24 ∨ j ≠ 4) → (tag b ≠ 24 ∨ j ≠ 5) → (tag b ≠ 24 ∨ j ≠ 6) → (tag b ≠ 24 ∨ j ≠ 7) → fld F b j = fld Fo b j) ∧ EF tag F Fo := ⟨fun b j n24_0 n24_1 n24_2 n24_3 n24_4 n24_5 n24_6 n24_7 => (h1v167759 b j (fr_ne g0 n24_2)).trans (hfr.1 b j n24_0 n24_1 n24_2 n24_3 n24_4 n24_5 n24_6 n24_7), fun b j hb => (h2v167759 b j).trans (hfr.2 b j hb)⟩
  refine lv_aload_n hx hb dX8_begin_15 rfl (lv_at hl 0 rfl) ?_
  refine t_cVv (n := 0) (C := RX8) (T := TX8) (N := 8) (As := []) (rest := []) X hT (kt440_X8_advance l G tag L F hT.2.2.2 p0 p1 m0 g0 m1 g1 v167757) m0 g0 rfl rfl qw_196 qw_197 qw_198 qw_72 qw_199 ⟨rfl, by decide +kernel, by decide +kernel, by decide +kernel⟩ ⟨Nat.le_of_ble_eq_true rfl, Nat.le_of_ble_eq_true rfl⟩ hl rfl rfl (Nat.le_of_ble_eq_true rfl) dX8_begin_16 ⟨Nat.le_of_ble_eq_true rfl, Nat.le_of_ble_eq_true rfl⟩ (fun F H locs hT hz167760 => ?_)
  have yz167760 := hz167760
  have v167757 := (yz167760.1 _ 0 (Or.inr (by decide)) (Or.inr (by decide)) (Or.inr (by decide)) (Or.inr (by decide)) (Or.inr (by decide)) (Or.inr (by decide))).trans v167757
  have v167758 := (yz167760.1 _ 1 (Or.inr (by decide)) (Or.inr (by decide)) (Or.inr (by decide)) (Or.inr (by decide)) (Or.inr (by decide)) (Or.inr (by decide))).trans v167758
  have hfr : (∀ b j : Nat, (tag b ≠ 24 ∨ j ≠ 0) → (tag b ≠ 24 ∨ j ≠ 1) → (tag b ≠ 24 ∨ j ≠ 2) → (tag b ≠ 24 ∨ j ≠ 3) → (tag b ≠ 24 ∨ j ≠ 4) → (tag b ≠ 24 ∨ j ≠ 5) → (tag b ≠ 24 ∨ j ≠ 6) → (tag b ≠ 24 ∨ j ≠ 7) → fld F b j = fld Fo b j) ∧ EF tag F Fo := ⟨fun b j n24_0 n24_1 n24_2 n24_3 n24_4 n24_5 n24_6 n24_7 => (yz167760.1 b j n24_2 n24_3 n24_4 n24_5 n24_6 n24_7).trans (hfr.1 b j n24_0 n24_1 n24_2 n24_3 n24_4 n24_5 n24_6 n24_7), fun b j hb => (yz167760.2 b j hb).trans (hfr.2 b j hb)⟩
  exact t_vret hQ X hT ⟨hfr, v167757⟩ (Nat.le_of_ble_eq_true rfl) (Nat.le_of_ble_eq_true rfl) dX8_begin_19
set_option maxHeartbeats 4000000 in
set_option maxRecDepth 100000 in
theorem kt481_X3_readAll (l : Launch) (G : KG) (tag : Nat → Nat) (L : List Nat) (Fo : Nat → va_E) (ho : okT G ttC tag L Fo) (p0 : Nat) (p1 : Nat) (p2 : Int32) (p3 : Nat) (p4 : Nat) (x0 : Nat) (x1 : Nat) (m0 : p0 ∈ L) (g0 : tag p0 = 25) (m1 : p1 ∈ L) (g1 : tag p1 = 1) (h2 : 0 ≤ p2.toInt ∧ p2.toInt ≤ 1000) (m3 : p3 ∈ L) (g3 : tag p3 = 18) (m4 : p4 ∈ L) (g4 : tag p4 = 19) (mx0 : x0 ∈ L) (gx0 : tag x0 = 14) (pf0 : fld Fo p0 10 = .ref x0) (mx1 : x1 ∈ L) (gx1 : tag x1 = 15) (pf1 : fld Fo p0 11 = .ref x1) (hrel : NSR Fo x0 x1) : TMv l yX3_readAll cX3_readAll 6 { frames := 9, cells := 0, slots := 0, locals := 197 } G ttC tag L Fo [.ref p0, .ref p1, .int p2, .ref p3, .ref p4] (fun F1 => (∀ b j : Nat, (tag b ≠ 18 ∨ j ≠ 0) → (tag b ≠ 18 ∨ j ≠ 1) → (tag b ≠ 18 ∨ j ≠ 2) → (tag b ≠ 18 ∨ j ≠ 3) → (tag b ≠ 18 ∨ j ≠ 4) → (tag b ≠ 18 ∨ j ≠ 5) → (tag b ≠ 18 ∨ j ≠ 6) → (tag b ≠ 18 ∨ j ≠ 8) → (tag b ≠ 18 ∨ j ≠ 10) → (tag b ≠ 18 ∨ j ≠ 14) → (tag b ≠ 18 ∨ j ≠ 16) → (tag b ≠ 19 ∨ j ≠ 0) → (tag b ≠ 19 ∨ j ≠ 1) → (tag b ≠ 24 ∨ j ≠ 0) → (tag b ≠ 24 ∨ j ≠ 1) → (tag b ≠ 24 ∨ j ≠ 2) → (tag b ≠ 24 ∨ j ≠ 3) → (tag b ≠ 24 ∨ j ≠ 4) → (tag b ≠ 24 ∨ j ≠ 5) → (tag b ≠ 24 ∨ j ≠ 6) → (tag b ≠ 24 ∨ j ≠ 7) → (tag b ≠ 25 ∨ j ≠ 1) → (tag b ≠ 25 ∨ j ≠ 2) → (tag b ≠ 25 ∨ j ≠ 3) → (tag b ≠ 25 ∨ j ≠ 4) → (tag b ≠ 25 ∨ j ≠ 5) → (tag b ≠ 25 ∨ j ≠ 6) → (tag b ≠ 25 ∨ j ≠ 7) → (tag b ≠ 25 ∨ j ≠ 8) → (tag b ≠ 25 ∨ j ≠ 12) → fld F1 b j = fld Fo b j) ∧ (NSR F1 x0 x1)) := by
  refine t_bodyv (y := yX3_readAll) (cd := cX3_readAll) (mL := 6) (rm := { frames := 9, cells := 0, slots := 0, locals := 197 }) (av := [.ref p0, .ref p1, .int p2, .ref p3, .ref p4]) (by decide) (Nat.le_of_ble_eq_true rfl) ho ?_
  intro p e s m args below meth c ls A Q hQ X hT hl
  have hx := X.1.1
  have hb := X.1.2.1
  have hl : lv_has ls 6 [(0, .ref p0), (1, .ref p1), (2, .int p2), (3, .ref p3), (4, .ref p4)] := hl
  obtain ⟨F, hFo⟩ : ∃ F : Nat → va_E, F = Fo := ⟨_, rfl⟩
  rw [← hFo] at hT pf0 pf1 hrel
  have hfr : ∀ b j : Nat, (tag b ≠ 18 ∨ j ≠ 0) → (tag b ≠ 18 ∨ j ≠ 1) → (tag b ≠ 18 ∨ j ≠ 2) → (tag b ≠ 18 ∨ j ≠ 3) → (tag b ≠ 18 ∨ j ≠ 4) → (tag b ≠ 18 ∨ j ≠ 5) → (tag b ≠ 18 ∨ j ≠ 6) → (tag b ≠ 18 ∨ j ≠ 8) → (tag b ≠ 18 ∨ j ≠ 10) → (tag b ≠ 18 ∨ j ≠ 14) → (tag b ≠ 18 ∨ j ≠ 16) → (tag b ≠ 19 ∨ j ≠ 0) → (tag b ≠ 19 ∨ j ≠ 1) → (tag b ≠ 24 ∨ j ≠ 0) → (tag b ≠ 24 ∨ j ≠ 1) → (tag b ≠ 24 ∨ j ≠ 2) → (tag b ≠ 24 ∨ j ≠ 3) → (tag b ≠ 24 ∨ j ≠ 4) → (tag b ≠ 24 ∨ j ≠ 5) → (tag b ≠ 24 ∨ j ≠ 6) → (tag b ≠ 24 ∨ j ≠ 7) → (tag b ≠ 25 ∨ j ≠ 1) → (tag b ≠ 25 ∨ j ≠ 2) → (tag b ≠ 25 ∨ j ≠ 3) → (tag b ≠ 25 ∨ j ≠ 4) → (tag b ≠ 25 ∨ j ≠ 5) → (tag b ≠ 25 ∨ j ≠ 6) → (tag b ≠ 25 ∨ j ≠ 7) → (tag b ≠ 25 ∨ j ≠ 8) → (tag b ≠ 25 ∨ j ≠ 12) → fld F b j = fld Fo b j := by
    rw [hFo]
    intros
    rfl
  have K144 : ∀ (z170396 : Int32) (z170397 : Int32) (b170398 : Nat) (b170399 : Nat) (b170400 : Nat) (b170401 : Nat) (b170402 : Nat) (b170403 : Nat) (F : Nat → va_E) (H : Heap) (locs : List Loc) (ls : Array Slot), (0 ≤ z170396.toInt ∧ z170396.toInt ≤ 1000) → (0 ≤ z170397.toInt ∧ z170397.toInt ≤ 1) → (b170398 ∈ L) → (tag b170398 = 14) → (b170399 ∈ L) → (tag b170399 = 15) → (b170400 ∈ L) → (tag b170400 = 18) → (b170401 ∈ L) → (tag b170401 = 19) → (b170402 ∈ L) → (tag b170402 = 24) → (b170403 ∈ L) → (tag b170403 = 1) → TH G ttC A s tag L F H locs → (∀ b j : Nat, (tag b ≠ 18 ∨ j ≠ 0) → (tag b ≠ 18 ∨ j ≠ 1) → (tag b ≠ 18 ∨ j ≠ 2) → (tag b ≠ 18 ∨ j ≠ 3) → (tag b ≠ 18 ∨ j ≠ 4) → (tag b ≠ 18 ∨ j ≠ 5) → (tag b ≠ 18 ∨ j ≠ 6) → (tag b ≠ 18 ∨ j ≠ 8) → (tag b ≠ 18 ∨ j ≠ 10) → (tag b ≠ 18 ∨ j ≠ 14) → (tag b ≠ 18 ∨ j ≠ 16) → (tag b ≠ 19 ∨ j ≠ 0) → (tag b ≠ 19 ∨ j ≠ 1) → (tag b ≠ 24 ∨ j ≠ 0) → (tag b ≠ 24 ∨ j ≠ 1) → (tag b ≠ 24 ∨ j ≠ 2) → (tag b ≠ 24 ∨ j ≠ 3) → (tag b ≠ 24 ∨ j ≠ 4) → (tag b ≠ 24 ∨ j ≠ 5) → (tag b ≠ 24 ∨ j ≠ 6) → (tag b ≠ 24 ∨ j ≠ 7) → (tag b ≠ 25 ∨ j ≠ 1) → (tag b ≠ 25 ∨ j ≠ 2) → (tag b ≠ 25 ∨ j ≠ 3) → (tag b ≠ 25 ∨ j ≠ 4) → (tag b ≠ 25 ∨ j ≠ 5) → (tag b ≠ 25 ∨ j ≠ 6) → (tag b ≠ 25 ∨ j ≠ 7) → (tag b ≠ 25 ∨ j ≠ 8) → (tag b ≠ 25 ∨ j ≠ 12) → fld F b j = fld Fo b j) → NSR F x0 x1 → fld F p0 10 = .ref x0 → fld F p0 11 = .ref x1 → fld F p0 6 = .int z170397 → fld F p0 10 = .ref b170398 → fld F p0 11 = .ref b170399 → fld F p0 1 = .ref b170400 → fld F p0 2 = .ref b170401 → fld F p0 0 = .ref b170402 → fld F b170402 0 = .ref b170403 → lv_has ls 6 [(0, .ref p0), (1, .ref p1), (2, .int p2), (3, .ref p3), (4, .ref p4), (5, .int z170396)] → W p l e { frames := 9, cells := 0, slots := 0, locals := 197 } s m args below meth c H locs 0 0 Q (F0 m 144 ls []) := by
    intro z170396 z170397 b170398 b170399 b170400 b170401 b170402 b170403 F H locs ls rz170396 rz170397 mb170398 gb170398 mb170399 gb170399 mb170400 gb170400 mb170401 gb170401 mb170402 gb170402 mb170403 gb170403 hT hfr hrel pf0 pf1 qz170397 qb170398 qb170399 qb170400 qb170401 qb170402 qb170403 hl
    refine lv_aload_n hx hb dX3_readAll_144 rfl (lv_at hl 0 rfl) ?_
    refine lv_bipush (v := 6) hx hb dX3_readAll_145 (by decide) ?_
    refine lv_iload_n hx hb dX3_readAll_147 rfl (lv_at hl 2 rfl) ?_
    refine t_cVv (n := 2) (C := RX3) (T := TX3) (N := 13) (As := [.int 6, .int p2]) (rest := []) X hT (kt432_X3_fail l G tag L F hT.2.2.2 p0 6 p2 m0 g0 (by decide)) m0 g0 rfl rfl qw_287 qw_288 qw_289 qw_28 qw_290 ⟨rfl, by decide +kernel, by decide +kernel, by decide +kernel⟩ ⟨Nat.le_of_ble_eq_true rfl, Nat.le_of_ble_eq_true rfl⟩ hl rfl rfl (Nat.le_of_ble_eq_true rfl) dX3_readAll_148 ⟨Nat.le_of_ble_eq_true rfl, Nat.le_of_ble_eq_true rfl⟩ (fun F H locs hT hz170404 => ?_)
    obtain ⟨yz170404, xz170404_0⟩ := hz170404
    have qz170397 := (yz170404.1 _ 6 (Or.inr (by decide)) (Or.inr (by decide))).trans qz170397
    have pf0 := (yz170404.1 _ 10 (Or.inr (by decide)) (Or.inr (by decide))).trans pf0
    have pf1 := (yz170404.1 _ 11 (Or.inr (by decide)) (Or.inr (by decide))).trans pf1
    have qb170400 := (yz170404.1 _ 1 (Or.inr (by decide)) (Or.inr (by decide))).trans qb170400
    have qb170401 := (yz170404.1 _ 2 (Or.inr (by decide)) (Or.inr (by decide))).trans qb170401
    have qb170402 := (yz170404.1 _ 0 (Or.inr (by decide)) (Or.inr (by decide))).trans qb170402
    have qb170403 := (yz170404.1 _ 0 (Or.inr (by decide)) (Or.inr (by decide))).trans qb170403
    have hfr : ∀ b j : Nat, (tag b ≠ 18 ∨ j ≠ 0) → (tag b ≠ 18 ∨ j ≠ 1) → (tag b ≠ 18 ∨ j ≠ 2) → (tag b ≠ 18 ∨ j ≠ 3) → (tag b ≠ 18 ∨ j ≠ 4) → (tag b ≠ 18 ∨ j ≠ 5) → (tag b ≠ 18 ∨ j ≠ 6) → (tag b ≠ 18 ∨ j ≠ 8) → (tag b ≠ 18 ∨ j ≠ 10) → (tag b ≠ 18 ∨ j ≠ 14) → (tag b ≠ 18 ∨ j ≠ 16) → (tag b ≠ 19 ∨ j ≠ 0) → (tag b ≠ 19 ∨ j ≠ 1) → (tag b ≠ 24 ∨ j ≠ 0) → (tag b ≠ 24 ∨ j ≠ 1) → (tag b ≠ 24 ∨ j ≠ 2) → (tag b ≠ 24 ∨ j ≠ 3) → (tag b ≠ 24 ∨ j ≠ 4) → (tag b ≠ 24 ∨ j ≠ 5) → (tag b ≠ 24 ∨ j ≠ 6) → (tag b ≠ 24 ∨ j ≠ 7) → (tag b ≠ 25 ∨ j ≠ 1) → (tag b ≠ 25 ∨ j ≠ 2) → (tag b ≠ 25 ∨ j ≠ 3) → (tag b ≠ 25 ∨ j ≠ 4) → (tag b ≠ 25 ∨ j ≠ 5) → (tag b ≠ 25 ∨ j ≠ 6) → (tag b ≠ 25 ∨ j ≠ 7) → (tag b ≠ 25 ∨ j ≠ 8) → (tag b ≠ 25 ∨ j ≠ 12) → fld F b j = fld Fo b j := fun b j n18_0 n18_1 n18_2 n18_3 n18_4 n18_5 n18_6 n18_8 n18_10 n18_14 n18_16 n19_0 n19_1 n24_0 n24_1 n24_2 n24_3 n24_4 n24_5 n24_6 n24_7 n25_1 n25_2 n25_3 n25_4 n25_5 n25_6 n25_7 n25_8 n25_12 => (yz170404.1 b j n25_3 n25_4).trans (hfr b j n18_0 n18_1 n18_2 n18_3 n18_4 n18_5 n18_6 n18_8 n18_10 n18_14 n18_16 n19_0 n19_1 n24_0 n24_1 n24_2 n24_3 n24_4 n24_5 n24_6 n24_7 n25_1 n25_2 n25_3 n25_4 n25_5 n25_6 n25_7 n25_8 n25_12)
    have hrel := nsr_of (fun j => yz170404.2 _ j (Or.inl gx0)) (fun j => yz170404.2 _ j (Or.inr gx1)) hrel
    obtain ⟨z170405, qz170405, rz170405⟩ := xz170404_0
    exact t_vret hQ X hT ⟨hfr, hrel⟩ (Nat.le_of_ble_eq_true rfl) (Nat.le_of_ble_eq_true rfl) dX3_readAll_151
  have K117 : ∀ (z170406 : Int32) (b170407 : Nat) (b170408 : Nat) (b170409 : Nat) (b170410 : Nat) (b170411 : Nat) (b170412 : Nat) (F : Nat → va_E) (H : Heap) (locs : List Loc) (ls : Array Slot), (0 ≤ z170406.toInt ∧ z170406.toInt ≤ 1000) → (b170407 ∈ L) → (tag b170407 = 14) → (b170408 ∈ L) → (tag b170408 = 15) → (b170409 ∈ L) → (tag b170409 = 18) → (b170410 ∈ L) → (tag b170410 = 19) → (b170411 ∈ L) → (tag b170411 = 24) → (b170412 ∈ L) → (tag b170412 = 1) → TH G ttC A s tag L F H locs → (∀ b j : Nat, (tag b ≠ 18 ∨ j ≠ 0) → (tag b ≠ 18 ∨ j ≠ 1) → (tag b ≠ 18 ∨ j ≠ 2) → (tag b ≠ 18 ∨ j ≠ 3) → (tag b ≠ 18 ∨ j ≠ 4) → (tag b ≠ 18 ∨ j ≠ 5) → (tag b ≠ 18 ∨ j ≠ 6) → (tag b ≠ 18 ∨ j ≠ 8) → (tag b ≠ 18 ∨ j ≠ 10) → (tag b ≠ 18 ∨ j ≠ 14) → (tag b ≠ 18 ∨ j ≠ 16) → (tag b ≠ 19 ∨ j ≠ 0) → (tag b ≠ 19 ∨ j ≠ 1) → (tag b ≠ 24 ∨ j ≠ 0) → (tag b ≠ 24 ∨ j ≠ 1) → (tag b ≠ 24 ∨ j ≠ 2) → (tag b ≠ 24 ∨ j ≠ 3) → (tag b ≠ 24 ∨ j ≠ 4) → (tag b ≠ 24 ∨ j ≠ 5) → (tag b ≠ 24 ∨ j ≠ 6) → (tag b ≠ 24 ∨ j ≠ 7) → (tag b ≠ 25 ∨ j ≠ 1) → (tag b ≠ 25 ∨ j ≠ 2) → (tag b ≠ 25 ∨ j ≠ 3) → (tag b ≠ 25 ∨ j ≠ 4) → (tag b ≠ 25 ∨ j ≠ 5) → (tag b ≠ 25 ∨ j ≠ 6) → (tag b ≠ 25 ∨ j ≠ 7) → (tag b ≠ 25 ∨ j ≠ 8) → (tag b ≠ 25 ∨ j ≠ 12) → fld F b j = fld Fo b j) → NSR F x0 x1 → fld F p0 10 = .ref x0 → fld F p0 11 = .ref x1 → fld F p0 10 = .ref b170407 → fld F p0 11 = .ref b170408 → fld F p0 1 = .ref b170409 → fld F p0 2 = .ref b170410 → fld F p0 0 = .ref b170411 → fld F b170411 0 = .ref b170412 → lv_has ls 6 [(0, .ref p0), (1, .ref p1), (2, .int p2), (3, .ref p3), (4, .ref p4), (5, .int z170406)] → W p l e { frames := 9, cells := 0, slots := 0, locals := 197 } s m args below meth c H locs 0 0 Q (F0 m 117 ls []) := by
    intro z170406 b170407 b170408 b170409 b170410 b170411 b170412 F H locs ls rz170406 mb170407 gb170407 mb170408 gb170408 mb170409 gb170409 mb170410 gb170410 mb170411 gb170411 mb170412 gb170412 hT hfr hrel pf0 pf1 qb170407 qb170408 qb170409 qb170410 qb170411 qb170412 hl
    refine lv_aload_n hx hb dX3_readAll_117 rfl (lv_at hl 0 rfl) ?_
    refine t_get (C := RX3) (T := TX3) (N := 13) X hT m0 g0 rfl rfl 6 (by decide) qw_166 inlX3 rfl dX3_readAll_118 (fun v170413 hv170413 ov170413 => ?_)
    obtain ⟨z170414, rfl, rz170414⟩ := okV_i ov170413
    refine lv_if_eq (tgt := 144) hx hb dX3_readAll_121 (by decide) (fun c170415 => ?_) (fun c170415 => ?_)
    · have w170416 := cv_eq (rfl : z170414.toInt = z170414.toInt) (by decide : (0 : Int32).toInt = 0) c170415
      exact K144 z170406 z170414 x0 x1 b170409 b170410 b170411 b170412 _ _ _ _ (by omega) (by omega) mx0 gx0 mx1 gx1 mb170409 gb170409 mb170410 gb170410 mb170411 gb170411 mb170412 gb170412 hT hfr hrel pf0 pf1 hv170413 pf0 pf1 qb170409 qb170410 qb170411 qb170412 (lv_sub hl [0, 1, 2, 3, 4, 5] rfl)
    · have w170417 := cv_ne (rfl : z170414.toInt = z170414.toInt) (by decide : (0 : Int32).toInt = 0) c170415
      refine lv_aload_n hx hb dX3_readAll_124 rfl (lv_at hl 0 rfl) ?_
      refine t_get (C := RX3) (T := TX3) (N := 13) X hT m0 g0 rfl rfl 1 (by decide) qw_161 inlX3 rfl dX3_readAll_125 (fun v170418 hv170418 ov170418 => ?_)
      obtain rfl : v170418 = .ref b170409 := hv170418.symm.trans qb170409
      refine t_get (C := RX1) (T := TX1) (N := 20) X hT mb170409 gb170409 rfl rfl 8 (by decide) qw_171 inlX1 rfl dX3_readAll_128 (fun v170419 hv170419 ov170419 => ?_)
      obtain ⟨z170420, rfl, rz170420⟩ := okV_i ov170419
      refine lv_if_eq (tgt := 144) hx hb dX3_readAll_131 (by decide) (fun c170421 => ?_) (fun c170421 => ?_)
      · have w170422 := cv_eq (rfl : z170420.toInt = z170420.toInt) (by decide : (0 : Int32).toInt = 0) c170421
        exact K144 z170406 z170414 x0 x1 b170409 b170410 b170411 b170412 _ _ _ _ (by omega) (by omega) mx0 gx0 mx1 gx1 mb170409 gb170409 mb170410 gb170410 mb170411 gb170411 mb170412 gb170412 hT hfr hrel pf0 pf1 hv170413 pf0 pf1 qb170409 qb170410 qb170411 qb170412 (lv_sub hl [0, 1, 2, 3, 4, 5] rfl)
      · have w170423 := cv_ne (rfl : z170420.toInt = z170420.toInt) (by decide : (0 : Int32).toInt = 0) c170421
        refine lv_aload_n hx hb dX3_readAll_134 rfl (lv_at hl 0 rfl) ?_
        refine t_get (C := RX3) (T := TX3) (N := 13) X hT m0 g0 rfl rfl 1 (by decide) qw_161 inlX3 rfl dX3_readAll_135 (fun v170424 hv170424 ov170424 => ?_)
        obtain rfl : v170424 = .ref b170409 := hv170424.symm.trans qb170409
        refine t_get (C := RX1) (T := TX1) (N := 20) X hT mb170409 gb170409 rfl rfl 10 (by decide) qw_172 inlX1 rfl dX3_readAll_138 (fun v170425 hv170425 ov170425 => ?_)
        obtain ⟨z170426, rfl, rz170426⟩ := okV_i ov170425
        refine lv_if_ne (tgt := 151) hx hb dX3_readAll_141 (by decide) (fun c170427 => ?_) (fun c170427 => ?_)
        · have w170428 := cv_ne (rfl : z170426.toInt = z170426.toInt) (by decide : (0 : Int32).toInt = 0) c170427
          exact t_vret hQ X hT ⟨hfr, hrel⟩ (Nat.le_of_ble_eq_true rfl) (Nat.le_of_ble_eq_true rfl) dX3_readAll_151
        · have w170429 := cv_eq (rfl : z170426.toInt = z170426.toInt) (by decide : (0 : Int32).toInt = 0) c170427
          exact K144 z170406 z170414 x0 x1 b170409 b170410 b170411 b170412 _ _ _ _ (by omega) (by omega) mx0 gx0 mx1 gx1 mb170409 gb170409 mb170410 gb170410 mb170411 gb170411 mb170412 gb170412 hT hfr hrel pf0 pf1 hv170413 pf0 pf1 qb170409 qb170410 qb170411 qb170412 (lv_sub hl [0, 1, 2, 3, 4, 5] rfl)
  have K76 : ∀ (n : Nat) (z170430 : Int32) (b170431 : Nat) (b170432 : Nat) (b170433 : Nat) (b170434 : Nat) (b170435 : Nat) (b170436 : Nat) (F : Nat → va_E) (H : Heap) (locs : List Loc) (ls : Array Slot), (1000 - z170430.toInt < (n : Int)) → (0 ≤ z170430.toInt ∧ z170430.toInt ≤ 1000) → (b170431 ∈ L) → (tag b170431 = 14) → (b170432 ∈ L) → (tag b170432 = 15) → (b170433 ∈ L) → (tag b170433 = 18) → (b170434 ∈ L) → (tag b170434 = 19) → (b170435 ∈ L) → (tag b170435 = 24) → (b170436 ∈ L) → (tag b170436 = 1) → TH G ttC A s tag L F H locs → (∀ b j : Nat, (tag b ≠ 18 ∨ j ≠ 0) → (tag b ≠ 18 ∨ j ≠ 1) → (tag b ≠ 18 ∨ j ≠ 2) → (tag b ≠ 18 ∨ j ≠ 3) → (tag b ≠ 18 ∨ j ≠ 4) → (tag b ≠ 18 ∨ j ≠ 5) → (tag b ≠ 18 ∨ j ≠ 6) → (tag b ≠ 18 ∨ j ≠ 8) → (tag b ≠ 18 ∨ j ≠ 10) → (tag b ≠ 18 ∨ j ≠ 14) → (tag b ≠ 18 ∨ j ≠ 16) → (tag b ≠ 19 ∨ j ≠ 0) → (tag b ≠ 19 ∨ j ≠ 1) → (tag b ≠ 24 ∨ j ≠ 0) → (tag b ≠ 24 ∨ j ≠ 1) → (tag b ≠ 24 ∨ j ≠ 2) → (tag b ≠ 24 ∨ j ≠ 3) → (tag b ≠ 24 ∨ j ≠ 4) → (tag b ≠ 24 ∨ j ≠ 5) → (tag b ≠ 24 ∨ j ≠ 6) → (tag b ≠ 24 ∨ j ≠ 7) → (tag b ≠ 25 ∨ j ≠ 1) → (tag b ≠ 25 ∨ j ≠ 2) → (tag b ≠ 25 ∨ j ≠ 3) → (tag b ≠ 25 ∨ j ≠ 4) → (tag b ≠ 25 ∨ j ≠ 5) → (tag b ≠ 25 ∨ j ≠ 6) → (tag b ≠ 25 ∨ j ≠ 7) → (tag b ≠ 25 ∨ j ≠ 8) → (tag b ≠ 25 ∨ j ≠ 12) → fld F b j = fld Fo b j) → NSR F x0 x1 → fld F p0 10 = .ref x0 → fld F p0 11 = .ref x1 → fld F p0 10 = .ref b170431 → fld F p0 11 = .ref b170432 → fld F p0 1 = .ref b170433 → fld F p0 2 = .ref b170434 → fld F p0 0 = .ref b170435 → fld F b170435 0 = .ref b170436 → lv_has ls 6 [(0, .ref p0), (1, .ref p1), (2, .int p2), (3, .ref p3), (4, .ref p4), (5, .int z170430)] → W p l e { frames := 9, cells := 0, slots := 0, locals := 197 } s m args below meth c H locs 0 0 Q (F0 m 76 ls []) := by
    intro n
    induction n with
    | zero =>
      intro z170430 b170431 b170432 b170433 b170434 b170435 b170436 F H locs ls hn rz170430 mb170431 gb170431 mb170432 gb170432 mb170433 gb170433 mb170434 gb170434 mb170435 gb170435 mb170436 gb170436 hT hfr hrel pf0 pf1 qb170431 qb170432 qb170433 qb170434 qb170435 qb170436 hl
      exfalso
      omega
    | succ n ih76 =>
      intro z170430 b170431 b170432 b170433 b170434 b170435 b170436 F H locs ls hn rz170430 mb170431 gb170431 mb170432 gb170432 mb170433 gb170433 mb170434 gb170434 mb170435 gb170435 mb170436 gb170436 hT hfr hrel pf0 pf1 qb170431 qb170432 qb170433 qb170434 qb170435 qb170436 hl
      refine lv_iload hx hb dX3_readAll_76 (lv_at hl 5 rfl) ?_
      refine lv_sipush (v := 1000) hx hb dX3_readAll_78 (by decide) ?_
      refine lv_icmp_ge (tgt := 117) hx hb dX3_readAll_81 (by decide) (fun c170437 => ?_) (fun c170437 => ?_)
      · have w170438 := cv_le (by decide : (1000 : Int32).toInt = 1000) (rfl : z170430.toInt = z170430.toInt) c170437
        exact K117 z170430 x0 x1 b170433 b170434 b170435 b170436 _ _ _ _ (by omega) mx0 gx0 mx1 gx1 mb170433 gb170433 mb170434 gb170434 mb170435 gb170435 mb170436 gb170436 hT hfr hrel pf0 pf1 pf0 pf1 qb170433 qb170434 qb170435 qb170436 (lv_sub hl [0, 1, 2, 3, 4, 5] rfl)
      · have w170439 := cv_nle (by decide : (1000 : Int32).toInt = 1000) (rfl : z170430.toInt = z170430.toInt) c170437
        refine lv_aload_n hx hb dX3_readAll_84 rfl (lv_at hl 0 rfl) ?_
        refine t_get (C := RX3) (T := TX3) (N := 13) X hT m0 g0 rfl rfl 3 (by decide) qw_163 inlX3 rfl dX3_readAll_85 (fun v170440 hv170440 ov170440 => ?_)
        obtain ⟨z170441, rfl, rz170441⟩ := okV_i ov170440
        refine lv_if_ne (tgt := 117) hx hb dX3_readAll_88 (by decide) (fun c170442 => ?_) (fun c170442 => ?_)
        · have w170443 := cv_ne (rfl : z170441.toInt = z170441.toInt) (by decide : (0 : Int32).toInt = 0) c170442
          exact K117 z170430 x0 x1 b170433 b170434 b170435 b170436 _ _ _ _ (by omega) mx0 gx0 mx1 gx1 mb170433 gb170433 mb170434 gb170434 mb170435 gb170435 mb170436 gb170436 hT hfr hrel pf0 pf1 pf0 pf1 qb170433 qb170434 qb170435 qb170436 (lv_sub hl [0, 1, 2, 3, 4, 5] rfl)
        · have w170444 := cv_eq (rfl : z170441.toInt = z170441.toInt) (by decide : (0 : Int32).toInt = 0) c170442
          refine lv_aload_n hx hb dX3_readAll_91 rfl (lv_at hl 0 rfl) ?_
          refine t_get (C := RX3) (T := TX3) (N := 13) X hT m0 g0 rfl rfl 0 (by decide) qw_73 inlX3 rfl dX3_readAll_92 (fun v170445 hv170445 ov170445 => ?_)
          obtain rfl : v170445 = .ref b170435 := hv170445.symm.trans qb170435
          refine t_get (C := RX8) (T := TX8) (N := 8) X hT mb170435 gb170435 rfl rfl 3 (by decide) qw_170 inlX8 rfl dX3_readAll_95 (fun v170446 hv170446 ov170446 => ?_)
          obtain ⟨z170447, rfl, rz170447⟩ := okV_i ov170446
          refine lv_if_eq (tgt := 117) hx hb dX3_readAll_98 (by decide) (fun c170448 => ?_) (fun c170448 => ?_)
          · have w170449 := cv_eq (rfl : z170447.toInt = z170447.toInt) (by decide : (0 : Int32).toInt = 0) c170448
            exact K117 z170430 x0 x1 b170433 b170434 b170435 b170436 _ _ _ _ (by omega) mx0 gx0 mx1 gx1 mb170433 gb170433 mb170434 gb170434 mb170435 gb170435 mb170436 gb170436 hT hfr hrel pf0 pf1 pf0 pf1 qb170433 qb170434 qb170435 qb170436 (lv_sub hl [0, 1, 2, 3, 4, 5] rfl)
          · have w170450 := cv_ne (rfl : z170447.toInt = z170447.toInt) (by decide : (0 : Int32).toInt = 0) c170448
            refine lv_aload_n hx hb dX3_readAll_101 rfl (lv_at hl 0 rfl) ?_
            refine lv_bipush (v := 59) hx hb dX3_readAll_102 (by decide) ?_
            refine t_cVv (n := 1) (C := RX3) (T := TX3) (N := 13) (As := [.int 59]) (rest := []) X hT (kt452_X3_sign l G tag L F hT.2.2.2 p0 59 b170435 b170433 b170434 b170436 x0 x1 m0 g0 mb170435 gb170435 qb170435 mb170433 gb170433 qb170433 mb170434 gb170434 qb170434 mb170436 gb170436 qb170436 mx0 gx0 pf0 mx1 gx1 pf1) m0 g0 rfl rfl qw_340 qw_341 qw_342 qw_28 qw_343 ⟨rfl, by decide +kernel, by decide +kernel, by decide +kernel⟩ ⟨Nat.le_of_ble_eq_true rfl, Nat.le_of_ble_eq_true rfl⟩ hl rfl rfl (Nat.le_of_ble_eq_true rfl) dX3_readAll_104 ⟨Nat.le_of_ble_eq_true rfl, Nat.le_of_ble_eq_true rfl⟩ (fun F H locs hT hz170451 => ?_)
            have yz170451 := hz170451
            have pf0 := (yz170451.1 _ 10 (Or.inr (by decide)) (Or.inr (by decide)) (Or.inr (by decide)) (Or.inr (by decide)) (Or.inr (by decide)) (Or.inr (by decide)) (Or.inr (by decide)) (Or.inr (by decide))).trans pf0
            have pf1 := (yz170451.1 _ 11 (Or.inr (by decide)) (Or.inr (by decide)) (Or.inr (by decide)) (Or.inr (by decide)) (Or.inr (by decide)) (Or.inr (by decide)) (Or.inr (by decide)) (Or.inr (by decide))).trans pf1
            have qb170433 := (yz170451.1 _ 1 (Or.inr (by decide)) (Or.inr (by decide)) (Or.inr (by decide)) (Or.inr (by decide)) (Or.inr (by decide)) (Or.inr (by decide)) (Or.inr (by decide)) (Or.inr (by decide))).trans qb170433
            have qb170434 := (yz170451.1 _ 2 (Or.inl (by rw [g0]; decide)) (Or.inr (by decide)) (Or.inr (by decide)) (Or.inr (by decide)) (Or.inr (by decide)) (Or.inr (by decide)) (Or.inr (by decide)) (Or.inr (by decide))).trans qb170434
            have qb170435 := (yz170451.1 _ 0 (Or.inr (by decide)) (Or.inr (by decide)) (Or.inr (by decide)) (Or.inr (by decide)) (Or.inr (by decide)) (Or.inr (by decide)) (Or.inr (by decide)) (Or.inr (by decide))).trans qb170435
            have qb170436 := (yz170451.1 _ 0 (Or.inr (by decide)) (Or.inr (by decide)) (Or.inr (by decide)) (Or.inr (by decide)) (Or.inr (by decide)) (Or.inr (by decide)) (Or.inr (by decide)) (Or.inr (by decide))).trans qb170436
            have hfr : ∀ b j : Nat, (tag b ≠ 18 ∨ j ≠ 0) → (tag b ≠ 18 ∨ j ≠ 1) → (tag b ≠ 18 ∨ j ≠ 2) → (tag b ≠ 18 ∨ j ≠ 3) → (tag b ≠ 18 ∨ j ≠ 4) → (tag b ≠ 18 ∨ j ≠ 5) → (tag b ≠ 18 ∨ j ≠ 6) → (tag b ≠ 18 ∨ j ≠ 8) → (tag b ≠ 18 ∨ j ≠ 10) → (tag b ≠ 18 ∨ j ≠ 14) → (tag b ≠ 18 ∨ j ≠ 16) → (tag b ≠ 19 ∨ j ≠ 0) → (tag b ≠ 19 ∨ j ≠ 1) → (tag b ≠ 24 ∨ j ≠ 0) → (tag b ≠ 24 ∨ j ≠ 1) → (tag b ≠ 24 ∨ j ≠ 2) → (tag b ≠ 24 ∨ j ≠ 3) → (tag b ≠ 24 ∨ j ≠ 4) → (tag b ≠ 24 ∨ j ≠ 5) → (tag b ≠ 24 ∨ j ≠ 6) → (tag b ≠ 24 ∨ j ≠ 7) → (tag b ≠ 25 ∨ j ≠ 1) → (tag b ≠ 25 ∨ j ≠ 2) → (tag b ≠ 25 ∨ j ≠ 3) → (tag b ≠ 25 ∨ j ≠ 4) → (tag b ≠ 25 ∨ j ≠ 5) → (tag b ≠ 25 ∨ j ≠ 6) → (tag b ≠ 25 ∨ j ≠ 7) → (tag b ≠ 25 ∨ j ≠ 8) → (tag b ≠ 25 ∨ j ≠ 12) → fld F b j = fld Fo b j := fun b j n18_0 n18_1 n18_2 n18_3 n18_4 n18_5 n18_6 n18_8 n18_10 n18_14 n18_16 n19_0 n19_1 n24_0 n24_1 n24_2 n24_3 n24_4 n24_5 n24_6 n24_7 n25_1 n25_2 n25_3 n25_4 n25_5 n25_6 n25_7 n25_8 n25_12 => (yz170451.1 b j n24_2 n24_3 n24_4 n24_5 n24_6 n24_7 n25_3 n25_4).trans (hfr b j n18_0 n18_1 n18_2 n18_3 n18_4 n18_5 n18_6 n18_8 n18_10 n18_14 n18_16 n19_0 n19_1 n24_0 n24_1 n24_2 n24_3 n24_4 n24_5 n24_6 n24_7 n25_1 n25_2 n25_3 n25_4 n25_5 n25_6 n25_7 n25_8 n25_12)
            have hrel := nsr_of (fun j => yz170451.2 _ j (Or.inl gx0)) (fun j => yz170451.2 _ j (Or.inr gx1)) hrel
            refine lv_aload_n hx hb dX3_readAll_107 rfl (lv_at hl 0 rfl) ?_
            refine t_cVv (n := 0) (C := RX3) (T := TX3) (N := 13) (As := []) (rest := []) X hT (kt478_X3_readLine l G tag L F hT.2.2.2 p0 b170435 b170433 b170434 b170436 x0 x1 m0 g0 mb170435 gb170435 qb170435 mb170433 gb170433 qb170433 mb170434 gb170434 qb170434 mb170436 gb170436 qb170436 mx0 gx0 pf0 mx1 gx1 pf1 hrel) m0 g0 rfl rfl qw_223 qw_224 qw_225 qw_28 qw_226 ⟨rfl, by decide +kernel, by decide +kernel, by decide +kernel⟩ ⟨Nat.le_of_ble_eq_true rfl, Nat.le_of_ble_eq_true rfl⟩ hl rfl rfl (Nat.le_of_ble_eq_true rfl) dX3_readAll_108 ⟨Nat.le_of_ble_eq_true rfl, Nat.le_of_ble_eq_true rfl⟩ (fun F H locs hT hz170452 => ?_)
            obtain ⟨yz170452, hrel⟩ := hz170452
            have pf0 := (yz170452 _ 10 (Or.inr (by decide)) (Or.inr (by decide)) (Or.inr (by decide)) (Or.inr (by decide)) (Or.inr (by decide)) (Or.inr (by decide)) (Or.inr (by decide)) (Or.inr (by decide)) (Or.inl (by rw [g0]; decide)) (Or.inr (by decide)) (Or.inr (by decide)) (Or.inr (by decide)) (Or.inr (by decide)) (Or.inr (by decide)) (Or.inr (by decide)) (Or.inr (by decide)) (Or.inr (by decide)) (Or.inr (by decide)) (Or.inr (by decide)) (Or.inr (by decide)) (Or.inr (by decide)) (Or.inr (by decide)) (Or.inr (by decide)) (Or.inr (by decide)) (Or.inr (by decide))).trans pf0
            have pf1 := (yz170452 _ 11 (Or.inr (by decide)) (Or.inr (by decide)) (Or.inr (by decide)) (Or.inr (by decide)) (Or.inr (by decide)) (Or.inr (by decide)) (Or.inr (by decide)) (Or.inr (by decide)) (Or.inr (by decide)) (Or.inr (by decide)) (Or.inr (by decide)) (Or.inr (by decide)) (Or.inr (by decide)) (Or.inr (by decide)) (Or.inr (by decide)) (Or.inr (by decide)) (Or.inr (by decide)) (Or.inr (by decide)) (Or.inr (by decide)) (Or.inr (by decide)) (Or.inr (by decide)) (Or.inr (by decide)) (Or.inr (by decide)) (Or.inr (by decide)) (Or.inr (by decide))).trans pf1
            have qb170433 := (yz170452 _ 1 (Or.inr (by decide)) (Or.inl (by rw [g0]; decide)) (Or.inr (by decide)) (Or.inr (by decide)) (Or.inr (by decide)) (Or.inr (by decide)) (Or.inr (by decide)) (Or.inr (by decide)) (Or.inr (by decide)) (Or.inr (by decide)) (Or.inr (by decide)) (Or.inr (by decide)) (Or.inr (by decide)) (Or.inr (by decide)) (Or.inr (by decide)) (Or.inr (by decide)) (Or.inr (by decide)) (Or.inr (by decide)) (Or.inr (by decide)) (Or.inr (by decide)) (Or.inr (by decide)) (Or.inr (by decide)) (Or.inr (by decide)) (Or.inr (by decide)) (Or.inr (by decide))).trans qb170433
            have qb170434 := (yz170452 _ 2 (Or.inr (by decide)) (Or.inr (by decide)) (Or.inl (by rw [g0]; decide)) (Or.inr (by decide)) (Or.inr (by decide)) (Or.inr (by decide)) (Or.inr (by decide)) (Or.inr (by decide)) (Or.inr (by decide)) (Or.inr (by decide)) (Or.inr (by decide)) (Or.inr (by decide)) (Or.inl (by rw [g0]; decide)) (Or.inr (by decide)) (Or.inr (by decide)) (Or.inr (by decide)) (Or.inr (by decide)) (Or.inr (by decide)) (Or.inr (by decide)) (Or.inr (by decide)) (Or.inr (by decide)) (Or.inr (by decide)) (Or.inr (by decide)) (Or.inr (by decide)) (Or.inr (by decide))).trans qb170434
            have qb170435 := (yz170452 _ 0 (Or.inl (by rw [g0]; decide)) (Or.inr (by decide)) (Or.inr (by decide)) (Or.inr (by decide)) (Or.inr (by decide)) (Or.inr (by decide)) (Or.inr (by decide)) (Or.inr (by decide)) (Or.inr (by decide)) (Or.inr (by decide)) (Or.inr (by decide)) (Or.inl (by rw [g0]; decide)) (Or.inr (by decide)) (Or.inr (by decide)) (Or.inr (by decide)) (Or.inr (by decide)) (Or.inr (by decide)) (Or.inr (by decide)) (Or.inr (by decide)) (Or.inr (by decide)) (Or.inr (by decide)) (Or.inr (by decide)) (Or.inr (by decide)) (Or.inr (by decide)) (Or.inr (by decide))).trans qb170435
            have qb170436 := (yz170452 _ 0 (Or.inl (by rw [gb170435]; decide)) (Or.inr (by decide)) (Or.inr (by decide)) (Or.inr (by decide)) (Or.inr (by decide)) (Or.inr (by decide)) (Or.inr (by decide)) (Or.inr (by decide)) (Or.inr (by decide)) (Or.inr (by decide)) (Or.inr (by decide)) (Or.inl (by rw [gb170435]; decide)) (Or.inr (by decide)) (Or.inr (by decide)) (Or.inr (by decide)) (Or.inr (by decide)) (Or.inr (by decide)) (Or.inr (by decide)) (Or.inr (by decide)) (Or.inr (by decide)) (Or.inr (by decide)) (Or.inr (by decide)) (Or.inr (by decide)) (Or.inr (by decide)) (Or.inr (by decide))).trans qb170436
            have hfr : ∀ b j : Nat, (tag b ≠ 18 ∨ j ≠ 0) → (tag b ≠ 18 ∨ j ≠ 1) → (tag b ≠ 18 ∨ j ≠ 2) → (tag b ≠ 18 ∨ j ≠ 3) → (tag b ≠ 18 ∨ j ≠ 4) → (tag b ≠ 18 ∨ j ≠ 5) → (tag b ≠ 18 ∨ j ≠ 6) → (tag b ≠ 18 ∨ j ≠ 8) → (tag b ≠ 18 ∨ j ≠ 10) → (tag b ≠ 18 ∨ j ≠ 14) → (tag b ≠ 18 ∨ j ≠ 16) → (tag b ≠ 19 ∨ j ≠ 0) → (tag b ≠ 19 ∨ j ≠ 1) → (tag b ≠ 24 ∨ j ≠ 0) → (tag b ≠ 24 ∨ j ≠ 1) → (tag b ≠ 24 ∨ j ≠ 2) → (tag b ≠ 24 ∨ j ≠ 3) → (tag b ≠ 24 ∨ j ≠ 4) → (tag b ≠ 24 ∨ j ≠ 5) → (tag b ≠ 24 ∨ j ≠ 6) → (tag b ≠ 24 ∨ j ≠ 7) → (tag b ≠ 25 ∨ j ≠ 1) → (tag b ≠ 25 ∨ j ≠ 2) → (tag b ≠ 25 ∨ j ≠ 3) → (tag b ≠ 25 ∨ j ≠ 4) → (tag b ≠ 25 ∨ j ≠ 5) → (tag b ≠ 25 ∨ j ≠ 6) → (tag b ≠ 25 ∨ j ≠ 7) → (tag b ≠ 25 ∨ j ≠ 8) → (tag b ≠ 25 ∨ j ≠ 12) → fld F b j = fld Fo b j := fun b j n18_0 n18_1 n18_2 n18_3 n18_4 n18_5 n18_6 n18_8 n18_10 n18_14 n18_16 n19_0 n19_1 n24_0 n24_1 n24_2 n24_3 n24_4 n24_5 n24_6 n24_7 n25_1 n25_2 n25_3 n25_4 n25_5 n25_6 n25_7 n25_8 n25_12 => (yz170452 b j n18_0 n18_1 n18_2 n18_3 n18_4 n18_5 n18_6 n18_8 n18_10 n18_14 n18_16 n19_0 n24_2 n24_3 n24_4 n24_5 n24_6 n24_7 n25_3 n25_4 n25_5 n25_6 n25_7 n25_8 n25_12).trans (hfr b j n18_0 n18_1 n18_2 n18_3 n18_4 n18_5 n18_6 n18_8 n18_10 n18_14 n18_16 n19_0 n19_1 n24_0 n24_1 n24_2 n24_3 n24_4 n24_5 n24_6 n24_7 n25_1 n25_2 n25_3 n25_4 n25_5 n25_6 n25_7 n25_8 n25_12)
            obtain ⟨z170453, ez170453⟩ : ∃ y : Int32, y = z170430 + 1 := ⟨_, rfl⟩
            have hz170453 : z170453.toInt = z170430.toInt + 1 := ar_add ez170453 rfl (by decide : (1 : Int32).toInt = 1) (by omega) (by omega)
            refine lv_iinc (v := z170453) (lv' := [(5, .int z170453), (0, .ref p0), (1, .ref p1), (2, .int p2), (3, .ref p3), (4, .ref p4)]) hx hb dX3_readAll_111 hl (k := 5) rfl (by rw [ez170453]; rfl) (by decide) rfl (fun ls hl => ?_)
            refine lv_goto (tgt := 76) hx hb dX3_readAll_114 (by decide) ?_
            exact ih76 z170453 x0 x1 b170433 b170434 b170435 b170436 _ _ _ _ (by omega) (by omega) mx0 gx0 mx1 gx1 mb170433 gb170433 mb170434 gb170434 mb170435 gb170435 mb170436 gb170436 hT hfr hrel pf0 pf1 pf0 pf1 qb170433 qb170434 qb170435 qb170436 (lv_sub hl [1, 2, 3, 4, 5, 0] rfl)
  refine lv_aload_n hx hb dX3_readAll_0 rfl (lv_at hl 0 rfl) ?_
  refine lv_aload_n hx hb dX3_readAll_1 rfl (lv_at hl 3 rfl) ?_
  refine t_put (C := RX3) (T := TX3) (N := 13) (v := .ref p3) X hT m0 g0 rfl tyX3 tyX3_ok nmX3 rfl 1 (by decide) qw_161 inlX3 rfl (by first | rfl | decide) (by first | rfl | decide) rfl (Or.inr ⟨_, rfl, m3, by rw [g3]; rfl⟩) dX3_readAll_2 (fun F H locs hT v170454 h1v170454 h2v170454 => ?_)
  have pf0 := (h1v170454 _ _ (Or.inr (by decide))).trans pf0
  have pf1 := (h1v170454 _ _ (Or.inr (by decide))).trans pf1
  have hfr : ∀ b j : Nat, (tag b ≠ 18 ∨ j ≠ 0) → (tag b ≠ 18 ∨ j ≠ 1) → (tag b ≠ 18 ∨ j ≠ 2) → (tag b ≠ 18 ∨ j ≠ 3) → (tag b ≠ 18 ∨ j ≠ 4) → (tag b ≠ 18 ∨ j ≠ 5) → (tag b ≠ 18 ∨ j ≠ 6) → (tag b ≠ 18 ∨ j ≠ 8) → (tag b ≠ 18 ∨ j ≠ 10) → (tag b ≠ 18 ∨ j ≠ 14) → (tag b ≠ 18 ∨ j ≠ 16) → (tag b ≠ 19 ∨ j ≠ 0) → (tag b ≠ 19 ∨ j ≠ 1) → (tag b ≠ 24 ∨ j ≠ 0) → (tag b ≠ 24 ∨ j ≠ 1) → (tag b ≠ 24 ∨ j ≠ 2) → (tag b ≠ 24 ∨ j ≠ 3) → (tag b ≠ 24 ∨ j ≠ 4) → (tag b ≠ 24 ∨ j ≠ 5) → (tag b ≠ 24 ∨ j ≠ 6) → (tag b ≠ 24 ∨ j ≠ 7) → (tag b ≠ 25 ∨ j ≠ 1) → (tag b ≠ 25 ∨ j ≠ 2) → (tag b ≠ 25 ∨ j ≠ 3) → (tag b ≠ 25 ∨ j ≠ 4) → (tag b ≠ 25 ∨ j ≠ 5) → (tag b ≠ 25 ∨ j ≠ 6) → (tag b ≠ 25 ∨ j ≠ 7) → (tag b ≠ 25 ∨ j ≠ 8) → (tag b ≠ 25 ∨ j ≠ 12) → fld F b j = fld Fo b j := fun b j n18_0 n18_1 n18_2 n18_3 n18_4 n18_5 n18_6 n18_8 n18_10 n18_14 n18_16 n19_0 n19_1 n24_0 n24_1 n24_2 n24_3 n24_4 n24_5 n24_6 n24_7 n25_1 n25_2 n25_3 n25_4 n25_5 n25_6 n25_7 n25_8 n25_12 => (h1v170454 b j (fr_ne g0 n25_1)).trans (hfr b j n18_0 n18_1 n18_2 n18_3 n18_4 n18_5 n18_6 n18_8 n18_10 n18_14 n18_16 n19_0 n19_1 n24_0 n24_1 n24_2 n24_3 n24_4 n24_5 n24_6 n24_7 n25_1 n25_2 n25_3 n25_4 n25_5 n25_6 n25_7 n25_8 n25_12)
  have hrel := nsr_of (fun j => h2v170454 _ j) (fun j => h2v170454 _ j) hrel
  refine lv_aload_n hx hb dX3_readAll_5 rfl (lv_at hl 0 rfl) ?_
  refine lv_aload hx hb dX3_readAll_6 (lv_at hl 4 rfl) ?_
  refine t_put (C := RX3) (T := TX3) (N := 13) (v := .ref p4) X hT m0 g0 rfl tyX3 tyX3_ok nmX3 rfl 2 (by decide) qw_162 inlX3 rfl (by first | rfl | decide) (by first | rfl | decide) rfl (Or.inr ⟨_, rfl, m4, by rw [g4]; rfl⟩) dX3_readAll_8 (fun F H locs hT v170455 h1v170455 h2v170455 => ?_)
  have pf0 := (h1v170455 _ _ (Or.inr (by decide))).trans pf0
  have pf1 := (h1v170455 _ _ (Or.inr (by decide))).trans pf1
  have v170454 := (h1v170455 _ _ (Or.inr (by decide))).trans v170454
  have hfr : ∀ b j : Nat, (tag b ≠ 18 ∨ j ≠ 0) → (tag b ≠ 18 ∨ j ≠ 1) → (tag b ≠ 18 ∨ j ≠ 2) → (tag b ≠ 18 ∨ j ≠ 3) → (tag b ≠ 18 ∨ j ≠ 4) → (tag b ≠ 18 ∨ j ≠ 5) → (tag b ≠ 18 ∨ j ≠ 6) → (tag b ≠ 18 ∨ j ≠ 8) → (tag b ≠ 18 ∨ j ≠ 10) → (tag b ≠ 18 ∨ j ≠ 14) → (tag b ≠ 18 ∨ j ≠ 16) → (tag b ≠ 19 ∨ j ≠ 0) → (tag b ≠ 19 ∨ j ≠ 1) → (tag b ≠ 24 ∨ j ≠ 0) → (tag b ≠ 24 ∨ j ≠ 1) → (tag b ≠ 24 ∨ j ≠ 2) → (tag b ≠ 24 ∨ j ≠ 3) → (tag b ≠ 24 ∨ j ≠ 4) → (tag b ≠ 24 ∨ j ≠ 5) → (tag b ≠ 24 ∨ j ≠ 6) → (tag b ≠ 24 ∨ j ≠ 7) → (tag b ≠ 25 ∨ j ≠ 1) → (tag b ≠ 25 ∨ j ≠ 2) → (tag b ≠ 25 ∨ j ≠ 3) → (tag b ≠ 25 ∨ j ≠ 4) → (tag b ≠ 25 ∨ j ≠ 5) → (tag b ≠ 25 ∨ j ≠ 6) → (tag b ≠ 25 ∨ j ≠ 7) → (tag b ≠ 25 ∨ j ≠ 8) → (tag b ≠ 25 ∨ j ≠ 12) → fld F b j = fld Fo b j := fun b j n18_0 n18_1 n18_2 n18_3 n18_4 n18_5 n18_6 n18_8 n18_10 n18_14 n18_16 n19_0 n19_1 n24_0 n24_1 n24_2 n24_3 n24_4 n24_5 n24_6 n24_7 n25_1 n25_2 n25_3 n25_4 n25_5 n25_6 n25_7 n25_8 n25_12 => (h1v170455 b j (fr_ne g0 n25_2)).trans (hfr b j n18_0 n18_1 n18_2 n18_3 n18_4 n18_5 n18_6 n18_8 n18_10 n18_14 n18_16 n19_0 n19_1 n24_0 n24_1 n24_2 n24_3 n24_4 n24_5 n24_6 n24_7 n25_1 n25_2 n25_3 n25_4 n25_5 n25_6 n25_7 n25_8 n25_12)
  have hrel := nsr_of (fun j => h2v170455 _ j) (fun j => h2v170455 _ j) hrel
  refine lv_aload_n hx hb dX3_readAll_11 rfl (lv_at hl 0 rfl) ?_
  refine t_get (C := RX3) (T := TX3) (N := 13) X hT m0 g0 rfl rfl 1 (by decide) qw_161 inlX3 rfl dX3_readAll_12 (fun v170456 hv170456 ov170456 => ?_)
  obtain rfl : v170456 = .ref p3 := hv170456.symm.trans v170454
  refine t_cVv (n := 0) (C := RX1) (T := TX1) (N := 20) (As := []) (rest := []) X hT (kt305_X1_clear l G tag L F hT.2.2.2 p3 m3 g3) m3 g3 rfl rfl qw_173 qw_174 qw_175 qw_17 qw_176 ⟨rfl, by decide +kernel, by decide +kernel, by decide +kernel⟩ ⟨Nat.le_of_ble_eq_true rfl, Nat.le_of_ble_eq_true rfl⟩ hl rfl rfl (Nat.le_of_ble_eq_true rfl) dX3_readAll_15 ⟨Nat.le_of_ble_eq_true rfl, Nat.le_of_ble_eq_true rfl⟩ (fun F H locs hT hz170457 => ?_)
  have yz170457 := hz170457
  have pf0 := (yz170457.1 _ 10 (Or.inr (by decide)) (Or.inr (by decide)) (Or.inr (by decide)) (Or.inl (by rw [g0]; decide)) (Or.inr (by decide)) (Or.inr (by decide))).trans pf0
  have pf1 := (yz170457.1 _ 11 (Or.inr (by decide)) (Or.inr (by decide)) (Or.inr (by decide)) (Or.inr (by decide)) (Or.inr (by decide)) (Or.inr (by decide))).trans pf1
  have v170454 := (yz170457.1 _ 1 (Or.inr (by decide)) (Or.inl (by rw [g0]; decide)) (Or.inr (by decide)) (Or.inr (by decide)) (Or.inr (by decide)) (Or.inr (by decide))).trans v170454
  have v170455 := (yz170457.1 _ 2 (Or.inr (by decide)) (Or.inr (by decide)) (Or.inr (by decide)) (Or.inr (by decide)) (Or.inr (by decide)) (Or.inr (by decide))).trans v170455
  have hfr : ∀ b j : Nat, (tag b ≠ 18 ∨ j ≠ 0) → (tag b ≠ 18 ∨ j ≠ 1) → (tag b ≠ 18 ∨ j ≠ 2) → (tag b ≠ 18 ∨ j ≠ 3) → (tag b ≠ 18 ∨ j ≠ 4) → (tag b ≠ 18 ∨ j ≠ 5) → (tag b ≠ 18 ∨ j ≠ 6) → (tag b ≠ 18 ∨ j ≠ 8) → (tag b ≠ 18 ∨ j ≠ 10) → (tag b ≠ 18 ∨ j ≠ 14) → (tag b ≠ 18 ∨ j ≠ 16) → (tag b ≠ 19 ∨ j ≠ 0) → (tag b ≠ 19 ∨ j ≠ 1) → (tag b ≠ 24 ∨ j ≠ 0) → (tag b ≠ 24 ∨ j ≠ 1) → (tag b ≠ 24 ∨ j ≠ 2) → (tag b ≠ 24 ∨ j ≠ 3) → (tag b ≠ 24 ∨ j ≠ 4) → (tag b ≠ 24 ∨ j ≠ 5) → (tag b ≠ 24 ∨ j ≠ 6) → (tag b ≠ 24 ∨ j ≠ 7) → (tag b ≠ 25 ∨ j ≠ 1) → (tag b ≠ 25 ∨ j ≠ 2) → (tag b ≠ 25 ∨ j ≠ 3) → (tag b ≠ 25 ∨ j ≠ 4) → (tag b ≠ 25 ∨ j ≠ 5) → (tag b ≠ 25 ∨ j ≠ 6) → (tag b ≠ 25 ∨ j ≠ 7) → (tag b ≠ 25 ∨ j ≠ 8) → (tag b ≠ 25 ∨ j ≠ 12) → fld F b j = fld Fo b j := fun b j n18_0 n18_1 n18_2 n18_3 n18_4 n18_5 n18_6 n18_8 n18_10 n18_14 n18_16 n19_0 n19_1 n24_0 n24_1 n24_2 n24_3 n24_4 n24_5 n24_6 n24_7 n25_1 n25_2 n25_3 n25_4 n25_5 n25_6 n25_7 n25_8 n25_12 => (yz170457.1 b j n18_0 n18_1 n18_8 n18_10 n18_14 n18_16).trans (hfr b j n18_0 n18_1 n18_2 n18_3 n18_4 n18_5 n18_6 n18_8 n18_10 n18_14 n18_16 n19_0 n19_1 n24_0 n24_1 n24_2 n24_3 n24_4 n24_5 n24_6 n24_7 n25_1 n25_2 n25_3 n25_4 n25_5 n25_6 n25_7 n25_8 n25_12)
  have hrel := nsr_of (fun j => yz170457.2 _ j (Or.inl gx0)) (fun j => yz170457.2 _ j (Or.inr gx1)) hrel
  refine lv_aload_n hx hb dX3_readAll_18 rfl (lv_at hl 0 rfl) ?_
  refine t_get (C := RX3) (T := TX3) (N := 13) X hT m0 g0 rfl rfl 2 (by decide) qw_162 inlX3 rfl dX3_readAll_19 (fun v170458 hv170458 ov170458 => ?_)
  obtain rfl : v170458 = .ref p4 := hv170458.symm.trans v170455
  refine t_cVv (n := 0) (C := RX7) (T := TX7) (N := 7) (As := []) (rest := []) X hT (kt308_X7_clear l G tag L F hT.2.2.2 p4 m4 g4) m4 g4 rfl rfl qw_183 qw_184 qw_185 qw_22 qw_186 ⟨rfl, by decide +kernel, by decide +kernel, by decide +kernel⟩ ⟨Nat.le_of_ble_eq_true rfl, Nat.le_of_ble_eq_true rfl⟩ hl rfl rfl (Nat.le_of_ble_eq_true rfl) dX3_readAll_22 ⟨Nat.le_of_ble_eq_true rfl, Nat.le_of_ble_eq_true rfl⟩ (fun F H locs hT hz170459 => ?_)
  have yz170459 := hz170459
  have pf0 := (yz170459.1 _ 10 (Or.inr (by decide)) (Or.inr (by decide))).trans pf0
  have pf1 := (yz170459.1 _ 11 (Or.inr (by decide)) (Or.inr (by decide))).trans pf1
  have v170454 := (yz170459.1 _ 1 (Or.inr (by decide)) (Or.inl (by rw [g0]; decide))).trans v170454
  have v170455 := (yz170459.1 _ 2 (Or.inr (by decide)) (Or.inr (by decide))).trans v170455
  have hfr : ∀ b j : Nat, (tag b ≠ 18 ∨ j ≠ 0) → (tag b ≠ 18 ∨ j ≠ 1) → (tag b ≠ 18 ∨ j ≠ 2) → (tag b ≠ 18 ∨ j ≠ 3) → (tag b ≠ 18 ∨ j ≠ 4) → (tag b ≠ 18 ∨ j ≠ 5) → (tag b ≠ 18 ∨ j ≠ 6) → (tag b ≠ 18 ∨ j ≠ 8) → (tag b ≠ 18 ∨ j ≠ 10) → (tag b ≠ 18 ∨ j ≠ 14) → (tag b ≠ 18 ∨ j ≠ 16) → (tag b ≠ 19 ∨ j ≠ 0) → (tag b ≠ 19 ∨ j ≠ 1) → (tag b ≠ 24 ∨ j ≠ 0) → (tag b ≠ 24 ∨ j ≠ 1) → (tag b ≠ 24 ∨ j ≠ 2) → (tag b ≠ 24 ∨ j ≠ 3) → (tag b ≠ 24 ∨ j ≠ 4) → (tag b ≠ 24 ∨ j ≠ 5) → (tag b ≠ 24 ∨ j ≠ 6) → (tag b ≠ 24 ∨ j ≠ 7) → (tag b ≠ 25 ∨ j ≠ 1) → (tag b ≠ 25 ∨ j ≠ 2) → (tag b ≠ 25 ∨ j ≠ 3) → (tag b ≠ 25 ∨ j ≠ 4) → (tag b ≠ 25 ∨ j ≠ 5) → (tag b ≠ 25 ∨ j ≠ 6) → (tag b ≠ 25 ∨ j ≠ 7) → (tag b ≠ 25 ∨ j ≠ 8) → (tag b ≠ 25 ∨ j ≠ 12) → fld F b j = fld Fo b j := fun b j n18_0 n18_1 n18_2 n18_3 n18_4 n18_5 n18_6 n18_8 n18_10 n18_14 n18_16 n19_0 n19_1 n24_0 n24_1 n24_2 n24_3 n24_4 n24_5 n24_6 n24_7 n25_1 n25_2 n25_3 n25_4 n25_5 n25_6 n25_7 n25_8 n25_12 => (yz170459.1 b j n19_0 n19_1).trans (hfr b j n18_0 n18_1 n18_2 n18_3 n18_4 n18_5 n18_6 n18_8 n18_10 n18_14 n18_16 n19_0 n19_1 n24_0 n24_1 n24_2 n24_3 n24_4 n24_5 n24_6 n24_7 n25_1 n25_2 n25_3 n25_4 n25_5 n25_6 n25_7 n25_8 n25_12)
  have hrel := nsr_of (fun j => yz170459.2 _ j (Or.inl gx0)) (fun j => yz170459.2 _ j (Or.inr gx1)) hrel
  refine lv_aload_n hx hb dX3_readAll_25 rfl (lv_at hl 0 rfl) ?_
  refine lv_iconst (v := 0) hx hb dX3_readAll_26 (by decide) ?_
  refine t_put (C := RX3) (T := TX3) (N := 13) (v := .int 0) X hT m0 g0 rfl tyX3 tyX3_ok nmX3 rfl 3 (by decide) qw_163 inlX3 rfl (by first | rfl | decide) (by first | rfl | decide) rfl (⟨_, rfl, (show 0 ≤ (0 : Int32).toInt from (by decide)), (show (0 : Int32).toInt ≤ 7 from (by decide))⟩) dX3_readAll_27 (fun F H locs hT v170460 h1v170460 h2v170460 => ?_)
  have pf0 := (h1v170460 _ _ (Or.inr (by decide))).trans pf0
  have pf1 := (h1v170460 _ _ (Or.inr (by decide))).trans pf1
  have v170454 := (h1v170460 _ _ (Or.inr (by decide))).trans v170454
  have v170455 := (h1v170460 _ _ (Or.inr (by decide))).trans v170455
  have hfr : ∀ b j : Nat, (tag b ≠ 18 ∨ j ≠ 0) → (tag b ≠ 18 ∨ j ≠ 1) → (tag b ≠ 18 ∨ j ≠ 2) → (tag b ≠ 18 ∨ j ≠ 3) → (tag b ≠ 18 ∨ j ≠ 4) → (tag b ≠ 18 ∨ j ≠ 5) → (tag b ≠ 18 ∨ j ≠ 6) → (tag b ≠ 18 ∨ j ≠ 8) → (tag b ≠ 18 ∨ j ≠ 10) → (tag b ≠ 18 ∨ j ≠ 14) → (tag b ≠ 18 ∨ j ≠ 16) → (tag b ≠ 19 ∨ j ≠ 0) → (tag b ≠ 19 ∨ j ≠ 1) → (tag b ≠ 24 ∨ j ≠ 0) → (tag b ≠ 24 ∨ j ≠ 1) → (tag b ≠ 24 ∨ j ≠ 2) → (tag b ≠ 24 ∨ j ≠ 3) → (tag b ≠ 24 ∨ j ≠ 4) → (tag b ≠ 24 ∨ j ≠ 5) → (tag b ≠ 24 ∨ j ≠ 6) → (tag b ≠ 24 ∨ j ≠ 7) → (tag b ≠ 25 ∨ j ≠ 1) → (tag b ≠ 25 ∨ j ≠ 2) → (tag b ≠ 25 ∨ j ≠ 3) → (tag b ≠ 25 ∨ j ≠ 4) → (tag b ≠ 25 ∨ j ≠ 5) → (tag b ≠ 25 ∨ j ≠ 6) → (tag b ≠ 25 ∨ j ≠ 7) → (tag b ≠ 25 ∨ j ≠ 8) → (tag b ≠ 25 ∨ j ≠ 12) → fld F b j = fld Fo b j := fun b j n18_0 n18_1 n18_2 n18_3 n18_4 n18_5 n18_6 n18_8 n18_10 n18_14 n18_16 n19_0 n19_1 n24_0 n24_1 n24_2 n24_3 n24_4 n24_5 n24_6 n24_7 n25_1 n25_2 n25_3 n25_4 n25_5 n25_6 n25_7 n25_8 n25_12 => (h1v170460 b j (fr_ne g0 n25_3)).trans (hfr b j n18_0 n18_1 n18_2 n18_3 n18_4 n18_5 n18_6 n18_8 n18_10 n18_14 n18_16 n19_0 n19_1 n24_0 n24_1 n24_2 n24_3 n24_4 n24_5 n24_6 n24_7 n25_1 n25_2 n25_3 n25_4 n25_5 n25_6 n25_7 n25_8 n25_12)
  have hrel := nsr_of (fun j => h2v170460 _ j) (fun j => h2v170460 _ j) hrel
  refine lv_aload_n hx hb dX3_readAll_30 rfl (lv_at hl 0 rfl) ?_
  refine lv_iconst (v := 0) hx hb dX3_readAll_31 (by decide) ?_
  refine t_put (C := RX3) (T := TX3) (N := 13) (v := .int 0) X hT m0 g0 rfl tyX3 tyX3_ok nmX3 rfl 4 (by decide) qw_164 inlX3 rfl (by first | rfl | decide) (by first | rfl | decide) rfl (⟨_, rfl, (show (-2147483648) ≤ (0 : Int32).toInt from (by decide)), (show (0 : Int32).toInt ≤ 2147483647 from (by decide))⟩) dX3_readAll_32 (fun F H locs hT v170461 h1v170461 h2v170461 => ?_)
  have pf0 := (h1v170461 _ _ (Or.inr (by decide))).trans pf0
  have pf1 := (h1v170461 _ _ (Or.inr (by decide))).trans pf1
  have v170454 := (h1v170461 _ _ (Or.inr (by decide))).trans v170454
  have v170455 := (h1v170461 _ _ (Or.inr (by decide))).trans v170455
  have v170460 := (h1v170461 _ _ (Or.inr (by decide))).trans v170460
  have hfr : ∀ b j : Nat, (tag b ≠ 18 ∨ j ≠ 0) → (tag b ≠ 18 ∨ j ≠ 1) → (tag b ≠ 18 ∨ j ≠ 2) → (tag b ≠ 18 ∨ j ≠ 3) → (tag b ≠ 18 ∨ j ≠ 4) → (tag b ≠ 18 ∨ j ≠ 5) → (tag b ≠ 18 ∨ j ≠ 6) → (tag b ≠ 18 ∨ j ≠ 8) → (tag b ≠ 18 ∨ j ≠ 10) → (tag b ≠ 18 ∨ j ≠ 14) → (tag b ≠ 18 ∨ j ≠ 16) → (tag b ≠ 19 ∨ j ≠ 0) → (tag b ≠ 19 ∨ j ≠ 1) → (tag b ≠ 24 ∨ j ≠ 0) → (tag b ≠ 24 ∨ j ≠ 1) → (tag b ≠ 24 ∨ j ≠ 2) → (tag b ≠ 24 ∨ j ≠ 3) → (tag b ≠ 24 ∨ j ≠ 4) → (tag b ≠ 24 ∨ j ≠ 5) → (tag b ≠ 24 ∨ j ≠ 6) → (tag b ≠ 24 ∨ j ≠ 7) → (tag b ≠ 25 ∨ j ≠ 1) → (tag b ≠ 25 ∨ j ≠ 2) → (tag b ≠ 25 ∨ j ≠ 3) → (tag b ≠ 25 ∨ j ≠ 4) → (tag b ≠ 25 ∨ j ≠ 5) → (tag b ≠ 25 ∨ j ≠ 6) → (tag b ≠ 25 ∨ j ≠ 7) → (tag b ≠ 25 ∨ j ≠ 8) → (tag b ≠ 25 ∨ j ≠ 12) → fld F b j = fld Fo b j := fun b j n18_0 n18_1 n18_2 n18_3 n18_4 n18_5 n18_6 n18_8 n18_10 n18_14 n18_16 n19_0 n19_1 n24_0 n24_1 n24_2 n24_3 n24_4 n24_5 n24_6 n24_7 n25_1 n25_2 n25_3 n25_4 n25_5 n25_6 n25_7 n25_8 n25_12 => (h1v170461 b j (fr_ne g0 n25_4)).trans (hfr b j n18_0 n18_1 n18_2 n18_3 n18_4 n18_5 n18_6 n18_8 n18_10 n18_14 n18_16 n19_0 n19_1 n24_0 n24_1 n24_2 n24_3 n24_4 n24_5 n24_6 n24_7 n25_1 n25_2 n25_3 n25_4 n25_5 n25_6 n25_7 n25_8 n25_12)
  have hrel := nsr_of (fun j => h2v170461 _ j) (fun j => h2v170461 _ j) hrel
  refine lv_aload_n hx hb dX3_readAll_35 rfl (lv_at hl 0 rfl) ?_
  refine lv_iconst (v := 0) hx hb dX3_readAll_36 (by decide) ?_
  refine t_put (C := RX3) (T := TX3) (N := 13) (v := .int 0) X hT m0 g0 rfl tyX3 tyX3_ok nmX3 rfl 5 (by decide) qw_165 inlX3 rfl (by first | rfl | decide) (by first | rfl | decide) rfl (⟨_, rfl, (show 0 ≤ (0 : Int32).toInt from (by decide)), (show (0 : Int32).toInt ≤ 1 from (by decide))⟩) dX3_readAll_37 (fun F H locs hT v170462 h1v170462 h2v170462 => ?_)
  have pf0 := (h1v170462 _ _ (Or.inr (by decide))).trans pf0
  have pf1 := (h1v170462 _ _ (Or.inr (by decide))).trans pf1
  have v170454 := (h1v170462 _ _ (Or.inr (by decide))).trans v170454
  have v170455 := (h1v170462 _ _ (Or.inr (by decide))).trans v170455
  have v170460 := (h1v170462 _ _ (Or.inr (by decide))).trans v170460
  have v170461 := (h1v170462 _ _ (Or.inr (by decide))).trans v170461
  have hfr : ∀ b j : Nat, (tag b ≠ 18 ∨ j ≠ 0) → (tag b ≠ 18 ∨ j ≠ 1) → (tag b ≠ 18 ∨ j ≠ 2) → (tag b ≠ 18 ∨ j ≠ 3) → (tag b ≠ 18 ∨ j ≠ 4) → (tag b ≠ 18 ∨ j ≠ 5) → (tag b ≠ 18 ∨ j ≠ 6) → (tag b ≠ 18 ∨ j ≠ 8) → (tag b ≠ 18 ∨ j ≠ 10) → (tag b ≠ 18 ∨ j ≠ 14) → (tag b ≠ 18 ∨ j ≠ 16) → (tag b ≠ 19 ∨ j ≠ 0) → (tag b ≠ 19 ∨ j ≠ 1) → (tag b ≠ 24 ∨ j ≠ 0) → (tag b ≠ 24 ∨ j ≠ 1) → (tag b ≠ 24 ∨ j ≠ 2) → (tag b ≠ 24 ∨ j ≠ 3) → (tag b ≠ 24 ∨ j ≠ 4) → (tag b ≠ 24 ∨ j ≠ 5) → (tag b ≠ 24 ∨ j ≠ 6) → (tag b ≠ 24 ∨ j ≠ 7) → (tag b ≠ 25 ∨ j ≠ 1) → (tag b ≠ 25 ∨ j ≠ 2) → (tag b ≠ 25 ∨ j ≠ 3) → (tag b ≠ 25 ∨ j ≠ 4) → (tag b ≠ 25 ∨ j ≠ 5) → (tag b ≠ 25 ∨ j ≠ 6) → (tag b ≠ 25 ∨ j ≠ 7) → (tag b ≠ 25 ∨ j ≠ 8) → (tag b ≠ 25 ∨ j ≠ 12) → fld F b j = fld Fo b j := fun b j n18_0 n18_1 n18_2 n18_3 n18_4 n18_5 n18_6 n18_8 n18_10 n18_14 n18_16 n19_0 n19_1 n24_0 n24_1 n24_2 n24_3 n24_4 n24_5 n24_6 n24_7 n25_1 n25_2 n25_3 n25_4 n25_5 n25_6 n25_7 n25_8 n25_12 => (h1v170462 b j (fr_ne g0 n25_5)).trans (hfr b j n18_0 n18_1 n18_2 n18_3 n18_4 n18_5 n18_6 n18_8 n18_10 n18_14 n18_16 n19_0 n19_1 n24_0 n24_1 n24_2 n24_3 n24_4 n24_5 n24_6 n24_7 n25_1 n25_2 n25_3 n25_4 n25_5 n25_6 n25_7 n25_8 n25_12)
  have hrel := nsr_of (fun j => h2v170462 _ j) (fun j => h2v170462 _ j) hrel
  refine lv_aload_n hx hb dX3_readAll_40 rfl (lv_at hl 0 rfl) ?_
  refine lv_iconst (v := 0) hx hb dX3_readAll_41 (by decide) ?_
  refine t_put (C := RX3) (T := TX3) (N := 13) (v := .int 0) X hT m0 g0 rfl tyX3 tyX3_ok nmX3 rfl 6 (by decide) qw_166 inlX3 rfl (by first | rfl | decide) (by first | rfl | decide) rfl (⟨_, rfl, (show 0 ≤ (0 : Int32).toInt from (by decide)), (show (0 : Int32).toInt ≤ 1 from (by decide))⟩) dX3_readAll_42 (fun F H locs hT v170463 h1v170463 h2v170463 => ?_)
  have pf0 := (h1v170463 _ _ (Or.inr (by decide))).trans pf0
  have pf1 := (h1v170463 _ _ (Or.inr (by decide))).trans pf1
  have v170454 := (h1v170463 _ _ (Or.inr (by decide))).trans v170454
  have v170455 := (h1v170463 _ _ (Or.inr (by decide))).trans v170455
  have v170460 := (h1v170463 _ _ (Or.inr (by decide))).trans v170460
  have v170461 := (h1v170463 _ _ (Or.inr (by decide))).trans v170461
  have v170462 := (h1v170463 _ _ (Or.inr (by decide))).trans v170462
  have hfr : ∀ b j : Nat, (tag b ≠ 18 ∨ j ≠ 0) → (tag b ≠ 18 ∨ j ≠ 1) → (tag b ≠ 18 ∨ j ≠ 2) → (tag b ≠ 18 ∨ j ≠ 3) → (tag b ≠ 18 ∨ j ≠ 4) → (tag b ≠ 18 ∨ j ≠ 5) → (tag b ≠ 18 ∨ j ≠ 6) → (tag b ≠ 18 ∨ j ≠ 8) → (tag b ≠ 18 ∨ j ≠ 10) → (tag b ≠ 18 ∨ j ≠ 14) → (tag b ≠ 18 ∨ j ≠ 16) → (tag b ≠ 19 ∨ j ≠ 0) → (tag b ≠ 19 ∨ j ≠ 1) → (tag b ≠ 24 ∨ j ≠ 0) → (tag b ≠ 24 ∨ j ≠ 1) → (tag b ≠ 24 ∨ j ≠ 2) → (tag b ≠ 24 ∨ j ≠ 3) → (tag b ≠ 24 ∨ j ≠ 4) → (tag b ≠ 24 ∨ j ≠ 5) → (tag b ≠ 24 ∨ j ≠ 6) → (tag b ≠ 24 ∨ j ≠ 7) → (tag b ≠ 25 ∨ j ≠ 1) → (tag b ≠ 25 ∨ j ≠ 2) → (tag b ≠ 25 ∨ j ≠ 3) → (tag b ≠ 25 ∨ j ≠ 4) → (tag b ≠ 25 ∨ j ≠ 5) → (tag b ≠ 25 ∨ j ≠ 6) → (tag b ≠ 25 ∨ j ≠ 7) → (tag b ≠ 25 ∨ j ≠ 8) → (tag b ≠ 25 ∨ j ≠ 12) → fld F b j = fld Fo b j := fun b j n18_0 n18_1 n18_2 n18_3 n18_4 n18_5 n18_6 n18_8 n18_10 n18_14 n18_16 n19_0 n19_1 n24_0 n24_1 n24_2 n24_3 n24_4 n24_5 n24_6 n24_7 n25_1 n25_2 n25_3 n25_4 n25_5 n25_6 n25_7 n25_8 n25_12 => (h1v170463 b j (fr_ne g0 n25_6)).trans (hfr b j n18_0 n18_1 n18_2 n18_3 n18_4 n18_5 n18_6 n18_8 n18_10 n18_14 n18_16 n19_0 n19_1 n24_0 n24_1 n24_2 n24_3 n24_4 n24_5 n24_6 n24_7 n25_1 n25_2 n25_3 n25_4 n25_5 n25_6 n25_7 n25_8 n25_12)
  have hrel := nsr_of (fun j => h2v170463 _ j) (fun j => h2v170463 _ j) hrel
  refine lv_aload_n hx hb dX3_readAll_45 rfl (lv_at hl 0 rfl) ?_
  refine lv_iconst (v := 0) hx hb dX3_readAll_46 (by decide) ?_
  refine t_put (C := RX3) (T := TX3) (N := 13) (v := .int 0) X hT m0 g0 rfl tyX3 tyX3_ok nmX3 rfl 7 (by decide) qw_167 inlX3 rfl (by first | rfl | decide) (by first | rfl | decide) rfl (⟨_, rfl, (show (-2147483648) ≤ (0 : Int32).toInt from (by decide)), (show (0 : Int32).toInt ≤ 2147483647 from (by decide))⟩) dX3_readAll_47 (fun F H locs hT v170464 h1v170464 h2v170464 => ?_)
  have pf0 := (h1v170464 _ _ (Or.inr (by decide))).trans pf0
  have pf1 := (h1v170464 _ _ (Or.inr (by decide))).trans pf1
  have v170454 := (h1v170464 _ _ (Or.inr (by decide))).trans v170454
  have v170455 := (h1v170464 _ _ (Or.inr (by decide))).trans v170455
  have v170460 := (h1v170464 _ _ (Or.inr (by decide))).trans v170460
  have v170461 := (h1v170464 _ _ (Or.inr (by decide))).trans v170461
  have v170462 := (h1v170464 _ _ (Or.inr (by decide))).trans v170462
  have v170463 := (h1v170464 _ _ (Or.inr (by decide))).trans v170463
  have hfr : ∀ b j : Nat, (tag b ≠ 18 ∨ j ≠ 0) → (tag b ≠ 18 ∨ j ≠ 1) → (tag b ≠ 18 ∨ j ≠ 2) → (tag b ≠ 18 ∨ j ≠ 3) → (tag b ≠ 18 ∨ j ≠ 4) → (tag b ≠ 18 ∨ j ≠ 5) → (tag b ≠ 18 ∨ j ≠ 6) → (tag b ≠ 18 ∨ j ≠ 8) → (tag b ≠ 18 ∨ j ≠ 10) → (tag b ≠ 18 ∨ j ≠ 14) → (tag b ≠ 18 ∨ j ≠ 16) → (tag b ≠ 19 ∨ j ≠ 0) → (tag b ≠ 19 ∨ j ≠ 1) → (tag b ≠ 24 ∨ j ≠ 0) → (tag b ≠ 24 ∨ j ≠ 1) → (tag b ≠ 24 ∨ j ≠ 2) → (tag b ≠ 24 ∨ j ≠ 3) → (tag b ≠ 24 ∨ j ≠ 4) → (tag b ≠ 24 ∨ j ≠ 5) → (tag b ≠ 24 ∨ j ≠ 6) → (tag b ≠ 24 ∨ j ≠ 7) → (tag b ≠ 25 ∨ j ≠ 1) → (tag b ≠ 25 ∨ j ≠ 2) → (tag b ≠ 25 ∨ j ≠ 3) → (tag b ≠ 25 ∨ j ≠ 4) → (tag b ≠ 25 ∨ j ≠ 5) → (tag b ≠ 25 ∨ j ≠ 6) → (tag b ≠ 25 ∨ j ≠ 7) → (tag b ≠ 25 ∨ j ≠ 8) → (tag b ≠ 25 ∨ j ≠ 12) → fld F b j = fld Fo b j := fun b j n18_0 n18_1 n18_2 n18_3 n18_4 n18_5 n18_6 n18_8 n18_10 n18_14 n18_16 n19_0 n19_1 n24_0 n24_1 n24_2 n24_3 n24_4 n24_5 n24_6 n24_7 n25_1 n25_2 n25_3 n25_4 n25_5 n25_6 n25_7 n25_8 n25_12 => (h1v170464 b j (fr_ne g0 n25_7)).trans (hfr b j n18_0 n18_1 n18_2 n18_3 n18_4 n18_5 n18_6 n18_8 n18_10 n18_14 n18_16 n19_0 n19_1 n24_0 n24_1 n24_2 n24_3 n24_4 n24_5 n24_6 n24_7 n25_1 n25_2 n25_3 n25_4 n25_5 n25_6 n25_7 n25_8 n25_12)
  have hrel := nsr_of (fun j => h2v170464 _ j) (fun j => h2v170464 _ j) hrel
  refine lv_aload_n hx hb dX3_readAll_50 rfl (lv_at hl 0 rfl) ?_
  refine lv_iconst (v := 0) hx hb dX3_readAll_51 (by decide) ?_
  refine t_put (C := RX3) (T := TX3) (N := 13) (v := .int 0) X hT m0 g0 rfl tyX3 tyX3_ok nmX3 rfl 8 (by decide) qw_168 inlX3 rfl (by first | rfl | decide) (by first | rfl | decide) rfl (⟨_, rfl, (show (-2147483648) ≤ (0 : Int32).toInt from (by decide)), (show (0 : Int32).toInt ≤ 2147483647 from (by decide))⟩) dX3_readAll_52 (fun F H locs hT v170465 h1v170465 h2v170465 => ?_)
  have pf0 := (h1v170465 _ _ (Or.inr (by decide))).trans pf0
  have pf1 := (h1v170465 _ _ (Or.inr (by decide))).trans pf1
  have v170454 := (h1v170465 _ _ (Or.inr (by decide))).trans v170454
  have v170455 := (h1v170465 _ _ (Or.inr (by decide))).trans v170455
  have v170460 := (h1v170465 _ _ (Or.inr (by decide))).trans v170460
  have v170461 := (h1v170465 _ _ (Or.inr (by decide))).trans v170461
  have v170462 := (h1v170465 _ _ (Or.inr (by decide))).trans v170462
  have v170463 := (h1v170465 _ _ (Or.inr (by decide))).trans v170463
  have v170464 := (h1v170465 _ _ (Or.inr (by decide))).trans v170464
  have hfr : ∀ b j : Nat, (tag b ≠ 18 ∨ j ≠ 0) → (tag b ≠ 18 ∨ j ≠ 1) → (tag b ≠ 18 ∨ j ≠ 2) → (tag b ≠ 18 ∨ j ≠ 3) → (tag b ≠ 18 ∨ j ≠ 4) → (tag b ≠ 18 ∨ j ≠ 5) → (tag b ≠ 18 ∨ j ≠ 6) → (tag b ≠ 18 ∨ j ≠ 8) → (tag b ≠ 18 ∨ j ≠ 10) → (tag b ≠ 18 ∨ j ≠ 14) → (tag b ≠ 18 ∨ j ≠ 16) → (tag b ≠ 19 ∨ j ≠ 0) → (tag b ≠ 19 ∨ j ≠ 1) → (tag b ≠ 24 ∨ j ≠ 0) → (tag b ≠ 24 ∨ j ≠ 1) → (tag b ≠ 24 ∨ j ≠ 2) → (tag b ≠ 24 ∨ j ≠ 3) → (tag b ≠ 24 ∨ j ≠ 4) → (tag b ≠ 24 ∨ j ≠ 5) → (tag b ≠ 24 ∨ j ≠ 6) → (tag b ≠ 24 ∨ j ≠ 7) → (tag b ≠ 25 ∨ j ≠ 1) → (tag b ≠ 25 ∨ j ≠ 2) → (tag b ≠ 25 ∨ j ≠ 3) → (tag b ≠ 25 ∨ j ≠ 4) → (tag b ≠ 25 ∨ j ≠ 5) → (tag b ≠ 25 ∨ j ≠ 6) → (tag b ≠ 25 ∨ j ≠ 7) → (tag b ≠ 25 ∨ j ≠ 8) → (tag b ≠ 25 ∨ j ≠ 12) → fld F b j = fld Fo b j := fun b j n18_0 n18_1 n18_2 n18_3 n18_4 n18_5 n18_6 n18_8 n18_10 n18_14 n18_16 n19_0 n19_1 n24_0 n24_1 n24_2 n24_3 n24_4 n24_5 n24_6 n24_7 n25_1 n25_2 n25_3 n25_4 n25_5 n25_6 n25_7 n25_8 n25_12 => (h1v170465 b j (fr_ne g0 n25_8)).trans (hfr b j n18_0 n18_1 n18_2 n18_3 n18_4 n18_5 n18_6 n18_8 n18_10 n18_14 n18_16 n19_0 n19_1 n24_0 n24_1 n24_2 n24_3 n24_4 n24_5 n24_6 n24_7 n25_1 n25_2 n25_3 n25_4 n25_5 n25_6 n25_7 n25_8 n25_12)
  have hrel := nsr_of (fun j => h2v170465 _ j) (fun j => h2v170465 _ j) hrel
  refine lv_aload_n hx hb dX3_readAll_55 rfl (lv_at hl 0 rfl) ?_
  refine lv_iconst (v := 0) hx hb dX3_readAll_56 (by decide) ?_
  refine t_put (C := RX3) (T := TX3) (N := 13) (v := .int 0) X hT m0 g0 rfl tyX3 tyX3_ok nmX3 rfl 12 (by decide) qw_169 inlX3 rfl (by first | rfl | decide) (by first | rfl | decide) rfl (⟨_, rfl, (show 0 ≤ (0 : Int32).toInt from (by decide)), (show (0 : Int32).toInt ≤ 20 from (by decide))⟩) dX3_readAll_57 (fun F H locs hT v170466 h1v170466 h2v170466 => ?_)
  have pf0 := (h1v170466 _ _ (Or.inr (by decide))).trans pf0
  have pf1 := (h1v170466 _ _ (Or.inr (by decide))).trans pf1
  have v170454 := (h1v170466 _ _ (Or.inr (by decide))).trans v170454
  have v170455 := (h1v170466 _ _ (Or.inr (by decide))).trans v170455
  have v170460 := (h1v170466 _ _ (Or.inr (by decide))).trans v170460
  have v170461 := (h1v170466 _ _ (Or.inr (by decide))).trans v170461
  have v170462 := (h1v170466 _ _ (Or.inr (by decide))).trans v170462
  have v170463 := (h1v170466 _ _ (Or.inr (by decide))).trans v170463
  have v170464 := (h1v170466 _ _ (Or.inr (by decide))).trans v170464
  have v170465 := (h1v170466 _ _ (Or.inr (by decide))).trans v170465
  have hfr : ∀ b j : Nat, (tag b ≠ 18 ∨ j ≠ 0) → (tag b ≠ 18 ∨ j ≠ 1) → (tag b ≠ 18 ∨ j ≠ 2) → (tag b ≠ 18 ∨ j ≠ 3) → (tag b ≠ 18 ∨ j ≠ 4) → (tag b ≠ 18 ∨ j ≠ 5) → (tag b ≠ 18 ∨ j ≠ 6) → (tag b ≠ 18 ∨ j ≠ 8) → (tag b ≠ 18 ∨ j ≠ 10) → (tag b ≠ 18 ∨ j ≠ 14) → (tag b ≠ 18 ∨ j ≠ 16) → (tag b ≠ 19 ∨ j ≠ 0) → (tag b ≠ 19 ∨ j ≠ 1) → (tag b ≠ 24 ∨ j ≠ 0) → (tag b ≠ 24 ∨ j ≠ 1) → (tag b ≠ 24 ∨ j ≠ 2) → (tag b ≠ 24 ∨ j ≠ 3) → (tag b ≠ 24 ∨ j ≠ 4) → (tag b ≠ 24 ∨ j ≠ 5) → (tag b ≠ 24 ∨ j ≠ 6) → (tag b ≠ 24 ∨ j ≠ 7) → (tag b ≠ 25 ∨ j ≠ 1) → (tag b ≠ 25 ∨ j ≠ 2) → (tag b ≠ 25 ∨ j ≠ 3) → (tag b ≠ 25 ∨ j ≠ 4) → (tag b ≠ 25 ∨ j ≠ 5) → (tag b ≠ 25 ∨ j ≠ 6) → (tag b ≠ 25 ∨ j ≠ 7) → (tag b ≠ 25 ∨ j ≠ 8) → (tag b ≠ 25 ∨ j ≠ 12) → fld F b j = fld Fo b j := fun b j n18_0 n18_1 n18_2 n18_3 n18_4 n18_5 n18_6 n18_8 n18_10 n18_14 n18_16 n19_0 n19_1 n24_0 n24_1 n24_2 n24_3 n24_4 n24_5 n24_6 n24_7 n25_1 n25_2 n25_3 n25_4 n25_5 n25_6 n25_7 n25_8 n25_12 => (h1v170466 b j (fr_ne g0 n25_12)).trans (hfr b j n18_0 n18_1 n18_2 n18_3 n18_4 n18_5 n18_6 n18_8 n18_10 n18_14 n18_16 n19_0 n19_1 n24_0 n24_1 n24_2 n24_3 n24_4 n24_5 n24_6 n24_7 n25_1 n25_2 n25_3 n25_4 n25_5 n25_6 n25_7 n25_8 n25_12)
  have hrel := nsr_of (fun j => h2v170466 _ j) (fun j => h2v170466 _ j) hrel
  refine lv_aload_n hx hb dX3_readAll_60 rfl (lv_at hl 0 rfl) ?_
  refine t_get (C := RX3) (T := TX3) (N := 13) X hT m0 g0 rfl rfl 0 (by decide) qw_73 inlX3 rfl dX3_readAll_61 (fun v170467 hv170467 ov170467 => ?_)
  obtain ⟨b170468, rfl, mb170468, gb170468⟩ := okV_r ov170467
  have gb170468 : tag b170468 = 24 := tg_of gb170468
  refine lv_aload_n hx hb dX3_readAll_64 rfl (lv_at hl 1 rfl) ?_
  refine lv_iload_n hx hb dX3_readAll_65 rfl (lv_at hl 2 rfl) ?_
  refine t_cVv (n := 2) (C := RX8) (T := TX8) (N := 8) (As := [.ref p1, .int p2]) (rest := []) X hT (kt480_X8_begin l G tag L F hT.2.2.2 b170468 p1 p2 mb170468 gb170468 m1 g1 (by omega)) mb170468 gb170468 rfl rfl qw_189 qw_190 qw_191 qw_72 qw_192 ⟨rfl, by decide +kernel, by decide +kernel, by decide +kernel⟩ ⟨Nat.le_of_ble_eq_true rfl, Nat.le_of_ble_eq_true rfl⟩ hl rfl rfl (Nat.le_of_ble_eq_true rfl) dX3_readAll_66 ⟨Nat.le_of_ble_eq_true rfl, Nat.le_of_ble_eq_true rfl⟩ (fun F H locs hT hz170469 => ?_)
  obtain ⟨yz170469, xz170469_0⟩ := hz170469
  have pf0 := (yz170469.1 _ 10 (Or.inr (by decide)) (Or.inr (by decide)) (Or.inr (by decide)) (Or.inr (by decide)) (Or.inr (by decide)) (Or.inr (by decide)) (Or.inr (by decide)) (Or.inr (by decide))).trans pf0
  have pf1 := (yz170469.1 _ 11 (Or.inr (by decide)) (Or.inr (by decide)) (Or.inr (by decide)) (Or.inr (by decide)) (Or.inr (by decide)) (Or.inr (by decide)) (Or.inr (by decide)) (Or.inr (by decide))).trans pf1
  have v170454 := (yz170469.1 _ 1 (Or.inr (by decide)) (Or.inl (by rw [g0]; decide)) (Or.inr (by decide)) (Or.inr (by decide)) (Or.inr (by decide)) (Or.inr (by decide)) (Or.inr (by decide)) (Or.inr (by decide))).trans v170454
  have v170455 := (yz170469.1 _ 2 (Or.inr (by decide)) (Or.inr (by decide)) (Or.inl (by rw [g0]; decide)) (Or.inr (by decide)) (Or.inr (by decide)) (Or.inr (by decide)) (Or.inr (by decide)) (Or.inr (by decide))).trans v170455
  have v170460 := (yz170469.1 _ 3 (Or.inr (by decide)) (Or.inr (by decide)) (Or.inr (by decide)) (Or.inl (by rw [g0]; decide)) (Or.inr (by decide)) (Or.inr (by decide)) (Or.inr (by decide)) (Or.inr (by decide))).trans v170460
  have v170461 := (yz170469.1 _ 4 (Or.inr (by decide)) (Or.inr (by decide)) (Or.inr (by decide)) (Or.inr (by decide)) (Or.inl (by rw [g0]; decide)) (Or.inr (by decide)) (Or.inr (by decide)) (Or.inr (by decide))).trans v170461
  have v170462 := (yz170469.1 _ 5 (Or.inr (by decide)) (Or.inr (by decide)) (Or.inr (by decide)) (Or.inr (by decide)) (Or.inr (by decide)) (Or.inl (by rw [g0]; decide)) (Or.inr (by decide)) (Or.inr (by decide))).trans v170462
  have v170463 := (yz170469.1 _ 6 (Or.inr (by decide)) (Or.inr (by decide)) (Or.inr (by decide)) (Or.inr (by decide)) (Or.inr (by decide)) (Or.inr (by decide)) (Or.inl (by rw [g0]; decide)) (Or.inr (by decide))).trans v170463
  have v170464 := (yz170469.1 _ 7 (Or.inr (by decide)) (Or.inr (by decide)) (Or.inr (by decide)) (Or.inr (by decide)) (Or.inr (by decide)) (Or.inr (by decide)) (Or.inr (by decide)) (Or.inl (by rw [g0]; decide))).trans v170464
  have v170465 := (yz170469.1 _ 8 (Or.inr (by decide)) (Or.inr (by decide)) (Or.inr (by decide)) (Or.inr (by decide)) (Or.inr (by decide)) (Or.inr (by decide)) (Or.inr (by decide)) (Or.inr (by decide))).trans v170465
  have v170466 := (yz170469.1 _ 12 (Or.inr (by decide)) (Or.inr (by decide)) (Or.inr (by decide)) (Or.inr (by decide)) (Or.inr (by decide)) (Or.inr (by decide)) (Or.inr (by decide)) (Or.inr (by decide))).trans v170466
  have hv170467 := (yz170469.1 _ 0 (Or.inl (by rw [g0]; decide)) (Or.inr (by decide)) (Or.inr (by decide)) (Or.inr (by decide)) (Or.inr (by decide)) (Or.inr (by decide)) (Or.inr (by decide)) (Or.inr (by decide))).trans hv170467
  have hfr : ∀ b j : Nat, (tag b ≠ 18 ∨ j ≠ 0) → (tag b ≠ 18 ∨ j ≠ 1) → (tag b ≠ 18 ∨ j ≠ 2) → (tag b ≠ 18 ∨ j ≠ 3) → (tag b ≠ 18 ∨ j ≠ 4) → (tag b ≠ 18 ∨ j ≠ 5) → (tag b ≠ 18 ∨ j ≠ 6) → (tag b ≠ 18 ∨ j ≠ 8) → (tag b ≠ 18 ∨ j ≠ 10) → (tag b ≠ 18 ∨ j ≠ 14) → (tag b ≠ 18 ∨ j ≠ 16) → (tag b ≠ 19 ∨ j ≠ 0) → (tag b ≠ 19 ∨ j ≠ 1) → (tag b ≠ 24 ∨ j ≠ 0) → (tag b ≠ 24 ∨ j ≠ 1) → (tag b ≠ 24 ∨ j ≠ 2) → (tag b ≠ 24 ∨ j ≠ 3) → (tag b ≠ 24 ∨ j ≠ 4) → (tag b ≠ 24 ∨ j ≠ 5) → (tag b ≠ 24 ∨ j ≠ 6) → (tag b ≠ 24 ∨ j ≠ 7) → (tag b ≠ 25 ∨ j ≠ 1) → (tag b ≠ 25 ∨ j ≠ 2) → (tag b ≠ 25 ∨ j ≠ 3) → (tag b ≠ 25 ∨ j ≠ 4) → (tag b ≠ 25 ∨ j ≠ 5) → (tag b ≠ 25 ∨ j ≠ 6) → (tag b ≠ 25 ∨ j ≠ 7) → (tag b ≠ 25 ∨ j ≠ 8) → (tag b ≠ 25 ∨ j ≠ 12) → fld F b j = fld Fo b j := fun b j n18_0 n18_1 n18_2 n18_3 n18_4 n18_5 n18_6 n18_8 n18_10 n18_14 n18_16 n19_0 n19_1 n24_0 n24_1 n24_2 n24_3 n24_4 n24_5 n24_6 n24_7 n25_1 n25_2 n25_3 n25_4 n25_5 n25_6 n25_7 n25_8 n25_12 => (yz170469.1 b j n24_0 n24_1 n24_2 n24_3 n24_4 n24_5 n24_6 n24_7).trans (hfr b j n18_0 n18_1 n18_2 n18_3 n18_4 n18_5 n18_6 n18_8 n18_10 n18_14 n18_16 n19_0 n19_1 n24_0 n24_1 n24_2 n24_3 n24_4 n24_5 n24_6 n24_7 n25_1 n25_2 n25_3 n25_4 n25_5 n25_6 n25_7 n25_8 n25_12)
  have hrel := nsr_of (fun j => yz170469.2 _ j (Or.inl gx0)) (fun j => yz170469.2 _ j (Or.inr gx1)) hrel
  refine lv_aload_n hx hb dX3_readAll_69 rfl (lv_at hl 0 rfl) ?_
  refine t_cVv (n := 0) (C := RX3) (T := TX3) (N := 13) (As := []) (rest := []) X hT (kt478_X3_readLine l G tag L F hT.2.2.2 p0 b170468 p3 p4 p1 x0 x1 m0 g0 mb170468 gb170468 hv170467 m3 g3 v170454 m4 g4 v170455 m1 g1 xz170469_0 mx0 gx0 pf0 mx1 gx1 pf1 hrel) m0 g0 rfl rfl qw_223 qw_224 qw_225 qw_28 qw_226 ⟨rfl, by decide +kernel, by decide +kernel, by decide +kernel⟩ ⟨Nat.le_of_ble_eq_true rfl, Nat.le_of_ble_eq_true rfl⟩ hl rfl rfl (Nat.le_of_ble_eq_true rfl) dX3_readAll_70 ⟨Nat.le_of_ble_eq_true rfl, Nat.le_of_ble_eq_true rfl⟩ (fun F H locs hT hz170470 => ?_)
  obtain ⟨yz170470, hrel⟩ := hz170470
  have pf0 := (yz170470 _ 10 (Or.inr (by decide)) (Or.inr (by decide)) (Or.inr (by decide)) (Or.inr (by decide)) (Or.inr (by decide)) (Or.inr (by decide)) (Or.inr (by decide)) (Or.inr (by decide)) (Or.inl (by rw [g0]; decide)) (Or.inr (by decide)) (Or.inr (by decide)) (Or.inr (by decide)) (Or.inr (by decide)) (Or.inr (by decide)) (Or.inr (by decide)) (Or.inr (by decide)) (Or.inr (by decide)) (Or.inr (by decide)) (Or.inr (by decide)) (Or.inr (by decide)) (Or.inr (by decide)) (Or.inr (by decide)) (Or.inr (by decide)) (Or.inr (by decide)) (Or.inr (by decide))).trans pf0
  have pf1 := (yz170470 _ 11 (Or.inr (by decide)) (Or.inr (by decide)) (Or.inr (by decide)) (Or.inr (by decide)) (Or.inr (by decide)) (Or.inr (by decide)) (Or.inr (by decide)) (Or.inr (by decide)) (Or.inr (by decide)) (Or.inr (by decide)) (Or.inr (by decide)) (Or.inr (by decide)) (Or.inr (by decide)) (Or.inr (by decide)) (Or.inr (by decide)) (Or.inr (by decide)) (Or.inr (by decide)) (Or.inr (by decide)) (Or.inr (by decide)) (Or.inr (by decide)) (Or.inr (by decide)) (Or.inr (by decide)) (Or.inr (by decide)) (Or.inr (by decide)) (Or.inr (by decide))).trans pf1
  have v170454 := (yz170470 _ 1 (Or.inr (by decide)) (Or.inl (by rw [g0]; decide)) (Or.inr (by decide)) (Or.inr (by decide)) (Or.inr (by decide)) (Or.inr (by decide)) (Or.inr (by decide)) (Or.inr (by decide)) (Or.inr (by decide)) (Or.inr (by decide)) (Or.inr (by decide)) (Or.inr (by decide)) (Or.inr (by decide)) (Or.inr (by decide)) (Or.inr (by decide)) (Or.inr (by decide)) (Or.inr (by decide)) (Or.inr (by decide)) (Or.inr (by decide)) (Or.inr (by decide)) (Or.inr (by decide)) (Or.inr (by decide)) (Or.inr (by decide)) (Or.inr (by decide)) (Or.inr (by decide))).trans v170454
  have v170455 := (yz170470 _ 2 (Or.inr (by decide)) (Or.inr (by decide)) (Or.inl (by rw [g0]; decide)) (Or.inr (by decide)) (Or.inr (by decide)) (Or.inr (by decide)) (Or.inr (by decide)) (Or.inr (by decide)) (Or.inr (by decide)) (Or.inr (by decide)) (Or.inr (by decide)) (Or.inr (by decide)) (Or.inl (by rw [g0]; decide)) (Or.inr (by decide)) (Or.inr (by decide)) (Or.inr (by decide)) (Or.inr (by decide)) (Or.inr (by decide)) (Or.inr (by decide)) (Or.inr (by decide)) (Or.inr (by decide)) (Or.inr (by decide)) (Or.inr (by decide)) (Or.inr (by decide)) (Or.inr (by decide))).trans v170455
  have hv170467 := (yz170470 _ 0 (Or.inl (by rw [g0]; decide)) (Or.inr (by decide)) (Or.inr (by decide)) (Or.inr (by decide)) (Or.inr (by decide)) (Or.inr (by decide)) (Or.inr (by decide)) (Or.inr (by decide)) (Or.inr (by decide)) (Or.inr (by decide)) (Or.inr (by decide)) (Or.inl (by rw [g0]; decide)) (Or.inr (by decide)) (Or.inr (by decide)) (Or.inr (by decide)) (Or.inr (by decide)) (Or.inr (by decide)) (Or.inr (by decide)) (Or.inr (by decide)) (Or.inr (by decide)) (Or.inr (by decide)) (Or.inr (by decide)) (Or.inr (by decide)) (Or.inr (by decide)) (Or.inr (by decide))).trans hv170467
  have xz170469_0 := (yz170470 _ 0 (Or.inl (by rw [gb170468]; decide)) (Or.inr (by decide)) (Or.inr (by decide)) (Or.inr (by decide)) (Or.inr (by decide)) (Or.inr (by decide)) (Or.inr (by decide)) (Or.inr (by decide)) (Or.inr (by decide)) (Or.inr (by decide)) (Or.inr (by decide)) (Or.inl (by rw [gb170468]; decide)) (Or.inr (by decide)) (Or.inr (by decide)) (Or.inr (by decide)) (Or.inr (by decide)) (Or.inr (by decide)) (Or.inr (by decide)) (Or.inr (by decide)) (Or.inr (by decide)) (Or.inr (by decide)) (Or.inr (by decide)) (Or.inr (by decide)) (Or.inr (by decide)) (Or.inr (by decide))).trans xz170469_0
  have hfr : ∀ b j : Nat, (tag b ≠ 18 ∨ j ≠ 0) → (tag b ≠ 18 ∨ j ≠ 1) → (tag b ≠ 18 ∨ j ≠ 2) → (tag b ≠ 18 ∨ j ≠ 3) → (tag b ≠ 18 ∨ j ≠ 4) → (tag b ≠ 18 ∨ j ≠ 5) → (tag b ≠ 18 ∨ j ≠ 6) → (tag b ≠ 18 ∨ j ≠ 8) → (tag b ≠ 18 ∨ j ≠ 10) → (tag b ≠ 18 ∨ j ≠ 14) → (tag b ≠ 18 ∨ j ≠ 16) → (tag b ≠ 19 ∨ j ≠ 0) → (tag b ≠ 19 ∨ j ≠ 1) → (tag b ≠ 24 ∨ j ≠ 0) → (tag b ≠ 24 ∨ j ≠ 1) → (tag b ≠ 24 ∨ j ≠ 2) → (tag b ≠ 24 ∨ j ≠ 3) → (tag b ≠ 24 ∨ j ≠ 4) → (tag b ≠ 24 ∨ j ≠ 5) → (tag b ≠ 24 ∨ j ≠ 6) → (tag b ≠ 24 ∨ j ≠ 7) → (tag b ≠ 25 ∨ j ≠ 1) → (tag b ≠ 25 ∨ j ≠ 2) → (tag b ≠ 25 ∨ j ≠ 3) → (tag b ≠ 25 ∨ j ≠ 4) → (tag b ≠ 25 ∨ j ≠ 5) → (tag b ≠ 25 ∨ j ≠ 6) → (tag b ≠ 25 ∨ j ≠ 7) → (tag b ≠ 25 ∨ j ≠ 8) → (tag b ≠ 25 ∨ j ≠ 12) → fld F b j = fld Fo b j := fun b j n18_0 n18_1 n18_2 n18_3 n18_4 n18_5 n18_6 n18_8 n18_10 n18_14 n18_16 n19_0 n19_1 n24_0 n24_1 n24_2 n24_3 n24_4 n24_5 n24_6 n24_7 n25_1 n25_2 n25_3 n25_4 n25_5 n25_6 n25_7 n25_8 n25_12 => (yz170470 b j n18_0 n18_1 n18_2 n18_3 n18_4 n18_5 n18_6 n18_8 n18_10 n18_14 n18_16 n19_0 n24_2 n24_3 n24_4 n24_5 n24_6 n24_7 n25_3 n25_4 n25_5 n25_6 n25_7 n25_8 n25_12).trans (hfr b j n18_0 n18_1 n18_2 n18_3 n18_4 n18_5 n18_6 n18_8 n18_10 n18_14 n18_16 n19_0 n19_1 n24_0 n24_1 n24_2 n24_3 n24_4 n24_5 n24_6 n24_7 n25_1 n25_2 n25_3 n25_4 n25_5 n25_6 n25_7 n25_8 n25_12)
  refine lv_iconst (v := 0) hx hb dX3_readAll_73 (by decide) ?_
  refine lv_istore (lv' := [(5, .int 0), (0, .ref p0), (1, .ref p1), (2, .int p2), (3, .ref p3), (4, .ref p4)]) hx hb dX3_readAll_74 hl (by decide) rfl (fun ls hl => ?_)
  have kk170471 : (0 : Int32).toInt = 0 := by decide
  exact K76 1001 0 x0 x1 p3 p4 b170468 p1 _ _ _ _ (by omega) (by decide) mx0 gx0 mx1 gx1 m3 g3 m4 g4 mb170468 gb170468 m1 g1 hT hfr hrel pf0 pf1 pf0 pf1 v170454 v170455 hv170467 xz170469_0 (lv_sub hl [1, 2, 3, 4, 5, 0] rfl)
