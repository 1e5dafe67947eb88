set_option maxHeartbeats 4000000 in
set_option maxRecDepth 100000 in
theorem kt156_X3_fail (l : Launch) (G : KG) (tag : Nat → Nat) (L : List Nat) (Fo : Nat → va_E) (ho : okT G ttC tag L Fo) (p0 : Nat) (p1 : Int32) (p2 : Int32) (m0 : p0 ∈ L) (g0 : tag p0 = 25) (h1 : 1 ≤ p1.toInt ∧ p1.toInt ≤ 7) : TMv l yX3_fail cX3_fail 3 { frames := 0, cells := 0, slots := 0, locals := 0 } G ttC tag L Fo [.ref p0, .int p1, .int p2] (fun F1 => ((∀ b j : Nat, (tag b ≠ 25 ∨ j ≠ 3) → (tag b ≠ 25 ∨ j ≠ 4) → fld F1 b j = fld Fo b j) ∧ EF tag F1 Fo) ∧ (∃ z : Int32, fld F1 p0 3 = .int z ∧ 1 ≤ z.toInt ∧ z.toInt ≤ 7)) := by
  refine t_bodyv (y := yX3_fail) (cd := cX3_fail) (mL := 3) (rm := { frames := 0, cells := 0, slots := 0, locals := 0 }) (av := [.ref p0, .int p1, .int p2]) (by decide) (Nat.le_of_ble_eq_true rfl) ho ?_
  intro p e s m args below meth c ls A Q hQ X hT hl
  have hx := X.1.1
  have hb := X.1.2.1
  have hl : lv_has ls 3 [(0, .ref p0), (1, .int p1), (2, .int p2)] := hl
  have rp2 := rg_all p2
  obtain ⟨F, hFo⟩ : ∃ F : Nat → va_E, F = Fo := ⟨_, rfl⟩
  rw [← hFo] at hT
  have hfr : (∀ b j : Nat, (tag b ≠ 25 ∨ j ≠ 3) → (tag b ≠ 25 ∨ j ≠ 4) → fld F b j = fld Fo b j) ∧ EF tag F Fo := by
    rw [hFo]
    exact ⟨by intros; rfl, fun _ _ _ => rfl⟩
  refine lv_aload_n hx hb dX3_fail_0 rfl (lv_at hl 0 rfl) ?_
  refine t_get (C := RX3) (T := TX3) (N := 13) X hT m0 g0 rfl rfl 3 (by decide) qw_163 inlX3 rfl dX3_fail_1 (fun v56061 hv56061 ov56061 => ?_)
  obtain ⟨z56062, rfl, rz56062⟩ := okV_i ov56061
  refine lv_if_ne (tgt := 17) hx hb dX3_fail_4 (by decide) (fun c56063 => ?_) (fun c56063 => ?_)
  · have w56064 := cv_ne (rfl : z56062.toInt = z56062.toInt) (by decide : (0 : Int32).toInt = 0) c56063
    exact t_vret hQ X hT ⟨hfr, ⟨_, hv56061, (by omega), (by omega)⟩⟩ (Nat.le_of_ble_eq_true rfl) (Nat.le_of_ble_eq_true rfl) dX3_fail_17
  · have w56065 := cv_eq (rfl : z56062.toInt = z56062.toInt) (by decide : (0 : Int32).toInt = 0) c56063
    refine lv_aload_n hx hb dX3_fail_7 rfl (lv_at hl 0 rfl) ?_
    refine lv_iload_n hx hb dX3_fail_8 rfl (lv_at hl 1 rfl) ?_
    refine t_put (C := RX3) (T := TX3) (N := 13) (v := .int p1) X hT m0 g0 rfl tyX3 tyX3_ok nmX3 rfl 3 (by decide) qw_163 inlX3 rfl (by first | rfl | decide) (by first | rfl | decide) rfl (⟨_, rfl, (show 0 ≤ (p1 : Int32).toInt from (by omega)), (show (p1 : Int32).toInt ≤ 7 from (by omega))⟩) dX3_fail_9 (fun F H locs hT v56066 h1v56066 h2v56066 => ?_)
    have hfr : (∀ b j : Nat, (tag b ≠ 25 ∨ j ≠ 3) → (tag b ≠ 25 ∨ j ≠ 4) → fld F b j = fld Fo b j) ∧ EF tag F Fo := ⟨fun b j n25_3 n25_4 => (h1v56066 b j (fr_ne g0 n25_3)).trans (hfr.1 b j n25_3 n25_4), fun b j hb => (h2v56066 b j).trans (hfr.2 b j hb)⟩
    refine lv_aload_n hx hb dX3_fail_12 rfl (lv_at hl 0 rfl) ?_
    refine lv_iload_n hx hb dX3_fail_13 rfl (lv_at hl 2 rfl) ?_
    refine t_put (C := RX3) (T := TX3) (N := 13) (v := .int p2) X hT m0 g0 rfl tyX3 tyX3_ok nmX3 rfl 4 (by decide) qw_164 inlX3 rfl (by first | rfl | decide) (by first | rfl | decide) rfl (⟨_, rfl, (show (-2147483648) ≤ (p2 : Int32).toInt from (by omega)), (show (p2 : Int32).toInt ≤ 2147483647 from (by omega))⟩) dX3_fail_14 (fun F H locs hT v56067 h1v56067 h2v56067 => ?_)
    have v56066 := (h1v56067 _ _ (Or.inr (by decide))).trans v56066
    have hfr : (∀ b j : Nat, (tag b ≠ 25 ∨ j ≠ 3) → (tag b ≠ 25 ∨ j ≠ 4) → fld F b j = fld Fo b j) ∧ EF tag F Fo := ⟨fun b j n25_3 n25_4 => (h1v56067 b j (fr_ne g0 n25_4)).trans (hfr.1 b j n25_3 n25_4), fun b j hb => (h2v56067 b j).trans (hfr.2 b j hb)⟩
    exact t_vret hQ X hT ⟨hfr, ⟨_, v56066, (by omega), (by omega)⟩⟩ (Nat.le_of_ble_eq_true rfl) (Nat.le_of_ble_eq_true rfl) dX3_fail_17
set_option maxHeartbeats 4000000 in
set_option maxRecDepth 100000 in
theorem kt157_X3_checkLine (l : Launch) (G : KG) (tag : Nat → Nat) (L : List Nat) (Fo : Nat → va_E) (ho : okT G ttC tag L Fo) (p0 : Nat) (p1 : Int32) (x0 : Nat) (x1 : Nat) (x2 : Nat) (x3 : Nat) (x4 : Nat) (x5 : Nat) (m0 : p0 ∈ L) (g0 : tag p0 = 25) (mx0 : x0 ∈ L) (gx0 : tag x0 = 24) (pf0 : fld Fo p0 0 = .ref x0) (mx1 : x1 ∈ L) (gx1 : tag x1 = 18) (pf1 : fld Fo p0 1 = .ref x1) (mx2 : x2 ∈ L) (gx2 : tag x2 = 19) (pf2 : fld Fo p0 2 = .ref x2) (mx3 : x3 ∈ L) (gx3 : tag x3 = 1) (pf3 : fld Fo x0 0 = .ref x3) (mx4 : x4 ∈ L) (gx4 : tag x4 = 14) (pf4 : fld Fo p0 10 = .ref x4) (mx5 : x5 ∈ L) (gx5 : tag x5 = 15) (pf5 : fld Fo p0 11 = .ref x5) : TMv l yX3_checkLine cX3_checkLine 2 { frames := 1, cells := 0, slots := 0, locals := 22 } G ttC tag L Fo [.ref p0, .int p1] (fun F1 => ((∀ b j : Nat, (tag b ≠ 25 ∨ j ≠ 3) → (tag b ≠ 25 ∨ j ≠ 4) → fld F1 b j = fld Fo b j) ∧ EF tag F1 Fo)) := by
  refine t_bodyv (y := yX3_checkLine) (cd := cX3_checkLine) (mL := 2) (rm := { frames := 1, cells := 0, slots := 0, locals := 22 }) (av := [.ref p0, .int p1]) (by decide) (Nat.le_of_ble_eq_true rfl) ho ?_
  intro p e s m args below meth c ls A Q hQ X hT hl
  have hx := X.1.1
  have hb := X.1.2.1
  have hl : lv_has ls 2 [(0, .ref p0), (1, .int p1)] := hl
  have rp1 := rg_all p1
  obtain ⟨F, hFo⟩ : ∃ F : Nat → va_E, F = Fo := ⟨_, rfl⟩
  rw [← hFo] at hT pf0 pf1 pf2 pf3 pf4 pf5
  have hfr : (∀ b j : Nat, (tag b ≠ 25 ∨ j ≠ 3) → (tag b ≠ 25 ∨ j ≠ 4) → fld F b j = fld Fo b j) ∧ EF tag F Fo := by
    rw [hFo]
    exact ⟨by intros; rfl, fun _ _ _ => rfl⟩
  refine lv_aload_n hx hb dX3_checkLine_0 rfl (lv_at hl 0 rfl) ?_
  refine lv_iload_n hx hb dX3_checkLine_1 rfl (lv_at hl 1 rfl) ?_
  refine t_cVi (n := 1) (C := RX3) (T := TX3) (N := 13) (As := [.int p1]) (rest := []) X hT (kt109_X3_isLineAgain l G tag L F hT.2.2.2 p0 p1 m0 g0) m0 g0 rfl rfl qw_295 qw_296 qw_297 qw_28 qw_298 ⟨rfl, by decide +kernel, by decide +kernel, by decide +kernel⟩ ⟨Nat.le_of_ble_eq_true rfl, Nat.le_of_ble_eq_true rfl⟩ hl rfl rfl (Nat.le_of_ble_eq_true rfl) dX3_checkLine_2 ⟨Nat.le_of_ble_eq_true rfl, Nat.le_of_ble_eq_true rfl⟩ (fun z56577 F9 H locs hT hz56577 => ?_)
  obtain ⟨fz56577, hz56577⟩ := hz56577
  rw [fz56577] at hT
  refine lv_if_eq (tgt := 23) hx hb dX3_checkLine_5 (by decide) (fun c56578 => ?_) (fun c56578 => ?_)
  · have w56579 := cv_eq (rfl : z56577.toInt = z56577.toInt) (by decide : (0 : Int32).toInt = 0) c56578
    refine lv_aload_n hx hb dX3_checkLine_23 rfl (lv_at hl 0 rfl) ?_
    refine lv_iload_n hx hb dX3_checkLine_24 rfl (lv_at hl 1 rfl) ?_
    refine t_cVi (n := 1) (C := RX3) (T := TX3) (N := 13) (As := [.int p1]) (rest := []) X hT (kt155_X3_isLineTooMany l G tag L F hT.2.2.2 p0 p1 x0 x1 x2 x3 x4 x5 m0 g0 mx0 gx0 pf0 mx1 gx1 pf1 mx2 gx2 pf2 mx3 gx3 pf3 mx4 gx4 pf4 mx5 gx5 pf5) m0 g0 rfl rfl qw_299 qw_300 qw_301 qw_28 qw_302 ⟨rfl, by decide +kernel, by decide +kernel, by decide +kernel⟩ ⟨Nat.le_of_ble_eq_true rfl, Nat.le_of_ble_eq_true rfl⟩ hl rfl rfl (Nat.le_of_ble_eq_true rfl) dX3_checkLine_25 ⟨Nat.le_of_ble_eq_true rfl, Nat.le_of_ble_eq_true rfl⟩ (fun z56580 F9 H locs hT hz56580 => ?_)
    obtain ⟨fz56580, hz56580⟩ := hz56580
    rw [fz56580] at hT
    refine lv_if_eq (tgt := 46) hx hb dX3_checkLine_28 (by decide) (fun c56581 => ?_) (fun c56581 => ?_)
    · have w56582 := cv_eq (rfl : z56580.toInt = z56580.toInt) (by decide : (0 : Int32).toInt = 0) c56581
      refine lv_iload_n hx hb dX3_checkLine_46 rfl (lv_at hl 1 rfl) ?_
      refine lv_if_eq (tgt := 57) hx hb dX3_checkLine_47 (by decide) (fun c56583 => ?_) (fun c56583 => ?_)
      · have w56584 := cv_eq (rfl : p1.toInt = p1.toInt) (by decide : (0 : Int32).toInt = 0) c56583
        refine lv_iload_n hx hb dX3_checkLine_57 rfl (lv_at hl 1 rfl) ?_
        refine lv_iconst (v := 2) hx hb dX3_checkLine_58 (by decide) ?_
        refine lv_icmp_ne (tgt := 85) hx hb dX3_checkLine_59 (by decide) (fun c56585 => ?_) (fun c56585 => ?_)
        · have w56586 := cv_ne (rfl : p1.toInt = p1.toInt) (by decide : (2 : Int32).toInt = 2) c56585
          exact t_vret hQ X hT hfr (Nat.le_of_ble_eq_true rfl) (Nat.le_of_ble_eq_true rfl) dX3_checkLine_85
        · have w56587 := cv_eq (rfl : p1.toInt = p1.toInt) (by decide : (2 : Int32).toInt = 2) c56585
          exfalso
          omega
      · have w56588 := cv_ne (rfl : p1.toInt = p1.toInt) (by decide : (0 : Int32).toInt = 0) c56583
        refine lv_aload_n hx hb dX3_checkLine_50 rfl (lv_at hl 0 rfl) ?_
        refine t_get (C := RX3) (T := TX3) (N := 13) X hT m0 g0 rfl rfl 5 (by decide) qw_165 inlX3 rfl dX3_checkLine_51 (fun v56589 hv56589 ov56589 => ?_)
        obtain ⟨z56590, rfl, rz56590⟩ := okV_i ov56589
        refine lv_if_eq (tgt := 72) hx hb dX3_checkLine_54 (by decide) (fun c56591 => ?_) (fun c56591 => ?_)
        · have w56592 := cv_eq (rfl : z56590.toInt = z56590.toInt) (by decide : (0 : Int32).toInt = 0) c56591
          refine lv_aload_n hx hb dX3_checkLine_72 rfl (lv_at hl 0 rfl) ?_
          refine lv_bipush (v := 6) hx hb dX3_checkLine_73 (by decide) ?_
          refine lv_aload_n hx hb dX3_checkLine_75 rfl (lv_at hl 0 rfl) ?_
          refine t_get (C := RX3) (T := TX3) (N := 13) X hT m0 g0 rfl rfl 0 (by decide) qw_73 inlX3 rfl dX3_checkLine_76 (fun v56593 hv56593 ov56593 => ?_)
          obtain rfl : v56593 = .ref x0 := hv56593.symm.trans pf0
          refine t_get (C := RX8) (T := TX8) (N := 8) X hT mx0 gx0 rfl rfl 4 (by decide) qw_227 inlX8 rfl dX3_checkLine_79 (fun v56594 hv56594 ov56594 => ?_)
          obtain ⟨z56595, rfl, rz56595⟩ := okV_i ov56594
          refine t_cVv (n := 2) (C := RX3) (T := TX3) (N := 13) (As := [.int 6, .int z56595]) (rest := []) X hT (kt156_X3_fail l G tag L F hT.2.2.2 p0 6 z56595 m0 g0 (by decide)) m0 g0 rfl rfl qw_287 qw_288 qw_289 qw_28 qw_290 ⟨rfl, by decide +kernel, by decide +kernel, by decide +kernel⟩ ⟨Nat.le_of_ble_eq_true rfl, Nat.le_of_ble_eq_true rfl⟩ hl rfl rfl (Nat.le_of_ble_eq_true rfl) dX3_checkLine_82 ⟨Nat.le_of_ble_eq_true rfl, Nat.le_of_ble_eq_true rfl⟩ (fun F H locs hT hz56596 => ?_)
          obtain ⟨yz56596, xz56596_0⟩ := hz56596
          have pf0 := (yz56596.1 _ 0 (Or.inr (by decide)) (Or.inr (by decide))).trans pf0
          have pf1 := (yz56596.1 _ 1 (Or.inr (by decide)) (Or.inr (by decide))).trans pf1
          have pf2 := (yz56596.1 _ 2 (Or.inr (by decide)) (Or.inr (by decide))).trans pf2
          have pf3 := (yz56596.1 _ 0 (Or.inr (by decide)) (Or.inr (by decide))).trans pf3
          have pf4 := (yz56596.1 _ 10 (Or.inr (by decide)) (Or.inr (by decide))).trans pf4
          have pf5 := (yz56596.1 _ 11 (Or.inr (by decide)) (Or.inr (by decide))).trans pf5
          have hv56589 := (yz56596.1 _ 5 (Or.inr (by decide)) (Or.inr (by decide))).trans hv56589
          have hv56594 := (yz56596.1 _ 4 (Or.inr (by decide)) (Or.inl (by rw [gx0]; decide))).trans hv56594
          have hfr : (∀ b j : Nat, (tag b ≠ 25 ∨ j ≠ 3) → (tag b ≠ 25 ∨ j ≠ 4) → fld F b j = fld Fo b j) ∧ EF tag F Fo := ⟨fun b j n25_3 n25_4 => (yz56596.1 b j n25_3 n25_4).trans (hfr.1 b j n25_3 n25_4), fun b j hb => (yz56596.2 b j hb).trans (hfr.2 b j hb)⟩
          obtain ⟨z56597, qz56597, rz56597⟩ := xz56596_0
          exact t_vret hQ X hT hfr (Nat.le_of_ble_eq_true rfl) (Nat.le_of_ble_eq_true rfl) dX3_checkLine_85
        · have w56598 := cv_ne (rfl : z56590.toInt = z56590.toInt) (by decide : (0 : Int32).toInt = 0) c56591
          refine lv_iload_n hx hb dX3_checkLine_57 rfl (lv_at hl 1 rfl) ?_
          refine lv_iconst (v := 2) hx hb dX3_checkLine_58 (by decide) ?_
          refine lv_icmp_ne (tgt := 85) hx hb dX3_checkLine_59 (by decide) (fun c56599 => ?_) (fun c56599 => ?_)
          · have w56600 := cv_ne (rfl : p1.toInt = p1.toInt) (by decide : (2 : Int32).toInt = 2) c56599
            exact t_vret hQ X hT hfr (Nat.le_of_ble_eq_true rfl) (Nat.le_of_ble_eq_true rfl) dX3_checkLine_85
          · have w56601 := cv_eq (rfl : p1.toInt = p1.toInt) (by decide : (2 : Int32).toInt = 2) c56599
            refine lv_aload_n hx hb dX3_checkLine_62 rfl (lv_at hl 0 rfl) ?_
            refine t_get (C := RX3) (T := TX3) (N := 13) X hT m0 g0 rfl rfl 1 (by decide) qw_161 inlX3 rfl dX3_checkLine_63 (fun v56602 hv56602 ov56602 => ?_)
            obtain rfl : v56602 = .ref x1 := hv56602.symm.trans pf1
            refine t_get (C := RX1) (T := TX1) (N := 20) X hT mx1 gx1 rfl rfl 10 (by decide) qw_172 inlX1 rfl dX3_checkLine_66 (fun v56603 hv56603 ov56603 => ?_)
            obtain ⟨z56604, rfl, rz56604⟩ := okV_i ov56603
            refine lv_if_le (tgt := 85) hx hb dX3_checkLine_69 (by decide) (fun c56605 => ?_) (fun c56605 => ?_)
            · have w56606 := cv_le (rfl : z56604.toInt = z56604.toInt) (by decide : (0 : Int32).toInt = 0) c56605
              exact t_vret hQ X hT hfr (Nat.le_of_ble_eq_true rfl) (Nat.le_of_ble_eq_true rfl) dX3_checkLine_85
            · have w56607 := cv_nle (rfl : z56604.toInt = z56604.toInt) (by decide : (0 : Int32).toInt = 0) c56605
              refine lv_aload_n hx hb dX3_checkLine_72 rfl (lv_at hl 0 rfl) ?_
              refine lv_bipush (v := 6) hx hb dX3_checkLine_73 (by decide) ?_
              refine lv_aload_n hx hb dX3_checkLine_75 rfl (lv_at hl 0 rfl) ?_
              refine t_get (C := RX3) (T := TX3) (N := 13) X hT m0 g0 rfl rfl 0 (by decide) qw_73 inlX3 rfl dX3_checkLine_76 (fun v56608 hv56608 ov56608 => ?_)
              obtain rfl : v56608 = .ref x0 := hv56608.symm.trans pf0
              refine t_get (C := RX8) (T := TX8) (N := 8) X hT mx0 gx0 rfl rfl 4 (by decide) qw_227 inlX8 rfl dX3_checkLine_79 (fun v56609 hv56609 ov56609 => ?_)
              obtain ⟨z56610, rfl, rz56610⟩ := okV_i ov56609
              refine t_cVv (n := 2) (C := RX3) (T := TX3) (N := 13) (As := [.int 6, .int z56610]) (rest := []) X hT (kt156_X3_fail l G tag L F hT.2.2.2 p0 6 z56610 m0 g0 (by decide)) m0 g0 rfl rfl qw_287 qw_288 qw_289 qw_28 qw_290 ⟨rfl, by decide +kernel, by decide +kernel, by decide +kernel⟩ ⟨Nat.le_of_ble_eq_true rfl, Nat.le_of_ble_eq_true rfl⟩ hl rfl rfl (Nat.le_of_ble_eq_true rfl) dX3_checkLine_82 ⟨Nat.le_of_ble_eq_true rfl, Nat.le_of_ble_eq_true rfl⟩ (fun F H locs hT hz56611 => ?_)
              obtain ⟨yz56611, xz56611_0⟩ := hz56611
              have pf0 := (yz56611.1 _ 0 (Or.inr (by decide)) (Or.inr (by decide))).trans pf0
              have pf1 := (yz56611.1 _ 1 (Or.inr (by decide)) (Or.inr (by decide))).trans pf1
              have pf2 := (yz56611.1 _ 2 (Or.inr (by decide)) (Or.inr (by decide))).trans pf2
              have pf3 := (yz56611.1 _ 0 (Or.inr (by decide)) (Or.inr (by decide))).trans pf3
              have pf4 := (yz56611.1 _ 10 (Or.inr (by decide)) (Or.inr (by decide))).trans pf4
              have pf5 := (yz56611.1 _ 11 (Or.inr (by decide)) (Or.inr (by decide))).trans pf5
              have hv56589 := (yz56611.1 _ 5 (Or.inr (by decide)) (Or.inr (by decide))).trans hv56589
              have hv56603 := (yz56611.1 _ 10 (Or.inr (by decide)) (Or.inr (by decide))).trans hv56603
              have hv56609 := (yz56611.1 _ 4 (Or.inr (by decide)) (Or.inl (by rw [gx0]; decide))).trans hv56609
              have hfr : (∀ b j : Nat, (tag b ≠ 25 ∨ j ≠ 3) → (tag b ≠ 25 ∨ j ≠ 4) → fld F b j = fld Fo b j) ∧ EF tag F Fo := ⟨fun b j n25_3 n25_4 => (yz56611.1 b j n25_3 n25_4).trans (hfr.1 b j n25_3 n25_4), fun b j hb => (yz56611.2 b j hb).trans (hfr.2 b j hb)⟩
              obtain ⟨z56612, qz56612, rz56612⟩ := xz56611_0
              exact t_vret hQ X hT hfr (Nat.le_of_ble_eq_true rfl) (Nat.le_of_ble_eq_true rfl) dX3_checkLine_85
    · have w56613 := cv_ne (rfl : z56580.toInt = z56580.toInt) (by decide : (0 : Int32).toInt = 0) c56581
      refine lv_aload_n hx hb dX3_checkLine_31 rfl (lv_at hl 0 rfl) ?_
      refine lv_iconst (v := 5) hx hb dX3_checkLine_32 (by decide) ?_
      refine lv_aload_n hx hb dX3_checkLine_33 rfl (lv_at hl 0 rfl) ?_
      refine t_get (C := RX3) (T := TX3) (N := 13) X hT m0 g0 rfl rfl 0 (by decide) qw_73 inlX3 rfl dX3_checkLine_34 (fun v56614 hv56614 ov56614 => ?_)
      obtain rfl : v56614 = .ref x0 := hv56614.symm.trans pf0
      refine t_get (C := RX8) (T := TX8) (N := 8) X hT mx0 gx0 rfl rfl 4 (by decide) qw_227 inlX8 rfl dX3_checkLine_37 (fun v56615 hv56615 ov56615 => ?_)
      obtain ⟨z56616, rfl, rz56616⟩ := okV_i ov56615
      refine t_cVv (n := 2) (C := RX3) (T := TX3) (N := 13) (As := [.int 5, .int z56616]) (rest := []) X hT (kt156_X3_fail l G tag L F hT.2.2.2 p0 5 z56616 m0 g0 (by decide)) m0 g0 rfl rfl qw_287 qw_288 qw_289 qw_28 qw_290 ⟨rfl, by decide +kernel, by decide +kernel, by decide +kernel⟩ ⟨Nat.le_of_ble_eq_true rfl, Nat.le_of_ble_eq_true rfl⟩ hl rfl rfl (Nat.le_of_ble_eq_true rfl) dX3_checkLine_40 ⟨Nat.le_of_ble_eq_true rfl, Nat.le_of_ble_eq_true rfl⟩ (fun F H locs hT hz56617 => ?_)
      obtain ⟨yz56617, xz56617_0⟩ := hz56617
      have pf0 := (yz56617.1 _ 0 (Or.inr (by decide)) (Or.inr (by decide))).trans pf0
      have pf1 := (yz56617.1 _ 1 (Or.inr (by decide)) (Or.inr (by decide))).trans pf1
      have pf2 := (yz56617.1 _ 2 (Or.inr (by decide)) (Or.inr (by decide))).trans pf2
      have pf3 := (yz56617.1 _ 0 (Or.inr (by decide)) (Or.inr (by decide))).trans pf3
      have pf4 := (yz56617.1 _ 10 (Or.inr (by decide)) (Or.inr (by decide))).trans pf4
      have pf5 := (yz56617.1 _ 11 (Or.inr (by decide)) (Or.inr (by decide))).trans pf5
      have hv56615 := (yz56617.1 _ 4 (Or.inr (by decide)) (Or.inl (by rw [gx0]; decide))).trans hv56615
      have hfr : (∀ b j : Nat, (tag b ≠ 25 ∨ j ≠ 3) → (tag b ≠ 25 ∨ j ≠ 4) → fld F b j = fld Fo b j) ∧ EF tag F Fo := ⟨fun b j n25_3 n25_4 => (yz56617.1 b j n25_3 n25_4).trans (hfr.1 b j n25_3 n25_4), fun b j hb => (yz56617.2 b j hb).trans (hfr.2 b j hb)⟩
      obtain ⟨z56618, qz56618, rz56618⟩ := xz56617_0
      refine lv_goto (tgt := 85) hx hb dX3_checkLine_43 (by decide) ?_
      exact t_vret hQ X hT hfr (Nat.le_of_ble_eq_true rfl) (Nat.le_of_ble_eq_true rfl) dX3_checkLine_85
  · have w56619 := cv_ne (rfl : z56577.toInt = z56577.toInt) (by decide : (0 : Int32).toInt = 0) c56578
    refine lv_aload_n hx hb dX3_checkLine_8 rfl (lv_at hl 0 rfl) ?_
    refine lv_iconst (v := 3) hx hb dX3_checkLine_9 (by decide) ?_
    refine lv_aload_n hx hb dX3_checkLine_10 rfl (lv_at hl 0 rfl) ?_
    refine t_get (C := RX3) (T := TX3) (N := 13) X hT m0 g0 rfl rfl 0 (by decide) qw_73 inlX3 rfl dX3_checkLine_11 (fun v56620 hv56620 ov56620 => ?_)
    obtain rfl : v56620 = .ref x0 := hv56620.symm.trans pf0
    refine t_get (C := RX8) (T := TX8) (N := 8) X hT mx0 gx0 rfl rfl 4 (by decide) qw_227 inlX8 rfl dX3_checkLine_14 (fun v56621 hv56621 ov56621 => ?_)
    obtain ⟨z56622, rfl, rz56622⟩ := okV_i ov56621
    refine t_cVv (n := 2) (C := RX3) (T := TX3) (N := 13) (As := [.int 3, .int z56622]) (rest := []) X hT (kt156_X3_fail l G tag L F hT.2.2.2 p0 3 z56622 m0 g0 (by decide)) m0 g0 rfl rfl qw_287 qw_288 qw_289 qw_28 qw_290 ⟨rfl, by decide +kernel, by decide +kernel, by decide +kernel⟩ ⟨Nat.le_of_ble_eq_true rfl, Nat.le_of_ble_eq_true rfl⟩ hl rfl rfl (Nat.le_of_ble_eq_true rfl) dX3_checkLine_17 ⟨Nat.le_of_ble_eq_true rfl, Nat.le_of_ble_eq_true rfl⟩ (fun F H locs hT hz56623 => ?_)
    obtain ⟨yz56623, xz56623_0⟩ := hz56623
    have pf0 := (yz56623.1 _ 0 (Or.inr (by decide)) (Or.inr (by decide))).trans pf0
    have pf1 := (yz56623.1 _ 1 (Or.inr (by decide)) (Or.inr (by decide))).trans pf1
    have pf2 := (yz56623.1 _ 2 (Or.inr (by decide)) (Or.inr (by decide))).trans pf2
    have pf3 := (yz56623.1 _ 0 (Or.inr (by decide)) (Or.inr (by decide))).trans pf3
    have pf4 := (yz56623.1 _ 10 (Or.inr (by decide)) (Or.inr (by decide))).trans pf4
    have pf5 := (yz56623.1 _ 11 (Or.inr (by decide)) (Or.inr (by decide))).trans pf5
    have hv56621 := (yz56623.1 _ 4 (Or.inr (by decide)) (Or.inl (by rw [gx0]; decide))).trans hv56621
    have hfr : (∀ b j : Nat, (tag b ≠ 25 ∨ j ≠ 3) → (tag b ≠ 25 ∨ j ≠ 4) → fld F b j = fld Fo b j) ∧ EF tag F Fo := ⟨fun b j n25_3 n25_4 => (yz56623.1 b j n25_3 n25_4).trans (hfr.1 b j n25_3 n25_4), fun b j hb => (yz56623.2 b j hb).trans (hfr.2 b j hb)⟩
    obtain ⟨z56624, qz56624, rz56624⟩ := xz56623_0
    refine lv_goto (tgt := 85) hx hb dX3_checkLine_20 (by decide) ?_
    exact t_vret hQ X hT hfr (Nat.le_of_ble_eq_true rfl) (Nat.le_of_ble_eq_true rfl) dX3_checkLine_85
set_option maxHeartbeats 4000000 in
set_option maxRecDepth 100000 in
theorem kt158_X3_choice (l : Launch) (G : KG) (tag : Nat → Nat) (L : List Nat) (Fo : Nat → va_E) (ho : okT G ttC tag L Fo) (p0 : Nat) (p1 : Nat) (p2 : Nat) (p3 : Nat) (p4 : Nat) (x0 : Nat) (x1 : Nat) (x2 : Nat) (x3 : Nat) (x4 : Nat) (x5 : Nat) (m0 : p0 ∈ L) (g0 : tag p0 = 25) (h1 : p1 < 77) (h2 : p2 < 77) (h3 : p3 < 77) (h4 : p4 < 77) (mx0 : x0 ∈ L) (gx0 : tag x0 = 24) (pf0 : fld Fo p0 0 = .ref x0) (mx1 : x1 ∈ L) (gx1 : tag x1 = 18) (pf1 : fld Fo p0 1 = .ref x1) (mx2 : x2 ∈ L) (gx2 : tag x2 = 19) (pf2 : fld Fo p0 2 = .ref x2) (mx3 : x3 ∈ L) (gx3 : tag x3 = 1) (pf3 : fld Fo x0 0 = .ref x3) (mx4 : x4 ∈ L) (gx4 : tag x4 = 14) (pf4 : fld Fo p0 10 = .ref x4) (mx5 : x5 ∈ L) (gx5 : tag x5 = 15) (pf5 : fld Fo p0 11 = .ref x5) : TMi l yX3_choice cX3_choice 6 (some .int) { frames := 5, cells := 0, slots := 0, locals := 108 } G ttC tag L Fo [.ref p0, .ref (G.2 (100 + p1)), .ref (G.2 (100 + p2)), .ref (G.2 (100 + p3)), .ref (G.2 (100 + p4))] (fun r F1 => ((-1) ≤ r.toInt ∧ r.toInt ≤ 3) ∧ ((∀ b j : Nat, (tag b ≠ 24 ∨ j ≠ 2) → (tag b ≠ 24 ∨ j ≠ 3) → (tag b ≠ 24 ∨ j ≠ 4) → (tag b ≠ 24 ∨ j ≠ 5) → (tag b ≠ 24 ∨ j ≠ 6) → (tag b ≠ 24 ∨ j ≠ 7) → (tag b ≠ 25 ∨ j ≠ 3) → (tag b ≠ 25 ∨ j ≠ 4) → fld F1 b j = fld Fo b j) ∧ EF tag F1 Fo)) := by
  refine t_bodyi (y := yX3_choice) (cd := cX3_choice) (mL := 6) (rt := (some .int)) (rm := { frames := 5, cells := 0, slots := 0, locals := 108 }) (av := [.ref p0, .ref (G.2 (100 + p1)), .ref (G.2 (100 + p2)), .ref (G.2 (100 + p3)), .ref (G.2 (100 + p4))]) (by decide) (Nat.le_of_ble_eq_true rfl) ho ?_
  intro p e s m args below meth c ls A Q hQ X hT hl
  have hx := X.1.1
  have hb := X.1.2.1
  have hl : lv_has ls 6 [(0, .ref p0), (1, .ref (G.2 (100 + p1))), (2, .ref (G.2 (100 + p2))), (3, .ref (G.2 (100 + p3))), (4, .ref (G.2 (100 + p4)))] := hl
  obtain ⟨F, hFo⟩ : ∃ F : Nat → va_E, F = Fo := ⟨_, rfl⟩
  rw [← hFo] at hT pf0 pf1 pf2 pf3 pf4 pf5
  have hfr : (∀ b j : Nat, (tag b ≠ 24 ∨ j ≠ 2) → (tag b ≠ 24 ∨ j ≠ 3) → (tag b ≠ 24 ∨ j ≠ 4) → (tag b ≠ 24 ∨ j ≠ 5) → (tag b ≠ 24 ∨ j ≠ 6) → (tag b ≠ 24 ∨ j ≠ 7) → (tag b ≠ 25 ∨ j ≠ 3) → (tag b ≠ 25 ∨ j ≠ 4) → fld F b j = fld Fo b j) ∧ EF tag F Fo := by
    rw [hFo]
    exact ⟨by intros; rfl, fun _ _ _ => rfl⟩
  have K82 : ∀ (z57179 : Int32) (F : Nat → va_E) (H : Heap) (locs : List Loc) (ls : Array Slot), ((-1) ≤ z57179.toInt ∧ z57179.toInt ≤ 3) → TH G ttC A s tag L F H locs → ((∀ b j : Nat, (tag b ≠ 24 ∨ j ≠ 2) → (tag b ≠ 24 ∨ j ≠ 3) → (tag b ≠ 24 ∨ j ≠ 4) → (tag b ≠ 24 ∨ j ≠ 5) → (tag b ≠ 24 ∨ j ≠ 6) → (tag b ≠ 24 ∨ j ≠ 7) → (tag b ≠ 25 ∨ j ≠ 3) → (tag b ≠ 25 ∨ j ≠ 4) → fld F b j = fld Fo b j) ∧ EF tag F Fo) → fld F p0 0 = .ref x0 → fld F p0 1 = .ref x1 → fld F p0 2 = .ref x2 → fld F x0 0 = .ref x3 → fld F p0 10 = .ref x4 → fld F p0 11 = .ref x5 → lv_has ls 6 [(0, .ref p0), (1, .ref (G.2 (100 + p1))), (2, .ref (G.2 (100 + p2))), (3, .ref (G.2 (100 + p3))), (4, .ref (G.2 (100 + p4))), (5, .int z57179)] → W p l e { frames := 5, cells := 0, slots := 0, locals := 108 } s m args below meth c H locs 0 0 Q (F0 m 82 ls []) := by
    intro z57179 F H locs ls rz57179 hT hfr pf0 pf1 pf2 pf3 pf4 pf5 hl
    refine lv_aload_n hx hb dX3_choice_82 rfl (lv_at hl 0 rfl) ?_
    refine t_get (C := RX3) (T := TX3) (N := 13) X hT m0 g0 rfl rfl 3 (by decide) qw_163 inlX3 rfl dX3_choice_83 (fun v57180 hv57180 ov57180 => ?_)
    obtain ⟨z57181, rfl, rz57181⟩ := okV_i ov57180
    refine lv_if_eq (tgt := 91) hx hb dX3_choice_86 (by decide) (fun c57182 => ?_) (fun c57182 => ?_)
    · have w57183 := cv_eq (rfl : z57181.toInt = z57181.toInt) (by decide : (0 : Int32).toInt = 0) c57182
      refine lv_aload_n hx hb dX3_choice_91 rfl (lv_at hl 0 rfl) ?_
      refine t_get (C := RX3) (T := TX3) (N := 13) X hT m0 g0 rfl rfl 0 (by decide) qw_73 inlX3 rfl dX3_choice_92 (fun v57184 hv57184 ov57184 => ?_)
      obtain rfl : v57184 = .ref x0 := hv57184.symm.trans pf0
      refine t_cVv (n := 0) (C := RX8) (T := TX8) (N := 8) (As := []) (rest := []) X hT (kt98_X8_advance l G tag L F hT.2.2.2 x0 x3 mx0 gx0 mx3 gx3 pf3) mx0 gx0 rfl rfl qw_305 qw_197 qw_198 qw_72 qw_199 ⟨rfl, by decide +kernel, by decide +kernel, by decide +kernel⟩ ⟨Nat.le_of_ble_eq_true rfl, Nat.le_of_ble_eq_true rfl⟩ hl rfl rfl (Nat.le_of_ble_eq_true rfl) dX3_choice_95 ⟨Nat.le_of_ble_eq_true rfl, Nat.le_of_ble_eq_true rfl⟩ (fun F H locs hT hz57185 => ?_)
      have yz57185 := hz57185
      have pf0 := (yz57185.1 _ 0 (Or.inr (by decide)) (Or.inr (by decide)) (Or.inr (by decide)) (Or.inr (by decide)) (Or.inr (by decide)) (Or.inr (by decide))).trans pf0
      have pf1 := (yz57185.1 _ 1 (Or.inr (by decide)) (Or.inr (by decide)) (Or.inr (by decide)) (Or.inr (by decide)) (Or.inr (by decide)) (Or.inr (by decide))).trans pf1
      have pf2 := (yz57185.1 _ 2 (Or.inl (by rw [g0]; decide)) (Or.inr (by decide)) (Or.inr (by decide)) (Or.inr (by decide)) (Or.inr (by decide)) (Or.inr (by decide))).trans pf2
      have pf3 := (yz57185.1 _ 0 (Or.inr (by decide)) (Or.inr (by decide)) (Or.inr (by decide)) (Or.inr (by decide)) (Or.inr (by decide)) (Or.inr (by decide))).trans pf3
      have pf4 := (yz57185.1 _ 10 (Or.inr (by decide)) (Or.inr (by decide)) (Or.inr (by decide)) (Or.inr (by decide)) (Or.inr (by decide)) (Or.inr (by decide))).trans pf4
      have pf5 := (yz57185.1 _ 11 (Or.inr (by decide)) (Or.inr (by decide)) (Or.inr (by decide)) (Or.inr (by decide)) (Or.inr (by decide)) (Or.inr (by decide))).trans pf5
      have hv57180 := (yz57185.1 _ 3 (Or.inr (by decide)) (Or.inl (by rw [g0]; decide)) (Or.inr (by decide)) (Or.inr (by decide)) (Or.inr (by decide)) (Or.inr (by decide))).trans hv57180
      have hfr : (∀ b j : Nat, (tag b ≠ 24 ∨ j ≠ 2) → (tag b ≠ 24 ∨ j ≠ 3) → (tag b ≠ 24 ∨ j ≠ 4) → (tag b ≠ 24 ∨ j ≠ 5) → (tag b ≠ 24 ∨ j ≠ 6) → (tag b ≠ 24 ∨ j ≠ 7) → (tag b ≠ 25 ∨ j ≠ 3) → (tag b ≠ 25 ∨ j ≠ 4) → fld F b j = fld Fo b j) ∧ EF tag F Fo := ⟨fun b j n24_2 n24_3 n24_4 n24_5 n24_6 n24_7 n25_3 n25_4 => (yz57185.1 b j n24_2 n24_3 n24_4 n24_5 n24_6 n24_7).trans (hfr.1 b j n24_2 n24_3 n24_4 n24_5 n24_6 n24_7 n25_3 n25_4), fun b j hb => (yz57185.2 b j hb).trans (hfr.2 b j hb)⟩
      refine lv_iload hx hb dX3_choice_98 (lv_at hl 5 rfl) ?_
      exact t_iret hQ X hT (⟨(by omega), hfr⟩) (Nat.le_of_ble_eq_true rfl) (Nat.le_of_ble_eq_true rfl) dX3_choice_100
    · have w57186 := cv_ne (rfl : z57181.toInt = z57181.toInt) (by decide : (0 : Int32).toInt = 0) c57182
      refine lv_iconst (v := 0) hx hb dX3_choice_89 (by decide) ?_
      exact t_iret hQ X hT (⟨(by decide), hfr⟩) (Nat.le_of_ble_eq_true rfl) (Nat.le_of_ble_eq_true rfl) dX3_choice_90
  have K62 : ∀ (z57187 : Int32) (F : Nat → va_E) (H : Heap) (locs : List Loc) (ls : Array Slot), ((-1) ≤ z57187.toInt ∧ z57187.toInt ≤ 3) → TH G ttC A s tag L F H locs → ((∀ b j : Nat, (tag b ≠ 24 ∨ j ≠ 2) → (tag b ≠ 24 ∨ j ≠ 3) → (tag b ≠ 24 ∨ j ≠ 4) → (tag b ≠ 24 ∨ j ≠ 5) → (tag b ≠ 24 ∨ j ≠ 6) → (tag b ≠ 24 ∨ j ≠ 7) → (tag b ≠ 25 ∨ j ≠ 3) → (tag b ≠ 25 ∨ j ≠ 4) → fld F b j = fld Fo b j) ∧ EF tag F Fo) → fld F p0 0 = .ref x0 → fld F p0 1 = .ref x1 → fld F p0 2 = .ref x2 → fld F x0 0 = .ref x3 → fld F p0 10 = .ref x4 → fld F p0 11 = .ref x5 → lv_has ls 6 [(0, .ref p0), (1, .ref (G.2 (100 + p1))), (2, .ref (G.2 (100 + p2))), (3, .ref (G.2 (100 + p3))), (4, .ref (G.2 (100 + p4)))] → W p l e { frames := 5, cells := 0, slots := 0, locals := 108 } s m args below meth c H locs 0 0 Q (F0 m 62 ls [.int z57187]) := by
    intro z57187 F H locs ls rz57187 hT hfr pf0 pf1 pf2 pf3 pf4 pf5 hl
    refine lv_istore (lv' := [(5, .int z57187), (0, .ref p0), (1, .ref (G.2 (100 + p1))), (2, .ref (G.2 (100 + p2))), (3, .ref (G.2 (100 + p3))), (4, .ref (G.2 (100 + p4)))]) hx hb dX3_choice_62 hl (by decide) rfl (fun ls hl => ?_)
    refine lv_iload hx hb dX3_choice_64 (lv_at hl 0 rfl) ?_
    refine lv_iconst (v := (-1)) hx hb dX3_choice_66 (by decide) ?_
    refine lv_icmp_ne (tgt := 82) hx hb dX3_choice_67 (by decide) (fun c57188 => ?_) (fun c57188 => ?_)
    · have w57189 := cv_ne (rfl : z57187.toInt = z57187.toInt) (by decide : ((-1) : Int32).toInt = (-1)) c57188
      exact K82 z57187 _ _ _ _ (by omega) hT hfr pf0 pf1 pf2 pf3 pf4 pf5 (lv_sub hl [1, 2, 3, 4, 5, 0] rfl)
    · have w57190 := cv_eq (rfl : z57187.toInt = z57187.toInt) (by decide : ((-1) : Int32).toInt = (-1)) c57188
      refine lv_aload_n hx hb dX3_choice_70 rfl (lv_at hl 1 rfl) ?_
      refine lv_iconst (v := 1) hx hb dX3_choice_71 (by decide) ?_
      refine lv_aload_n hx hb dX3_choice_72 rfl (lv_at hl 1 rfl) ?_
      refine t_get (C := RX3) (T := TX3) (N := 13) X hT m0 g0 rfl rfl 0 (by decide) qw_73 inlX3 rfl dX3_choice_73 (fun v57191 hv57191 ov57191 => ?_)
      obtain rfl : v57191 = .ref x0 := hv57191.symm.trans pf0
      refine t_get (C := RX8) (T := TX8) (N := 8) X hT mx0 gx0 rfl rfl 4 (by decide) qw_227 inlX8 rfl dX3_choice_76 (fun v57192 hv57192 ov57192 => ?_)
      obtain ⟨z57193, rfl, rz57193⟩ := okV_i ov57192
      refine t_cVv (n := 2) (C := RX3) (T := TX3) (N := 13) (As := [.int 1, .int z57193]) (rest := []) X hT (kt156_X3_fail l G tag L F hT.2.2.2 p0 1 z57193 m0 g0 (by decide)) m0 g0 rfl rfl qw_287 qw_288 qw_289 qw_28 qw_290 ⟨rfl, by decide +kernel, by decide +kernel, by decide +kernel⟩ ⟨Nat.le_of_ble_eq_true rfl, Nat.le_of_ble_eq_true rfl⟩ hl rfl rfl (Nat.le_of_ble_eq_true rfl) dX3_choice_79 ⟨Nat.le_of_ble_eq_true rfl, Nat.le_of_ble_eq_true rfl⟩ (fun F H locs hT hz57194 => ?_)
      obtain ⟨yz57194, xz57194_0⟩ := hz57194
      have pf0 := (yz57194.1 _ 0 (Or.inr (by decide)) (Or.inr (by decide))).trans pf0
      have pf1 := (yz57194.1 _ 1 (Or.inr (by decide)) (Or.inr (by decide))).trans pf1
      have pf2 := (yz57194.1 _ 2 (Or.inr (by decide)) (Or.inr (by decide))).trans pf2
      have pf3 := (yz57194.1 _ 0 (Or.inr (by decide)) (Or.inr (by decide))).trans pf3
      have pf4 := (yz57194.1 _ 10 (Or.inr (by decide)) (Or.inr (by decide))).trans pf4
      have pf5 := (yz57194.1 _ 11 (Or.inr (by decide)) (Or.inr (by decide))).trans pf5
      have hv57192 := (yz57194.1 _ 4 (Or.inr (by decide)) (Or.inl (by rw [gx0]; decide))).trans hv57192
      have hfr : (∀ b j : Nat, (tag b ≠ 24 ∨ j ≠ 2) → (tag b ≠ 24 ∨ j ≠ 3) → (tag b ≠ 24 ∨ j ≠ 4) → (tag b ≠ 24 ∨ j ≠ 5) → (tag b ≠ 24 ∨ j ≠ 6) → (tag b ≠ 24 ∨ j ≠ 7) → (tag b ≠ 25 ∨ j ≠ 3) → (tag b ≠ 25 ∨ j ≠ 4) → fld F b j = fld Fo b j) ∧ EF tag F Fo := ⟨fun b j n24_2 n24_3 n24_4 n24_5 n24_6 n24_7 n25_3 n25_4 => (yz57194.1 b j n25_3 n25_4).trans (hfr.1 b j n24_2 n24_3 n24_4 n24_5 n24_6 n24_7 n25_3 n25_4), fun b j hb => (yz57194.2 b j hb).trans (hfr.2 b j hb)⟩
      obtain ⟨z57195, qz57195, rz57195⟩ := xz57194_0
      exact K82 z57187 _ _ _ _ (by omega) hT hfr pf0 pf1 pf2 pf3 pf4 pf5 (lv_sub hl [1, 2, 3, 4, 5, 0] rfl)
  refine lv_aload_n hx hb dX3_choice_0 rfl (lv_at hl 0 rfl) ?_
  refine t_get (C := RX3) (T := TX3) (N := 13) X hT m0 g0 rfl rfl 0 (by decide) qw_73 inlX3 rfl dX3_choice_1 (fun v57196 hv57196 ov57196 => ?_)
  obtain rfl : v57196 = .ref x0 := hv57196.symm.trans pf0
  refine lv_aload_n hx hb dX3_choice_4 rfl (lv_at hl 1 rfl) ?_
  refine t_cVi (n := 1) (C := RX8) (T := TX8) (N := 8) (As := [.ref (G.2 (100 + p1))]) (rest := []) X hT (kt107_X8_isWord l G tag L F hT.2.2.2 x0 p1 x3 mx0 gx0 h1 mx3 gx3 pf3) mx0 gx0 rfl rfl qw_234 qw_235 qw_236 qw_72 qw_237 ⟨rfl, by decide +kernel, by decide +kernel, by decide +kernel⟩ ⟨Nat.le_of_ble_eq_true rfl, Nat.le_of_ble_eq_true rfl⟩ hl rfl rfl (Nat.le_of_ble_eq_true rfl) dX3_choice_5 ⟨Nat.le_of_ble_eq_true rfl, Nat.le_of_ble_eq_true rfl⟩ (fun z57197 F9 H locs hT hz57197 => ?_)
  obtain ⟨fz57197, hz57197⟩ := hz57197
  rw [fz57197] at hT
  refine lv_if_eq (tgt := 15) hx hb dX3_choice_8 (by decide) (fun c57198 => ?_) (fun c57198 => ?_)
  · have w57199 := cv_eq (rfl : z57197.toInt = z57197.toInt) (by decide : (0 : Int32).toInt = 0) c57198
    refine lv_aload_n hx hb dX3_choice_15 rfl (lv_at hl 0 rfl) ?_
    refine t_get (C := RX3) (T := TX3) (N := 13) X hT m0 g0 rfl rfl 0 (by decide) qw_73 inlX3 rfl dX3_choice_16 (fun v57200 hv57200 ov57200 => ?_)
    obtain rfl : v57200 = .ref x0 := hv57200.symm.trans pf0
    refine lv_aload_n hx hb dX3_choice_19 rfl (lv_at hl 2 rfl) ?_
    refine t_cVi (n := 1) (C := RX8) (T := TX8) (N := 8) (As := [.ref (G.2 (100 + p2))]) (rest := []) X hT (kt107_X8_isWord l G tag L F hT.2.2.2 x0 p2 x3 mx0 gx0 h2 mx3 gx3 pf3) mx0 gx0 rfl rfl qw_234 qw_235 qw_236 qw_72 qw_237 ⟨rfl, by decide +kernel, by decide +kernel, by decide +kernel⟩ ⟨Nat.le_of_ble_eq_true rfl, Nat.le_of_ble_eq_true rfl⟩ hl rfl rfl (Nat.le_of_ble_eq_true rfl) dX3_choice_20 ⟨Nat.le_of_ble_eq_true rfl, Nat.le_of_ble_eq_true rfl⟩ (fun z57201 F9 H locs hT hz57201 => ?_)
    obtain ⟨fz57201, hz57201⟩ := hz57201
    rw [fz57201] at hT
    refine lv_if_eq (tgt := 30) hx hb dX3_choice_23 (by decide) (fun c57202 => ?_) (fun c57202 => ?_)
    · have w57203 := cv_eq (rfl : z57201.toInt = z57201.toInt) (by decide : (0 : Int32).toInt = 0) c57202
      refine lv_aload_n hx hb dX3_choice_30 rfl (lv_at hl 0 rfl) ?_
      refine t_get (C := RX3) (T := TX3) (N := 13) X hT m0 g0 rfl rfl 0 (by decide) qw_73 inlX3 rfl dX3_choice_31 (fun v57204 hv57204 ov57204 => ?_)
      obtain rfl : v57204 = .ref x0 := hv57204.symm.trans pf0
      refine lv_aload_n hx hb dX3_choice_34 rfl (lv_at hl 3 rfl) ?_
      refine t_cVi (n := 1) (C := RX8) (T := TX8) (N := 8) (As := [.ref (G.2 (100 + p3))]) (rest := []) X hT (kt107_X8_isWord l G tag L F hT.2.2.2 x0 p3 x3 mx0 gx0 h3 mx3 gx3 pf3) mx0 gx0 rfl rfl qw_234 qw_235 qw_236 qw_72 qw_237 ⟨rfl, by decide +kernel, by decide +kernel, by decide +kernel⟩ ⟨Nat.le_of_ble_eq_true rfl, Nat.le_of_ble_eq_true rfl⟩ hl rfl rfl (Nat.le_of_ble_eq_true rfl) dX3_choice_35 ⟨Nat.le_of_ble_eq_true rfl, Nat.le_of_ble_eq_true rfl⟩ (fun z57205 F9 H locs hT hz57205 => ?_)
      obtain ⟨fz57205, hz57205⟩ := hz57205
      rw [fz57205] at hT
      refine lv_if_eq (tgt := 45) hx hb dX3_choice_38 (by decide) (fun c57206 => ?_) (fun c57206 => ?_)
      · have w57207 := cv_eq (rfl : z57205.toInt = z57205.toInt) (by decide : (0 : Int32).toInt = 0) c57206
        refine lv_aload_n hx hb dX3_choice_45 rfl (lv_at hl 0 rfl) ?_
        refine t_get (C := RX3) (T := TX3) (N := 13) X hT m0 g0 rfl rfl 0 (by decide) qw_73 inlX3 rfl dX3_choice_46 (fun v57208 hv57208 ov57208 => ?_)
        obtain rfl : v57208 = .ref x0 := hv57208.symm.trans pf0
        refine lv_aload hx hb dX3_choice_49 (lv_at hl 4 rfl) ?_
        refine t_cVi (n := 1) (C := RX8) (T := TX8) (N := 8) (As := [.ref (G.2 (100 + p4))]) (rest := []) X hT (kt107_X8_isWord l G tag L F hT.2.2.2 x0 p4 x3 mx0 gx0 h4 mx3 gx3 pf3) mx0 gx0 rfl rfl qw_234 qw_235 qw_236 qw_72 qw_237 ⟨rfl, by decide +kernel, by decide +kernel, by decide +kernel⟩ ⟨Nat.le_of_ble_eq_true rfl, Nat.le_of_ble_eq_true rfl⟩ hl rfl rfl (Nat.le_of_ble_eq_true rfl) dX3_choice_51 ⟨Nat.le_of_ble_eq_true rfl, Nat.le_of_ble_eq_true rfl⟩ (fun z57209 F9 H locs hT hz57209 => ?_)
        obtain ⟨fz57209, hz57209⟩ := hz57209
        rw [fz57209] at hT
        refine lv_if_eq (tgt := 61) hx hb dX3_choice_54 (by decide) (fun c57210 => ?_) (fun c57210 => ?_)
        · have w57211 := cv_eq (rfl : z57209.toInt = z57209.toInt) (by decide : (0 : Int32).toInt = 0) c57210
          refine lv_iconst (v := (-1)) hx hb dX3_choice_61 (by decide) ?_
          exact K62 (-1) _ _ _ _ (by decide) hT hfr pf0 pf1 pf2 pf3 pf4 pf5 (lv_sub hl [0, 1, 2, 3, 4] rfl)
        · have w57212 := cv_ne (rfl : z57209.toInt = z57209.toInt) (by decide : (0 : Int32).toInt = 0) c57210
          refine lv_iconst (v := 3) hx hb dX3_choice_57 (by decide) ?_
          refine lv_goto (tgt := 62) hx hb dX3_choice_58 (by decide) ?_
          exact K62 3 _ _ _ _ (by decide) hT hfr pf0 pf1 pf2 pf3 pf4 pf5 (lv_sub hl [0, 1, 2, 3, 4] rfl)
      · have w57213 := cv_ne (rfl : z57205.toInt = z57205.toInt) (by decide : (0 : Int32).toInt = 0) c57206
        refine lv_iconst (v := 2) hx hb dX3_choice_41 (by decide) ?_
        refine lv_goto (tgt := 62) hx hb dX3_choice_42 (by decide) ?_
        exact K62 2 _ _ _ _ (by decide) hT hfr pf0 pf1 pf2 pf3 pf4 pf5 (lv_sub hl [0, 1, 2, 3, 4] rfl)
    · have w57214 := cv_ne (rfl : z57201.toInt = z57201.toInt) (by decide : (0 : Int32).toInt = 0) c57202
      refine lv_iconst (v := 1) hx hb dX3_choice_26 (by decide) ?_
      refine lv_goto (tgt := 62) hx hb dX3_choice_27 (by decide) ?_
      exact K62 1 _ _ _ _ (by decide) hT hfr pf0 pf1 pf2 pf3 pf4 pf5 (lv_sub hl [0, 1, 2, 3, 4] rfl)
  · have w57215 := cv_ne (rfl : z57197.toInt = z57197.toInt) (by decide : (0 : Int32).toInt = 0) c57198
    refine lv_iconst (v := 0) hx hb dX3_choice_11 (by decide) ?_
    refine lv_goto (tgt := 62) hx hb dX3_choice_12 (by decide) ?_
    exact K62 0 _ _ _ _ (by decide) hT hfr pf0 pf1 pf2 pf3 pf4 pf5 (lv_sub hl [0, 1, 2, 3, 4] rfl)
set_option maxHeartbeats 4000000 in
set_option maxRecDepth 100000 in
theorem kt159_X3_findName (l : Launch) (G : KG) (tag : Nat → Nat) (L : List Nat) (F : Nat → va_E) (ho : okT G ttC tag L F) (p0 : Nat) (x0 : Nat) (x1 : Nat) (x2 : Nat) (x3 : Nat) (x4 : Nat) (x5 : Nat) (m0 : p0 ∈ L) (g0 : tag p0 = 25) (mx0 : x0 ∈ L) (gx0 : tag x0 = 24) (pf0 : fld F p0 0 = .ref x0) (mx1 : x1 ∈ L) (gx1 : tag x1 = 18) (pf1 : fld F p0 1 = .ref x1) (mx2 : x2 ∈ L) (gx2 : tag x2 = 19) (pf2 : fld F p0 2 = .ref x2) (mx3 : x3 ∈ L) (gx3 : tag x3 = 1) (pf3 : fld F x0 0 = .ref x3) (mx4 : x4 ∈ L) (gx4 : tag x4 = 14) (pf4 : fld F p0 10 = .ref x4) (mx5 : x5 ∈ L) (gx5 : tag x5 = 15) (pf5 : fld F p0 11 = .ref x5) : TMi l yX3_findName cX3_findName 2 (some .int) { frames := 0, cells := 0, slots := 0, locals := 0 } G ttC tag L F [.ref p0] (fun r F1 => F1 = F ∧ ((-1) ≤ r.toInt ∧ r.toInt ≤ 19)) := by
  refine t_bodyi (y := yX3_findName) (cd := cX3_findName) (mL := 2) (rt := (some .int)) (rm := { frames := 0, cells := 0, slots := 0, locals := 0 }) (av := [.ref p0]) (by decide) (Nat.le_of_ble_eq_true rfl) ho ?_
  intro p e s m args below meth c ls A Q hQ X hT hl
  have hx := X.1.1
  have hb := X.1.2.1
  have hl : lv_has ls 2 [(0, .ref p0)] := hl
  have K2 : ∀ (n : Nat) (z58108 : Int32) (H : Heap) (locs : List Loc) (ls : Array Slot), (20 - z58108.toInt < (n : Int)) → (0 ≤ z58108.toInt ∧ z58108.toInt ≤ 20) → TH G ttC A s tag L F H locs → lv_has ls 2 [(0, .ref p0), (1, .int z58108)] → W p l e { frames := 0, cells := 0, slots := 0, locals := 0 } s m args below meth c H locs 0 0 Q (F0 m 2 ls []) := by
    intro n
    induction n with
    | zero =>
      intro z58108 H locs ls hn rz58108 hT hl
      exfalso
      omega
    | succ n ih2 =>
      intro z58108 H locs ls hn rz58108 hT hl
      have K40 : ∀ (z58110 : Int32) (H : Heap) (locs : List Loc) (ls : Array Slot), (1 ≤ z58110.toInt ∧ z58110.toInt ≤ 20) → (0 ≤ z58108.toInt ∧ z58108.toInt ≤ 19) → TH G ttC A s tag L F H locs → fld F p0 12 = .int z58110 → lv_has ls 2 [(0, .ref p0), (1, .int z58108)] → W p l e { frames := 0, cells := 0, slots := 0, locals := 0 } s m args below meth c H locs 0 0 Q (F0 m 40 ls []) := by
        intro z58110 H locs ls rz58110 r9s58109 hT qz58110 hl
        obtain ⟨z58111, ez58111⟩ : ∃ y : Int32, y = z58108 + 1 := ⟨_, rfl⟩
        have hz58111 : z58111.toInt = z58108.toInt + 1 := ar_add ez58111 rfl (by decide : (1 : Int32).toInt = 1) (by omega) (by omega)
        refine lv_iinc (v := z58111) (lv' := [(1, .int z58111), (0, .ref p0)]) hx hb dX3_findName_40 hl (k := 1) rfl (by rw [ez58111]; rfl) (by decide) rfl (fun ls hl => ?_)
        refine lv_goto (tgt := 2) hx hb dX3_findName_43 (by decide) ?_
        exact ih2 z58111 _ _ _ (by omega) (by omega) hT  (lv_sub hl [1, 0] rfl)
      refine lv_iload_n hx hb dX3_findName_2 rfl (lv_at hl 1 rfl) ?_
      refine lv_aload_n hx hb dX3_findName_3 rfl (lv_at hl 0 rfl) ?_
      refine t_get (C := RX3) (T := TX3) (N := 13) X hT m0 g0 rfl rfl 12 (by decide) qw_169 inlX3 rfl dX3_findName_4 (fun v58112 hv58112 ov58112 => ?_)
      obtain ⟨z58113, rfl, rz58113⟩ := okV_i ov58112
      refine lv_icmp_ge (tgt := 46) hx hb dX3_findName_7 (by decide) (fun c58114 => ?_) (fun c58114 => ?_)
      · have w58115 := cv_le (rfl : z58113.toInt = z58113.toInt) (rfl : z58108.toInt = z58108.toInt) c58114
        refine lv_iconst (v := (-1)) hx hb dX3_findName_46 (by decide) ?_
        exact t_iret hQ X hT (⟨rfl, (by decide)⟩) (Nat.le_of_ble_eq_true rfl) (Nat.le_of_ble_eq_true rfl) dX3_findName_47
      · have w58116 := cv_nle (rfl : z58113.toInt = z58113.toInt) (rfl : z58108.toInt = z58108.toInt) c58114
        refine lv_aload_n hx hb dX3_findName_10 rfl (lv_at hl 0 rfl) ?_
        refine t_get (C := RX3) (T := TX3) (N := 13) X hT m0 g0 rfl rfl 0 (by decide) qw_73 inlX3 rfl dX3_findName_11 (fun v58117 hv58117 ov58117 => ?_)
        obtain rfl : v58117 = .ref x0 := hv58117.symm.trans pf0
        refine t_get (C := RX8) (T := TX8) (N := 8) X hT mx0 gx0 rfl rfl 3 (by decide) qw_170 inlX8 rfl dX3_findName_14 (fun v58118 hv58118 ov58118 => ?_)
        obtain ⟨z58119, rfl, rz58119⟩ := okV_i ov58118
        refine lv_iconst (v := 1) hx hb dX3_findName_17 (by decide) ?_
        refine lv_icmp_ne (tgt := 40) hx hb dX3_findName_18 (by decide) (fun c58120 => ?_) (fun c58120 => ?_)
        · have w58121 := cv_ne (rfl : z58119.toInt = z58119.toInt) (by decide : (1 : Int32).toInt = 1) c58120
          exact K40 z58113 _ _ _ (by omega) (by omega) hT hv58112 (lv_sub hl [0, 1] rfl)
        · have w58122 := cv_eq (rfl : z58119.toInt = z58119.toInt) (by decide : (1 : Int32).toInt = 1) c58120
          refine lv_aload_n hx hb dX3_findName_21 rfl (lv_at hl 0 rfl) ?_
          refine t_get (C := RX3) (T := TX3) (N := 13) X hT m0 g0 rfl rfl 9 (by decide) qw_74 inlX3 rfl dX3_findName_22 (fun v58123 hv58123 ov58123 => ?_)
          obtain ⟨b58124, rfl, mb58124, gb58124⟩ := okV_r ov58123
          have gb58124 : tag b58124 = 13 := tg_of gb58124
          refine lv_iload_n hx hb dX3_findName_25 rfl (lv_at hl 1 rfl) ?_
          refine t_lld X hT mb58124 gb58124 rfl (by omega) dX3_findName_26 (fun z58125 => ?_)
          refine lv_aload_n hx hb dX3_findName_27 rfl (lv_at hl 0 rfl) ?_
          refine t_get (C := RX3) (T := TX3) (N := 13) X hT m0 g0 rfl rfl 0 (by decide) qw_73 inlX3 rfl dX3_findName_28 (fun v58126 hv58126 ov58126 => ?_)
          obtain rfl : v58126 = .ref x0 := hv58126.symm.trans pf0
          refine t_get (C := RX8) (T := TX8) (N := 8) X hT mx0 gx0 rfl rfl 7 (by decide) qw_360 inlX8 rfl dX3_findName_31 (fun v58127 hv58127 ov58127 => ?_)
          obtain ⟨z58128, rfl⟩ := ov58127
          refine m_lcmp X dX3_findName_34 (fun z58129 rz58129 => ?_)
          refine lv_if_ne (tgt := 40) hx hb dX3_findName_35 (by decide) (fun c58130 => ?_) (fun c58130 => ?_)
          · have w58131 := cv_ne (rfl : z58129.toInt = z58129.toInt) (by decide : (0 : Int32).toInt = 0) c58130
            exact K40 z58113 _ _ _ (by omega) (by omega) hT hv58112 (lv_sub hl [0, 1] rfl)
          · have w58132 := cv_eq (rfl : z58129.toInt = z58129.toInt) (by decide : (0 : Int32).toInt = 0) c58130
            refine lv_iload_n hx hb dX3_findName_38 rfl (lv_at hl 1 rfl) ?_
            exact t_iret hQ X hT (⟨rfl, (by omega)⟩) (Nat.le_of_ble_eq_true rfl) (Nat.le_of_ble_eq_true rfl) dX3_findName_39
  refine lv_iconst (v := 0) hx hb dX3_findName_0 (by decide) ?_
  refine lv_istore_n (lv' := [(1, .int 0), (0, .ref p0)]) hx hb dX3_findName_1 rfl hl (by decide) rfl (fun ls hl => ?_)
  have kk58133 : (0 : Int32).toInt = 0 := by decide
  exact K2 21 0 _ _ _ (by omega) (by decide) hT  (lv_sub hl [1, 0] rfl)
set_option maxHeartbeats 4000000 in
set_option maxRecDepth 100000 in
theorem kt160_X3_name (l : Launch) (G : KG) (tag : Nat → Nat) (L : List Nat) (Fo : Nat → va_E) (ho : okT G ttC tag L Fo) (p0 : Nat) (p1 : Int32) (x0 : Nat) (x1 : Nat) (x2 : Nat) (x3 : Nat) (x4 : Nat) (x5 : Nat) (m0 : p0 ∈ L) (g0 : tag p0 = 25) (mx0 : x0 ∈ L) (gx0 : tag x0 = 24) (pf0 : fld Fo p0 0 = .ref x0) (mx1 : x1 ∈ L) (gx1 : tag x1 = 18) (pf1 : fld Fo p0 1 = .ref x1) (mx2 : x2 ∈ L) (gx2 : tag x2 = 19) (pf2 : fld Fo p0 2 = .ref x2) (mx3 : x3 ∈ L) (gx3 : tag x3 = 1) (pf3 : fld Fo x0 0 = .ref x3) (mx4 : x4 ∈ L) (gx4 : tag x4 = 14) (pf4 : fld Fo p0 10 = .ref x4) (mx5 : x5 ∈ L) (gx5 : tag x5 = 15) (pf5 : fld Fo p0 11 = .ref x5) (hrel : NSR Fo x4 x5) : TMi l yX3_name cX3_name 3 (some .int) { frames := 6, cells := 0, slots := 0, locals := 128 } G ttC tag L Fo [.ref p0, .int p1] (fun r F1 => ((-2147483648) ≤ r.toInt ∧ r.toInt ≤ 2147483647) ∧ ((∀ b j : Nat, (tag b ≠ 24 ∨ j ≠ 2) → (tag b ≠ 24 ∨ j ≠ 3) → (tag b ≠ 24 ∨ j ≠ 4) → (tag b ≠ 24 ∨ j ≠ 5) → (tag b ≠ 24 ∨ j ≠ 6) → (tag b ≠ 24 ∨ j ≠ 7) → (tag b ≠ 25 ∨ j ≠ 3) → (tag b ≠ 25 ∨ j ≠ 4) → fld F1 b j = fld Fo b j) ∧ EF tag F1 Fo) ∧ (NSR F1 x4 x5)) := by
  refine t_bodyi (y := yX3_name) (cd := cX3_name) (mL := 3) (rt := (some .int)) (rm := { frames := 6, cells := 0, slots := 0, locals := 128 }) (av := [.ref p0, .int p1]) (by decide) (Nat.le_of_ble_eq_true rfl) ho ?_
  intro p e s m args below meth c ls A Q hQ X hT hl
  have hx := X.1.1
  have hb := X.1.2.1
  have hl : lv_has ls 3 [(0, .ref p0), (1, .int p1)] := hl
  have rp1 := rg_all p1
  obtain ⟨F, hFo⟩ : ∃ F : Nat → va_E, F = Fo := ⟨_, rfl⟩
  rw [← hFo] at hT pf0 pf1 pf2 pf3 pf4 pf5 hrel
  have hfr : (∀ b j : Nat, (tag b ≠ 24 ∨ j ≠ 2) → (tag b ≠ 24 ∨ j ≠ 3) → (tag b ≠ 24 ∨ j ≠ 4) → (tag b ≠ 24 ∨ j ≠ 5) → (tag b ≠ 24 ∨ j ≠ 6) → (tag b ≠ 24 ∨ j ≠ 7) → (tag b ≠ 25 ∨ j ≠ 3) → (tag b ≠ 25 ∨ j ≠ 4) → fld F b j = fld Fo b j) ∧ EF tag F Fo := by
    rw [hFo]
    exact ⟨by intros; rfl, fun _ _ _ => rfl⟩
  refine lv_aload_n hx hb dX3_name_0 rfl (lv_at hl 0 rfl) ?_
  refine t_get (C := RX3) (T := TX3) (N := 13) X hT m0 g0 rfl rfl 0 (by decide) qw_73 inlX3 rfl dX3_name_1 (fun v59421 hv59421 ov59421 => ?_)
  obtain rfl : v59421 = .ref x0 := hv59421.symm.trans pf0
  refine t_get (C := RX8) (T := TX8) (N := 8) X hT mx0 gx0 rfl rfl 3 (by decide) qw_170 inlX8 rfl dX3_name_4 (fun v59422 hv59422 ov59422 => ?_)
  obtain ⟨z59423, rfl, rz59423⟩ := okV_i ov59422
  refine lv_iconst (v := 1) hx hb dX3_name_7 (by decide) ?_
  refine lv_icmp_ne (tgt := 19) hx hb dX3_name_8 (by decide) (fun c59424 => ?_) (fun c59424 => ?_)
  · have w59425 := cv_ne (rfl : z59423.toInt = z59423.toInt) (by decide : (1 : Int32).toInt = 1) c59424
    refine lv_aload_n hx hb dX3_name_19 rfl (lv_at hl 0 rfl) ?_
    refine lv_iconst (v := 1) hx hb dX3_name_20 (by decide) ?_
    refine lv_aload_n hx hb dX3_name_21 rfl (lv_at hl 0 rfl) ?_
    refine t_get (C := RX3) (T := TX3) (N := 13) X hT m0 g0 rfl rfl 0 (by decide) qw_73 inlX3 rfl dX3_name_22 (fun v59426 hv59426 ov59426 => ?_)
    obtain rfl : v59426 = .ref x0 := hv59426.symm.trans pf0
    refine t_get (C := RX8) (T := TX8) (N := 8) X hT mx0 gx0 rfl rfl 4 (by decide) qw_227 inlX8 rfl dX3_name_25 (fun v59427 hv59427 ov59427 => ?_)
    obtain ⟨z59428, rfl, rz59428⟩ := okV_i ov59427
    refine t_cVv (n := 2) (C := RX3) (T := TX3) (N := 13) (As := [.int 1, .int z59428]) (rest := []) X hT (kt156_X3_fail l G tag L F hT.2.2.2 p0 1 z59428 m0 g0 (by decide)) m0 g0 rfl rfl qw_287 qw_288 qw_289 qw_28 qw_290 ⟨rfl, by decide +kernel, by decide +kernel, by decide +kernel⟩ ⟨Nat.le_of_ble_eq_true rfl, Nat.le_of_ble_eq_true rfl⟩ hl rfl rfl (Nat.le_of_ble_eq_true rfl) dX3_name_28 ⟨Nat.le_of_ble_eq_true rfl, Nat.le_of_ble_eq_true rfl⟩ (fun F H locs hT hz59429 => ?_)
    obtain ⟨yz59429, xz59429_0⟩ := hz59429
    have pf0 := (yz59429.1 _ 0 (Or.inr (by decide)) (Or.inr (by decide))).trans pf0
    have pf1 := (yz59429.1 _ 1 (Or.inr (by decide)) (Or.inr (by decide))).trans pf1
    have pf2 := (yz59429.1 _ 2 (Or.inr (by decide)) (Or.inr (by decide))).trans pf2
    have pf3 := (yz59429.1 _ 0 (Or.inr (by decide)) (Or.inr (by decide))).trans pf3
    have pf4 := (yz59429.1 _ 10 (Or.inr (by decide)) (Or.inr (by decide))).trans pf4
    have pf5 := (yz59429.1 _ 11 (Or.inr (by decide)) (Or.inr (by decide))).trans pf5
    have hv59422 := (yz59429.1 _ 3 (Or.inl (by rw [gx0]; decide)) (Or.inr (by decide))).trans hv59422
    have hv59427 := (yz59429.1 _ 4 (Or.inr (by decide)) (Or.inl (by rw [gx0]; decide))).trans hv59427
    have hfr : (∀ b j : Nat, (tag b ≠ 24 ∨ j ≠ 2) → (tag b ≠ 24 ∨ j ≠ 3) → (tag b ≠ 24 ∨ j ≠ 4) → (tag b ≠ 24 ∨ j ≠ 5) → (tag b ≠ 24 ∨ j ≠ 6) → (tag b ≠ 24 ∨ j ≠ 7) → (tag b ≠ 25 ∨ j ≠ 3) → (tag b ≠ 25 ∨ j ≠ 4) → fld F b j = fld Fo b j) ∧ EF tag F Fo := ⟨fun b j n24_2 n24_3 n24_4 n24_5 n24_6 n24_7 n25_3 n25_4 => (yz59429.1 b j n25_3 n25_4).trans (hfr.1 b j n24_2 n24_3 n24_4 n24_5 n24_6 n24_7 n25_3 n25_4), fun b j hb => (yz59429.2 b j hb).trans (hfr.2 b j hb)⟩
    have hrel := nsr_of (fun j => yz59429.2 _ j (Or.inl gx4)) (fun j => yz59429.2 _ j (Or.inr gx5)) hrel
    obtain ⟨z59430, qz59430, rz59430⟩ := xz59429_0
    refine lv_aload_n hx hb dX3_name_31 rfl (lv_at hl 0 rfl) ?_
    refine t_cVi (n := 0) (C := RX3) (T := TX3) (N := 13) (As := []) (rest := []) X hT (kt159_X3_findName l G tag L F hT.2.2.2 p0 x0 x1 x2 x3 x4 x5 m0 g0 mx0 gx0 pf0 mx1 gx1 pf1 mx2 gx2 pf2 mx3 gx3 pf3 mx4 gx4 pf4 mx5 gx5 pf5) m0 g0 rfl rfl qw_361 qw_362 qw_363 qw_28 qw_364 ⟨rfl, by decide +kernel, by decide +kernel, by decide +kernel⟩ ⟨Nat.le_of_ble_eq_true rfl, Nat.le_of_ble_eq_true rfl⟩ hl rfl rfl (Nat.le_of_ble_eq_true rfl) dX3_name_32 ⟨Nat.le_of_ble_eq_true rfl, Nat.le_of_ble_eq_true rfl⟩ (fun z59431 F9 H locs hT hz59431 => ?_)
    obtain ⟨fz59431, hz59431⟩ := hz59431
    rw [fz59431] at hT
    refine lv_istore_n (lv' := [(2, .int z59431), (0, .ref p0), (1, .int p1)]) hx hb dX3_name_35 rfl hl (by decide) rfl (fun ls hl => ?_)
    refine lv_iload_n hx hb dX3_name_36 rfl (lv_at hl 0 rfl) ?_
    refine lv_iconst (v := (-1)) hx hb dX3_name_37 (by decide) ?_
    refine lv_icmp_eq (tgt := 51) hx hb dX3_name_38 (by decide) (fun c59432 => ?_) (fun c59432 => ?_)
    · have w59433 := cv_eq (rfl : z59431.toInt = z59431.toInt) (by decide : ((-1) : Int32).toInt = (-1)) c59432
      refine lv_aload_n hx hb dX3_name_51 rfl (lv_at hl 1 rfl) ?_
      refine lv_iconst (v := 2) hx hb dX3_name_52 (by decide) ?_
      refine lv_aload_n hx hb dX3_name_53 rfl (lv_at hl 1 rfl) ?_
      refine t_get (C := RX3) (T := TX3) (N := 13) X hT m0 g0 rfl rfl 0 (by decide) qw_73 inlX3 rfl dX3_name_54 (fun v59434 hv59434 ov59434 => ?_)
      obtain rfl : v59434 = .ref x0 := hv59434.symm.trans pf0
      refine t_get (C := RX8) (T := TX8) (N := 8) X hT mx0 gx0 rfl rfl 4 (by decide) qw_227 inlX8 rfl dX3_name_57 (fun v59435 hv59435 ov59435 => ?_)
      obtain rfl : v59435 = .int z59428 := hv59435.symm.trans hv59427
      refine t_cVv (n := 2) (C := RX3) (T := TX3) (N := 13) (As := [.int 2, .int z59428]) (rest := []) X hT (kt156_X3_fail l G tag L F hT.2.2.2 p0 2 z59428 m0 g0 (by decide)) m0 g0 rfl rfl qw_287 qw_288 qw_289 qw_28 qw_290 ⟨rfl, by decide +kernel, by decide +kernel, by decide +kernel⟩ ⟨Nat.le_of_ble_eq_true rfl, Nat.le_of_ble_eq_true rfl⟩ hl rfl rfl (Nat.le_of_ble_eq_true rfl) dX3_name_60 ⟨Nat.le_of_ble_eq_true rfl, Nat.le_of_ble_eq_true rfl⟩ (fun F H locs hT hz59436 => ?_)
      obtain ⟨yz59436, xz59436_0⟩ := hz59436
      have pf0 := (yz59436.1 _ 0 (Or.inr (by decide)) (Or.inr (by decide))).trans pf0
      have pf1 := (yz59436.1 _ 1 (Or.inr (by decide)) (Or.inr (by decide))).trans pf1
      have pf2 := (yz59436.1 _ 2 (Or.inr (by decide)) (Or.inr (by decide))).trans pf2
      have pf3 := (yz59436.1 _ 0 (Or.inr (by decide)) (Or.inr (by decide))).trans pf3
      have pf4 := (yz59436.1 _ 10 (Or.inr (by decide)) (Or.inr (by decide))).trans pf4
      have pf5 := (yz59436.1 _ 11 (Or.inr (by decide)) (Or.inr (by decide))).trans pf5
      have hv59422 := (yz59436.1 _ 3 (Or.inl (by rw [gx0]; decide)) (Or.inr (by decide))).trans hv59422
      have hv59427 := (yz59436.1 _ 4 (Or.inr (by decide)) (Or.inl (by rw [gx0]; decide))).trans hv59427
      have hfr : (∀ b j : Nat, (tag b ≠ 24 ∨ j ≠ 2) → (tag b ≠ 24 ∨ j ≠ 3) → (tag b ≠ 24 ∨ j ≠ 4) → (tag b ≠ 24 ∨ j ≠ 5) → (tag b ≠ 24 ∨ j ≠ 6) → (tag b ≠ 24 ∨ j ≠ 7) → (tag b ≠ 25 ∨ j ≠ 3) → (tag b ≠ 25 ∨ j ≠ 4) → fld F b j = fld Fo b j) ∧ EF tag F Fo := ⟨fun b j n24_2 n24_3 n24_4 n24_5 n24_6 n24_7 n25_3 n25_4 => (yz59436.1 b j n25_3 n25_4).trans (hfr.1 b j n24_2 n24_3 n24_4 n24_5 n24_6 n24_7 n25_3 n25_4), fun b j hb => (yz59436.2 b j hb).trans (hfr.2 b j hb)⟩
      have hrel := nsr_of (fun j => yz59436.2 _ j (Or.inl gx4)) (fun j => yz59436.2 _ j (Or.inr gx5)) hrel
      obtain ⟨z59437, qz59437, rz59437⟩ := xz59436_0
      refine lv_aload_n hx hb dX3_name_63 rfl (lv_at hl 1 rfl) ?_
      refine t_get (C := RX3) (T := TX3) (N := 13) X hT m0 g0 rfl rfl 3 (by decide) qw_163 inlX3 rfl dX3_name_64 (fun v59438 hv59438 ov59438 => ?_)
      obtain rfl : v59438 = .int z59437 := hv59438.symm.trans qz59437
      refine lv_if_ne (tgt := 75) hx hb dX3_name_67 (by decide) (fun c59439 => ?_) (fun c59439 => ?_)
      · have w59440 := cv_ne (rfl : z59437.toInt = z59437.toInt) (by decide : (0 : Int32).toInt = 0) c59439
        refine lv_iconst (v := 0) hx hb dX3_name_75 (by decide) ?_
        exact t_iret hQ X hT (⟨rg_all _, hfr, hrel⟩) (Nat.le_of_ble_eq_true rfl) (Nat.le_of_ble_eq_true rfl) dX3_name_76
      · have w59441 := cv_eq (rfl : z59437.toInt = z59437.toInt) (by decide : (0 : Int32).toInt = 0) c59439
        exfalso
        omega
    · have w59442 := cv_ne (rfl : z59431.toInt = z59431.toInt) (by decide : ((-1) : Int32).toInt = (-1)) c59432
      refine lv_aload_n hx hb dX3_name_41 rfl (lv_at hl 1 rfl) ?_
      refine t_get (C := RX3) (T := TX3) (N := 13) X hT m0 g0 rfl rfl 10 (by decide) qw_75 inlX3 rfl dX3_name_42 (fun v59443 hv59443 ov59443 => ?_)
      obtain rfl : v59443 = .ref x4 := hv59443.symm.trans pf4
      refine lv_iload_n hx hb dX3_name_45 rfl (lv_at hl 0 rfl) ?_
      refine t_ild X hT mx4 gx4 rfl (by omega) dX3_name_46 (fun z59444 vz59444 rz59444 => ?_)
      have rz59444 : (-2147483648) ≤ z59444.toInt ∧ z59444.toInt ≤ 2147483647 := rz59444
      refine lv_iload_n hx hb dX3_name_47 rfl (lv_at hl 2 rfl) ?_
      refine lv_icmp_eq (tgt := 63) hx hb dX3_name_48 (by decide) (fun c59445 => ?_) (fun c59445 => ?_)
      · have w59446 := cv_eq (rfl : z59444.toInt = z59444.toInt) (rfl : p1.toInt = p1.toInt) c59445
        refine lv_aload_n hx hb dX3_name_63 rfl (lv_at hl 1 rfl) ?_
        refine t_get (C := RX3) (T := TX3) (N := 13) X hT m0 g0 rfl rfl 3 (by decide) qw_163 inlX3 rfl dX3_name_64 (fun v59447 hv59447 ov59447 => ?_)
        obtain rfl : v59447 = .int z59430 := hv59447.symm.trans qz59430
        refine lv_if_ne (tgt := 75) hx hb dX3_name_67 (by decide) (fun c59448 => ?_) (fun c59448 => ?_)
        · have w59449 := cv_ne (rfl : z59430.toInt = z59430.toInt) (by decide : (0 : Int32).toInt = 0) c59448
          refine lv_iconst (v := 0) hx hb dX3_name_75 (by decide) ?_
          exact t_iret hQ X hT (⟨rg_all _, hfr, hrel⟩) (Nat.le_of_ble_eq_true rfl) (Nat.le_of_ble_eq_true rfl) dX3_name_76
        · have w59450 := cv_eq (rfl : z59430.toInt = z59430.toInt) (by decide : (0 : Int32).toInt = 0) c59448
          exfalso
          omega
      · have w59451 := cv_ne (rfl : z59444.toInt = z59444.toInt) (rfl : p1.toInt = p1.toInt) c59445
        refine lv_aload_n hx hb dX3_name_51 rfl (lv_at hl 1 rfl) ?_
        refine lv_iconst (v := 2) hx hb dX3_name_52 (by decide) ?_
        refine lv_aload_n hx hb dX3_name_53 rfl (lv_at hl 1 rfl) ?_
        refine t_get (C := RX3) (T := TX3) (N := 13) X hT m0 g0 rfl rfl 0 (by decide) qw_73 inlX3 rfl dX3_name_54 (fun v59452 hv59452 ov59452 => ?_)
        obtain rfl : v59452 = .ref x0 := hv59452.symm.trans pf0
        refine t_get (C := RX8) (T := TX8) (N := 8) X hT mx0 gx0 rfl rfl 4 (by decide) qw_227 inlX8 rfl dX3_name_57 (fun v59453 hv59453 ov59453 => ?_)
        obtain rfl : v59453 = .int z59428 := hv59453.symm.trans hv59427
        refine t_cVv (n := 2) (C := RX3) (T := TX3) (N := 13) (As := [.int 2, .int z59428]) (rest := []) X hT (kt156_X3_fail l G tag L F hT.2.2.2 p0 2 z59428 m0 g0 (by decide)) m0 g0 rfl rfl qw_287 qw_288 qw_289 qw_28 qw_290 ⟨rfl, by decide +kernel, by decide +kernel, by decide +kernel⟩ ⟨Nat.le_of_ble_eq_true rfl, Nat.le_of_ble_eq_true rfl⟩ hl rfl rfl (Nat.le_of_ble_eq_true rfl) dX3_name_60 ⟨Nat.le_of_ble_eq_true rfl, Nat.le_of_ble_eq_true rfl⟩ (fun F H locs hT hz59454 => ?_)
        obtain ⟨yz59454, xz59454_0⟩ := hz59454
        have pf0 := (yz59454.1 _ 0 (Or.inr (by decide)) (Or.inr (by decide))).trans pf0
        have pf1 := (yz59454.1 _ 1 (Or.inr (by decide)) (Or.inr (by decide))).trans pf1
        have pf2 := (yz59454.1 _ 2 (Or.inr (by decide)) (Or.inr (by decide))).trans pf2
        have pf3 := (yz59454.1 _ 0 (Or.inr (by decide)) (Or.inr (by decide))).trans pf3
        have pf4 := (yz59454.1 _ 10 (Or.inr (by decide)) (Or.inr (by decide))).trans pf4
        have pf5 := (yz59454.1 _ 11 (Or.inr (by decide)) (Or.inr (by decide))).trans pf5
        have hv59422 := (yz59454.1 _ 3 (Or.inl (by rw [gx0]; decide)) (Or.inr (by decide))).trans hv59422
        have hv59427 := (yz59454.1 _ 4 (Or.inr (by decide)) (Or.inl (by rw [gx0]; decide))).trans hv59427
        have vz59444 := (yz59454.2 _ _ (Or.inl gx4)).trans vz59444
        have hfr : (∀ b j : Nat, (tag b ≠ 24 ∨ j ≠ 2) → (tag b ≠ 24 ∨ j ≠ 3) → (tag b ≠ 24 ∨ j ≠ 4) → (tag b ≠ 24 ∨ j ≠ 5) → (tag b ≠ 24 ∨ j ≠ 6) → (tag b ≠ 24 ∨ j ≠ 7) → (tag b ≠ 25 ∨ j ≠ 3) → (tag b ≠ 25 ∨ j ≠ 4) → fld F b j = fld Fo b j) ∧ EF tag F Fo := ⟨fun b j n24_2 n24_3 n24_4 n24_5 n24_6 n24_7 n25_3 n25_4 => (yz59454.1 b j n25_3 n25_4).trans (hfr.1 b j n24_2 n24_3 n24_4 n24_5 n24_6 n24_7 n25_3 n25_4), fun b j hb => (yz59454.2 b j hb).trans (hfr.2 b j hb)⟩
        have hrel := nsr_of (fun j => yz59454.2 _ j (Or.inl gx4)) (fun j => yz59454.2 _ j (Or.inr gx5)) hrel
        obtain ⟨z59455, qz59455, rz59455⟩ := xz59454_0
        refine lv_aload_n hx hb dX3_name_63 rfl (lv_at hl 1 rfl) ?_
        refine t_get (C := RX3) (T := TX3) (N := 13) X hT m0 g0 rfl rfl 3 (by decide) qw_163 inlX3 rfl dX3_name_64 (fun v59456 hv59456 ov59456 => ?_)
        obtain rfl : v59456 = .int z59455 := hv59456.symm.trans qz59455
        refine lv_if_ne (tgt := 75) hx hb dX3_name_67 (by decide) (fun c59457 => ?_) (fun c59457 => ?_)
        · have w59458 := cv_ne (rfl : z59455.toInt = z59455.toInt) (by decide : (0 : Int32).toInt = 0) c59457
          refine lv_iconst (v := 0) hx hb dX3_name_75 (by decide) ?_
          exact t_iret hQ X hT (⟨rg_all _, hfr, hrel⟩) (Nat.le_of_ble_eq_true rfl) (Nat.le_of_ble_eq_true rfl) dX3_name_76
        · have w59459 := cv_eq (rfl : z59455.toInt = z59455.toInt) (by decide : (0 : Int32).toInt = 0) c59457
          exfalso
          omega
  · have w59460 := cv_eq (rfl : z59423.toInt = z59423.toInt) (by decide : (1 : Int32).toInt = 1) c59424
    refine lv_aload_n hx hb dX3_name_11 rfl (lv_at hl 0 rfl) ?_
    refine t_cVi (n := 0) (C := RX3) (T := TX3) (N := 13) (As := []) (rest := []) X hT (kt108_X3_lineSort l G tag L F hT.2.2.2 p0 x0 x1 x2 x3 x4 x5 m0 g0 mx0 gx0 pf0 mx1 gx1 pf1 mx2 gx2 pf2 mx3 gx3 pf3 mx4 gx4 pf4 mx5 gx5 pf5) m0 g0 rfl rfl qw_230 qw_231 qw_232 qw_28 qw_233 ⟨rfl, by decide +kernel, by decide +kernel, by decide +kernel⟩ ⟨Nat.le_of_ble_eq_true rfl, Nat.le_of_ble_eq_true rfl⟩ hl rfl rfl (Nat.le_of_ble_eq_true rfl) dX3_name_12 ⟨Nat.le_of_ble_eq_true rfl, Nat.le_of_ble_eq_true rfl⟩ (fun z59461 F9 H locs hT hz59461 => ?_)
    obtain ⟨fz59461, hz59461⟩ := hz59461
    rw [fz59461] at hT
    refine lv_iconst (v := (-1)) hx hb dX3_name_15 (by decide) ?_
    refine lv_icmp_eq (tgt := 31) hx hb dX3_name_16 (by decide) (fun c59462 => ?_) (fun c59462 => ?_)
    · have w59463 := cv_eq (rfl : z59461.toInt = z59461.toInt) (by decide : ((-1) : Int32).toInt = (-1)) c59462
      refine lv_aload_n hx hb dX3_name_31 rfl (lv_at hl 0 rfl) ?_
      refine t_cVi (n := 0) (C := RX3) (T := TX3) (N := 13) (As := []) (rest := []) X hT (kt159_X3_findName l G tag L F hT.2.2.2 p0 x0 x1 x2 x3 x4 x5 m0 g0 mx0 gx0 pf0 mx1 gx1 pf1 mx2 gx2 pf2 mx3 gx3 pf3 mx4 gx4 pf4 mx5 gx5 pf5) m0 g0 rfl rfl qw_361 qw_362 qw_363 qw_28 qw_364 ⟨rfl, by decide +kernel, by decide +kernel, by decide +kernel⟩ ⟨Nat.le_of_ble_eq_true rfl, Nat.le_of_ble_eq_true rfl⟩ hl rfl rfl (Nat.le_of_ble_eq_true rfl) dX3_name_32 ⟨Nat.le_of_ble_eq_true rfl, Nat.le_of_ble_eq_true rfl⟩ (fun z59464 F9 H locs hT hz59464 => ?_)
      obtain ⟨fz59464, hz59464⟩ := hz59464
      rw [fz59464] at hT
      refine lv_istore_n (lv' := [(2, .int z59464), (0, .ref p0), (1, .int p1)]) hx hb dX3_name_35 rfl hl (by decide) rfl (fun ls hl => ?_)
      refine lv_iload_n hx hb dX3_name_36 rfl (lv_at hl 0 rfl) ?_
      refine lv_iconst (v := (-1)) hx hb dX3_name_37 (by decide) ?_
      refine lv_icmp_eq (tgt := 51) hx hb dX3_name_38 (by decide) (fun c59465 => ?_) (fun c59465 => ?_)
      · have w59466 := cv_eq (rfl : z59464.toInt = z59464.toInt) (by decide : ((-1) : Int32).toInt = (-1)) c59465
        refine lv_aload_n hx hb dX3_name_51 rfl (lv_at hl 1 rfl) ?_
        refine lv_iconst (v := 2) hx hb dX3_name_52 (by decide) ?_
        refine lv_aload_n hx hb dX3_name_53 rfl (lv_at hl 1 rfl) ?_
        refine t_get (C := RX3) (T := TX3) (N := 13) X hT m0 g0 rfl rfl 0 (by decide) qw_73 inlX3 rfl dX3_name_54 (fun v59467 hv59467 ov59467 => ?_)
        obtain rfl : v59467 = .ref x0 := hv59467.symm.trans pf0
        refine t_get (C := RX8) (T := TX8) (N := 8) X hT mx0 gx0 rfl rfl 4 (by decide) qw_227 inlX8 rfl dX3_name_57 (fun v59468 hv59468 ov59468 => ?_)
        obtain ⟨z59469, rfl, rz59469⟩ := okV_i ov59468
        refine t_cVv (n := 2) (C := RX3) (T := TX3) (N := 13) (As := [.int 2, .int z59469]) (rest := []) X hT (kt156_X3_fail l G tag L F hT.2.2.2 p0 2 z59469 m0 g0 (by decide)) m0 g0 rfl rfl qw_287 qw_288 qw_289 qw_28 qw_290 ⟨rfl, by decide +kernel, by decide +kernel, by decide +kernel⟩ ⟨Nat.le_of_ble_eq_true rfl, Nat.le_of_ble_eq_true rfl⟩ hl rfl rfl (Nat.le_of_ble_eq_true rfl) dX3_name_60 ⟨Nat.le_of_ble_eq_true rfl, Nat.le_of_ble_eq_true rfl⟩ (fun F H locs hT hz59470 => ?_)
        obtain ⟨yz59470, xz59470_0⟩ := hz59470
        have pf0 := (yz59470.1 _ 0 (Or.inr (by decide)) (Or.inr (by decide))).trans pf0
        have pf1 := (yz59470.1 _ 1 (Or.inr (by decide)) (Or.inr (by decide))).trans pf1
        have pf2 := (yz59470.1 _ 2 (Or.inr (by decide)) (Or.inr (by decide))).trans pf2
        have pf3 := (yz59470.1 _ 0 (Or.inr (by decide)) (Or.inr (by decide))).trans pf3
        have pf4 := (yz59470.1 _ 10 (Or.inr (by decide)) (Or.inr (by decide))).trans pf4
        have pf5 := (yz59470.1 _ 11 (Or.inr (by decide)) (Or.inr (by decide))).trans pf5
        have hv59422 := (yz59470.1 _ 3 (Or.inl (by rw [gx0]; decide)) (Or.inr (by decide))).trans hv59422
        have hv59468 := (yz59470.1 _ 4 (Or.inr (by decide)) (Or.inl (by rw [gx0]; decide))).trans hv59468
        have hfr : (∀ b j : Nat, (tag b ≠ 24 ∨ j ≠ 2) → (tag b ≠ 24 ∨ j ≠ 3) → (tag b ≠ 24 ∨ j ≠ 4) → (tag b ≠ 24 ∨ j ≠ 5) → (tag b ≠ 24 ∨ j ≠ 6) → (tag b ≠ 24 ∨ j ≠ 7) → (tag b ≠ 25 ∨ j ≠ 3) → (tag b ≠ 25 ∨ j ≠ 4) → fld F b j = fld Fo b j) ∧ EF tag F Fo := ⟨fun b j n24_2 n24_3 n24_4 n24_5 n24_6 n24_7 n25_3 n25_4 => (yz59470.1 b j n25_3 n25_4).trans (hfr.1 b j n24_2 n24_3 n24_4 n24_5 n24_6 n24_7 n25_3 n25_4), fun b j hb => (yz59470.2 b j hb).trans (hfr.2 b j hb)⟩
        have hrel := nsr_of (fun j => yz59470.2 _ j (Or.inl gx4)) (fun j => yz59470.2 _ j (Or.inr gx5)) hrel
        obtain ⟨z59471, qz59471, rz59471⟩ := xz59470_0
        refine lv_aload_n hx hb dX3_name_63 rfl (lv_at hl 1 rfl) ?_
        refine t_get (C := RX3) (T := TX3) (N := 13) X hT m0 g0 rfl rfl 3 (by decide) qw_163 inlX3 rfl dX3_name_64 (fun v59472 hv59472 ov59472 => ?_)
        obtain rfl : v59472 = .int z59471 := hv59472.symm.trans qz59471
        refine lv_if_ne (tgt := 75) hx hb dX3_name_67 (by decide) (fun c59473 => ?_) (fun c59473 => ?_)
        · have w59474 := cv_ne (rfl : z59471.toInt = z59471.toInt) (by decide : (0 : Int32).toInt = 0) c59473
          refine lv_iconst (v := 0) hx hb dX3_name_75 (by decide) ?_
          exact t_iret hQ X hT (⟨rg_all _, hfr, hrel⟩) (Nat.le_of_ble_eq_true rfl) (Nat.le_of_ble_eq_true rfl) dX3_name_76
        · have w59475 := cv_eq (rfl : z59471.toInt = z59471.toInt) (by decide : (0 : Int32).toInt = 0) c59473
          exfalso
          omega
      · have w59476 := cv_ne (rfl : z59464.toInt = z59464.toInt) (by decide : ((-1) : Int32).toInt = (-1)) c59465
        refine lv_aload_n hx hb dX3_name_41 rfl (lv_at hl 1 rfl) ?_
        refine t_get (C := RX3) (T := TX3) (N := 13) X hT m0 g0 rfl rfl 10 (by decide) qw_75 inlX3 rfl dX3_name_42 (fun v59477 hv59477 ov59477 => ?_)
        obtain rfl : v59477 = .ref x4 := hv59477.symm.trans pf4
        refine lv_iload_n hx hb dX3_name_45 rfl (lv_at hl 0 rfl) ?_
        refine t_ild X hT mx4 gx4 rfl (by omega) dX3_name_46 (fun z59478 vz59478 rz59478 => ?_)
        have rz59478 : (-2147483648) ≤ z59478.toInt ∧ z59478.toInt ≤ 2147483647 := rz59478
        refine lv_iload_n hx hb dX3_name_47 rfl (lv_at hl 2 rfl) ?_
        refine lv_icmp_eq (tgt := 63) hx hb dX3_name_48 (by decide) (fun c59479 => ?_) (fun c59479 => ?_)
        · have w59480 := cv_eq (rfl : z59478.toInt = z59478.toInt) (rfl : p1.toInt = p1.toInt) c59479
          refine lv_aload_n hx hb dX3_name_63 rfl (lv_at hl 1 rfl) ?_
          refine t_get (C := RX3) (T := TX3) (N := 13) X hT m0 g0 rfl rfl 3 (by decide) qw_163 inlX3 rfl dX3_name_64 (fun v59481 hv59481 ov59481 => ?_)
          obtain ⟨z59482, rfl, rz59482⟩ := okV_i ov59481
          refine lv_if_ne (tgt := 75) hx hb dX3_name_67 (by decide) (fun c59483 => ?_) (fun c59483 => ?_)
          · have w59484 := cv_ne (rfl : z59482.toInt = z59482.toInt) (by decide : (0 : Int32).toInt = 0) c59483
            refine lv_iconst (v := 0) hx hb dX3_name_75 (by decide) ?_
            exact t_iret hQ X hT (⟨rg_all _, hfr, hrel⟩) (Nat.le_of_ble_eq_true rfl) (Nat.le_of_ble_eq_true rfl) dX3_name_76
          · have w59485 := cv_eq (rfl : z59482.toInt = z59482.toInt) (by decide : (0 : Int32).toInt = 0) c59483
            refine lv_iload_n hx hb dX3_name_70 rfl (lv_at hl 0 rfl) ?_
            refine lv_iconst (v := (-1)) hx hb dX3_name_71 (by decide) ?_
            refine lv_icmp_ne (tgt := 77) hx hb dX3_name_72 (by decide) (fun c59486 => ?_) (fun c59486 => ?_)
            · have w59487 := cv_ne (rfl : z59464.toInt = z59464.toInt) (by decide : ((-1) : Int32).toInt = (-1)) c59486
              refine lv_aload_n hx hb dX3_name_77 rfl (lv_at hl 1 rfl) ?_
              refine t_get (C := RX3) (T := TX3) (N := 13) X hT m0 g0 rfl rfl 0 (by decide) qw_73 inlX3 rfl dX3_name_78 (fun v59488 hv59488 ov59488 => ?_)
              obtain rfl : v59488 = .ref x0 := hv59488.symm.trans pf0
              refine t_cVv (n := 0) (C := RX8) (T := TX8) (N := 8) (As := []) (rest := []) X hT (kt98_X8_advance l G tag L F hT.2.2.2 x0 x3 mx0 gx0 mx3 gx3 pf3) mx0 gx0 rfl rfl qw_305 qw_197 qw_198 qw_72 qw_199 ⟨rfl, by decide +kernel, by decide +kernel, by decide +kernel⟩ ⟨Nat.le_of_ble_eq_true rfl, Nat.le_of_ble_eq_true rfl⟩ hl rfl rfl (Nat.le_of_ble_eq_true rfl) dX3_name_81 ⟨Nat.le_of_ble_eq_true rfl, Nat.le_of_ble_eq_true rfl⟩ (fun F H locs hT hz59489 => ?_)
              have yz59489 := hz59489
              have pf0 := (yz59489.1 _ 0 (Or.inr (by decide)) (Or.inr (by decide)) (Or.inr (by decide)) (Or.inr (by decide)) (Or.inr (by decide)) (Or.inr (by decide))).trans pf0
              have pf1 := (yz59489.1 _ 1 (Or.inr (by decide)) (Or.inr (by decide)) (Or.inr (by decide)) (Or.inr (by decide)) (Or.inr (by decide)) (Or.inr (by decide))).trans pf1
              have pf2 := (yz59489.1 _ 2 (Or.inl (by rw [g0]; decide)) (Or.inr (by decide)) (Or.inr (by decide)) (Or.inr (by decide)) (Or.inr (by decide)) (Or.inr (by decide))).trans pf2
              have pf3 := (yz59489.1 _ 0 (Or.inr (by decide)) (Or.inr (by decide)) (Or.inr (by decide)) (Or.inr (by decide)) (Or.inr (by decide)) (Or.inr (by decide))).trans pf3
              have pf4 := (yz59489.1 _ 10 (Or.inr (by decide)) (Or.inr (by decide)) (Or.inr (by decide)) (Or.inr (by decide)) (Or.inr (by decide)) (Or.inr (by decide))).trans pf4
              have pf5 := (yz59489.1 _ 11 (Or.inr (by decide)) (Or.inr (by decide)) (Or.inr (by decide)) (Or.inr (by decide)) (Or.inr (by decide)) (Or.inr (by decide))).trans pf5
              have vz59478 := (yz59489.2 _ _ (Or.inl gx4)).trans vz59478
              have hv59481 := (yz59489.1 _ 3 (Or.inr (by decide)) (Or.inl (by rw [g0]; decide)) (Or.inr (by decide)) (Or.inr (by decide)) (Or.inr (by decide)) (Or.inr (by decide))).trans hv59481
              have hfr : (∀ b j : Nat, (tag b ≠ 24 ∨ j ≠ 2) → (tag b ≠ 24 ∨ j ≠ 3) → (tag b ≠ 24 ∨ j ≠ 4) → (tag b ≠ 24 ∨ j ≠ 5) → (tag b ≠ 24 ∨ j ≠ 6) → (tag b ≠ 24 ∨ j ≠ 7) → (tag b ≠ 25 ∨ j ≠ 3) → (tag b ≠ 25 ∨ j ≠ 4) → fld F b j = fld Fo b j) ∧ EF tag F Fo := ⟨fun b j n24_2 n24_3 n24_4 n24_5 n24_6 n24_7 n25_3 n25_4 => (yz59489.1 b j n24_2 n24_3 n24_4 n24_5 n24_6 n24_7).trans (hfr.1 b j n24_2 n24_3 n24_4 n24_5 n24_6 n24_7 n25_3 n25_4), fun b j hb => (yz59489.2 b j hb).trans (hfr.2 b j hb)⟩
              have hrel := nsr_of (fun j => yz59489.2 _ j (Or.inl gx4)) (fun j => yz59489.2 _ j (Or.inr gx5)) hrel
              refine lv_aload_n hx hb dX3_name_84 rfl (lv_at hl 1 rfl) ?_
              refine t_get (C := RX3) (T := TX3) (N := 13) X hT m0 g0 rfl rfl 11 (by decide) qw_76 inlX3 rfl dX3_name_85 (fun v59490 hv59490 ov59490 => ?_)
              obtain rfl : v59490 = .ref x5 := hv59490.symm.trans pf5
              refine lv_iload_n hx hb dX3_name_88 rfl (lv_at hl 0 rfl) ?_
              refine t_ild X hT mx5 gx5 rfl (by omega) dX3_name_89 (fun z59491 vz59491 rz59491 => ?_)
              have rz59491 : (-2147483648) ≤ z59491.toInt ∧ z59491.toInt ≤ 2147483647 := rz59491
              exact t_iret hQ X hT (⟨rg_all _, hfr, hrel⟩) (Nat.le_of_ble_eq_true rfl) (Nat.le_of_ble_eq_true rfl) dX3_name_90
            · have w59492 := cv_eq (rfl : z59464.toInt = z59464.toInt) (by decide : ((-1) : Int32).toInt = (-1)) c59486
              exfalso
              omega
        · have w59493 := cv_ne (rfl : z59478.toInt = z59478.toInt) (rfl : p1.toInt = p1.toInt) c59479
          refine lv_aload_n hx hb dX3_name_51 rfl (lv_at hl 1 rfl) ?_
          refine lv_iconst (v := 2) hx hb dX3_name_52 (by decide) ?_
          refine lv_aload_n hx hb dX3_name_53 rfl (lv_at hl 1 rfl) ?_
          refine t_get (C := RX3) (T := TX3) (N := 13) X hT m0 g0 rfl rfl 0 (by decide) qw_73 inlX3 rfl dX3_name_54 (fun v59494 hv59494 ov59494 => ?_)
          obtain rfl : v59494 = .ref x0 := hv59494.symm.trans pf0
          refine t_get (C := RX8) (T := TX8) (N := 8) X hT mx0 gx0 rfl rfl 4 (by decide) qw_227 inlX8 rfl dX3_name_57 (fun v59495 hv59495 ov59495 => ?_)
          obtain ⟨z59496, rfl, rz59496⟩ := okV_i ov59495
          refine t_cVv (n := 2) (C := RX3) (T := TX3) (N := 13) (As := [.int 2, .int z59496]) (rest := []) X hT (kt156_X3_fail l G tag L F hT.2.2.2 p0 2 z59496 m0 g0 (by decide)) m0 g0 rfl rfl qw_287 qw_288 qw_289 qw_28 qw_290 ⟨rfl, by decide +kernel, by decide +kernel, by decide +kernel⟩ ⟨Nat.le_of_ble_eq_true rfl, Nat.le_of_ble_eq_true rfl⟩ hl rfl rfl (Nat.le_of_ble_eq_true rfl) dX3_name_60 ⟨Nat.le_of_ble_eq_true rfl, Nat.le_of_ble_eq_true rfl⟩ (fun F H locs hT hz59497 => ?_)
          obtain ⟨yz59497, xz59497_0⟩ := hz59497
          have pf0 := (yz59497.1 _ 0 (Or.inr (by decide)) (Or.inr (by decide))).trans pf0
          have pf1 := (yz59497.1 _ 1 (Or.inr (by decide)) (Or.inr (by decide))).trans pf1
          have pf2 := (yz59497.1 _ 2 (Or.inr (by decide)) (Or.inr (by decide))).trans pf2
          have pf3 := (yz59497.1 _ 0 (Or.inr (by decide)) (Or.inr (by decide))).trans pf3
          have pf4 := (yz59497.1 _ 10 (Or.inr (by decide)) (Or.inr (by decide))).trans pf4
          have pf5 := (yz59497.1 _ 11 (Or.inr (by decide)) (Or.inr (by decide))).trans pf5
          have hv59422 := (yz59497.1 _ 3 (Or.inl (by rw [gx0]; decide)) (Or.inr (by decide))).trans hv59422
          have vz59478 := (yz59497.2 _ _ (Or.inl gx4)).trans vz59478
          have hv59495 := (yz59497.1 _ 4 (Or.inr (by decide)) (Or.inl (by rw [gx0]; decide))).trans hv59495
          have hfr : (∀ b j : Nat, (tag b ≠ 24 ∨ j ≠ 2) → (tag b ≠ 24 ∨ j ≠ 3) → (tag b ≠ 24 ∨ j ≠ 4) → (tag b ≠ 24 ∨ j ≠ 5) → (tag b ≠ 24 ∨ j ≠ 6) → (tag b ≠ 24 ∨ j ≠ 7) → (tag b ≠ 25 ∨ j ≠ 3) → (tag b ≠ 25 ∨ j ≠ 4) → fld F b j = fld Fo b j) ∧ EF tag F Fo := ⟨fun b j n24_2 n24_3 n24_4 n24_5 n24_6 n24_7 n25_3 n25_4 => (yz59497.1 b j n25_3 n25_4).trans (hfr.1 b j n24_2 n24_3 n24_4 n24_5 n24_6 n24_7 n25_3 n25_4), fun b j hb => (yz59497.2 b j hb).trans (hfr.2 b j hb)⟩
          have hrel := nsr_of (fun j => yz59497.2 _ j (Or.inl gx4)) (fun j => yz59497.2 _ j (Or.inr gx5)) hrel
          obtain ⟨z59498, qz59498, rz59498⟩ := xz59497_0
          refine lv_aload_n hx hb dX3_name_63 rfl (lv_at hl 1 rfl) ?_
          refine t_get (C := RX3) (T := TX3) (N := 13) X hT m0 g0 rfl rfl 3 (by decide) qw_163 inlX3 rfl dX3_name_64 (fun v59499 hv59499 ov59499 => ?_)
          obtain rfl : v59499 = .int z59498 := hv59499.symm.trans qz59498
          refine lv_if_ne (tgt := 75) hx hb dX3_name_67 (by decide) (fun c59500 => ?_) (fun c59500 => ?_)
          · have w59501 := cv_ne (rfl : z59498.toInt = z59498.toInt) (by decide : (0 : Int32).toInt = 0) c59500
            refine lv_iconst (v := 0) hx hb dX3_name_75 (by decide) ?_
            exact t_iret hQ X hT (⟨rg_all _, hfr, hrel⟩) (Nat.le_of_ble_eq_true rfl) (Nat.le_of_ble_eq_true rfl) dX3_name_76
          · have w59502 := cv_eq (rfl : z59498.toInt = z59498.toInt) (by decide : (0 : Int32).toInt = 0) c59500
            exfalso
            omega
    · have w59503 := cv_ne (rfl : z59461.toInt = z59461.toInt) (by decide : ((-1) : Int32).toInt = (-1)) c59462
      refine lv_aload_n hx hb dX3_name_19 rfl (lv_at hl 0 rfl) ?_
      refine lv_iconst (v := 1) hx hb dX3_name_20 (by decide) ?_
      refine lv_aload_n hx hb dX3_name_21 rfl (lv_at hl 0 rfl) ?_
      refine t_get (C := RX3) (T := TX3) (N := 13) X hT m0 g0 rfl rfl 0 (by decide) qw_73 inlX3 rfl dX3_name_22 (fun v59504 hv59504 ov59504 => ?_)
      obtain rfl : v59504 = .ref x0 := hv59504.symm.trans pf0
      refine t_get (C := RX8) (T := TX8) (N := 8) X hT mx0 gx0 rfl rfl 4 (by decide) qw_227 inlX8 rfl dX3_name_25 (fun v59505 hv59505 ov59505 => ?_)
      obtain ⟨z59506, rfl, rz59506⟩ := okV_i ov59505
      refine t_cVv (n := 2) (C := RX3) (T := TX3) (N := 13) (As := [.int 1, .int z59506]) (rest := []) X hT (kt156_X3_fail l G tag L F hT.2.2.2 p0 1 z59506 m0 g0 (by decide)) m0 g0 rfl rfl qw_287 qw_288 qw_289 qw_28 qw_290 ⟨rfl, by decide +kernel, by decide +kernel, by decide +kernel⟩ ⟨Nat.le_of_ble_eq_true rfl, Nat.le_of_ble_eq_true rfl⟩ hl rfl rfl (Nat.le_of_ble_eq_true rfl) dX3_name_28 ⟨Nat.le_of_ble_eq_true rfl, Nat.le_of_ble_eq_true rfl⟩ (fun F H locs hT hz59507 => ?_)
      obtain ⟨yz59507, xz59507_0⟩ := hz59507
      have pf0 := (yz59507.1 _ 0 (Or.inr (by decide)) (Or.inr (by decide))).trans pf0
      have pf1 := (yz59507.1 _ 1 (Or.inr (by decide)) (Or.inr (by decide))).trans pf1
      have pf2 := (yz59507.1 _ 2 (Or.inr (by decide)) (Or.inr (by decide))).trans pf2
      have pf3 := (yz59507.1 _ 0 (Or.inr (by decide)) (Or.inr (by decide))).trans pf3
      have pf4 := (yz59507.1 _ 10 (Or.inr (by decide)) (Or.inr (by decide))).trans pf4
      have pf5 := (yz59507.1 _ 11 (Or.inr (by decide)) (Or.inr (by decide))).trans pf5
      have hv59422 := (yz59507.1 _ 3 (Or.inl (by rw [gx0]; decide)) (Or.inr (by decide))).trans hv59422
      have hv59505 := (yz59507.1 _ 4 (Or.inr (by decide)) (Or.inl (by rw [gx0]; decide))).trans hv59505
      have hfr : (∀ b j : Nat, (tag b ≠ 24 ∨ j ≠ 2) → (tag b ≠ 24 ∨ j ≠ 3) → (tag b ≠ 24 ∨ j ≠ 4) → (tag b ≠ 24 ∨ j ≠ 5) → (tag b ≠ 24 ∨ j ≠ 6) → (tag b ≠ 24 ∨ j ≠ 7) → (tag b ≠ 25 ∨ j ≠ 3) → (tag b ≠ 25 ∨ j ≠ 4) → fld F b j = fld Fo b j) ∧ EF tag F Fo := ⟨fun b j n24_2 n24_3 n24_4 n24_5 n24_6 n24_7 n25_3 n25_4 => (yz59507.1 b j n25_3 n25_4).trans (hfr.1 b j n24_2 n24_3 n24_4 n24_5 n24_6 n24_7 n25_3 n25_4), fun b j hb => (yz59507.2 b j hb).trans (hfr.2 b j hb)⟩
      have hrel := nsr_of (fun j => yz59507.2 _ j (Or.inl gx4)) (fun j => yz59507.2 _ j (Or.inr gx5)) hrel
      obtain ⟨z59508, qz59508, rz59508⟩ := xz59507_0
      refine lv_aload_n hx hb dX3_name_31 rfl (lv_at hl 0 rfl) ?_
      refine t_cVi (n := 0) (C := RX3) (T := TX3) (N := 13) (As := []) (rest := []) X hT (kt159_X3_findName l G tag L F hT.2.2.2 p0 x0 x1 x2 x3 x4 x5 m0 g0 mx0 gx0 pf0 mx1 gx1 pf1 mx2 gx2 pf2 mx3 gx3 pf3 mx4 gx4 pf4 mx5 gx5 pf5) m0 g0 rfl rfl qw_361 qw_362 qw_363 qw_28 qw_364 ⟨rfl, by decide +kernel, by decide +kernel, by decide +kernel⟩ ⟨Nat.le_of_ble_eq_true rfl, Nat.le_of_ble_eq_true rfl⟩ hl rfl rfl (Nat.le_of_ble_eq_true rfl) dX3_name_32 ⟨Nat.le_of_ble_eq_true rfl, Nat.le_of_ble_eq_true rfl⟩ (fun z59509 F9 H locs hT hz59509 => ?_)
      obtain ⟨fz59509, hz59509⟩ := hz59509
      rw [fz59509] at hT
      refine lv_istore_n (lv' := [(2, .int z59509), (0, .ref p0), (1, .int p1)]) hx hb dX3_name_35 rfl hl (by decide) rfl (fun ls hl => ?_)
      refine lv_iload_n hx hb dX3_name_36 rfl (lv_at hl 0 rfl) ?_
      refine lv_iconst (v := (-1)) hx hb dX3_name_37 (by decide) ?_
      refine lv_icmp_eq (tgt := 51) hx hb dX3_name_38 (by decide) (fun c59510 => ?_) (fun c59510 => ?_)
      · have w59511 := cv_eq (rfl : z59509.toInt = z59509.toInt) (by decide : ((-1) : Int32).toInt = (-1)) c59510
        refine lv_aload_n hx hb dX3_name_51 rfl (lv_at hl 1 rfl) ?_
        refine lv_iconst (v := 2) hx hb dX3_name_52 (by decide) ?_
        refine lv_aload_n hx hb dX3_name_53 rfl (lv_at hl 1 rfl) ?_
        refine t_get (C := RX3) (T := TX3) (N := 13) X hT m0 g0 rfl rfl 0 (by decide) qw_73 inlX3 rfl dX3_name_54 (fun v59512 hv59512 ov59512 => ?_)
        obtain rfl : v59512 = .ref x0 := hv59512.symm.trans pf0
        refine t_get (C := RX8) (T := TX8) (N := 8) X hT mx0 gx0 rfl rfl 4 (by decide) qw_227 inlX8 rfl dX3_name_57 (fun v59513 hv59513 ov59513 => ?_)
        obtain rfl : v59513 = .int z59506 := hv59513.symm.trans hv59505
        refine t_cVv (n := 2) (C := RX3) (T := TX3) (N := 13) (As := [.int 2, .int z59506]) (rest := []) X hT (kt156_X3_fail l G tag L F hT.2.2.2 p0 2 z59506 m0 g0 (by decide)) m0 g0 rfl rfl qw_287 qw_288 qw_289 qw_28 qw_290 ⟨rfl, by decide +kernel, by decide +kernel, by decide +kernel⟩ ⟨Nat.le_of_ble_eq_true rfl, Nat.le_of_ble_eq_true rfl⟩ hl rfl rfl (Nat.le_of_ble_eq_true rfl) dX3_name_60 ⟨Nat.le_of_ble_eq_true rfl, Nat.le_of_ble_eq_true rfl⟩ (fun F H locs hT hz59514 => ?_)
        obtain ⟨yz59514, xz59514_0⟩ := hz59514
        have pf0 := (yz59514.1 _ 0 (Or.inr (by decide)) (Or.inr (by decide))).trans pf0
        have pf1 := (yz59514.1 _ 1 (Or.inr (by decide)) (Or.inr (by decide))).trans pf1
        have pf2 := (yz59514.1 _ 2 (Or.inr (by decide)) (Or.inr (by decide))).trans pf2
        have pf3 := (yz59514.1 _ 0 (Or.inr (by decide)) (Or.inr (by decide))).trans pf3
        have pf4 := (yz59514.1 _ 10 (Or.inr (by decide)) (Or.inr (by decide))).trans pf4
        have pf5 := (yz59514.1 _ 11 (Or.inr (by decide)) (Or.inr (by decide))).trans pf5
        have hv59422 := (yz59514.1 _ 3 (Or.inl (by rw [gx0]; decide)) (Or.inr (by decide))).trans hv59422
        have hv59505 := (yz59514.1 _ 4 (Or.inr (by decide)) (Or.inl (by rw [gx0]; decide))).trans hv59505
        have hfr : (∀ b j : Nat, (tag b ≠ 24 ∨ j ≠ 2) → (tag b ≠ 24 ∨ j ≠ 3) → (tag b ≠ 24 ∨ j ≠ 4) → (tag b ≠ 24 ∨ j ≠ 5) → (tag b ≠ 24 ∨ j ≠ 6) → (tag b ≠ 24 ∨ j ≠ 7) → (tag b ≠ 25 ∨ j ≠ 3) → (tag b ≠ 25 ∨ j ≠ 4) → fld F b j = fld Fo b j) ∧ EF tag F Fo := ⟨fun b j n24_2 n24_3 n24_4 n24_5 n24_6 n24_7 n25_3 n25_4 => (yz59514.1 b j n25_3 n25_4).trans (hfr.1 b j n24_2 n24_3 n24_4 n24_5 n24_6 n24_7 n25_3 n25_4), fun b j hb => (yz59514.2 b j hb).trans (hfr.2 b j hb)⟩
        have hrel := nsr_of (fun j => yz59514.2 _ j (Or.inl gx4)) (fun j => yz59514.2 _ j (Or.inr gx5)) hrel
        obtain ⟨z59515, qz59515, rz59515⟩ := xz59514_0
        refine lv_aload_n hx hb dX3_name_63 rfl (lv_at hl 1 rfl) ?_
        refine t_get (C := RX3) (T := TX3) (N := 13) X hT m0 g0 rfl rfl 3 (by decide) qw_163 inlX3 rfl dX3_name_64 (fun v59516 hv59516 ov59516 => ?_)
        obtain rfl : v59516 = .int z59515 := hv59516.symm.trans qz59515
        refine lv_if_ne (tgt := 75) hx hb dX3_name_67 (by decide) (fun c59517 => ?_) (fun c59517 => ?_)
        · have w59518 := cv_ne (rfl : z59515.toInt = z59515.toInt) (by decide : (0 : Int32).toInt = 0) c59517
          refine lv_iconst (v := 0) hx hb dX3_name_75 (by decide) ?_
          exact t_iret hQ X hT (⟨rg_all _, hfr, hrel⟩) (Nat.le_of_ble_eq_true rfl) (Nat.le_of_ble_eq_true rfl) dX3_name_76
        · have w59519 := cv_eq (rfl : z59515.toInt = z59515.toInt) (by decide : (0 : Int32).toInt = 0) c59517
          exfalso
          omega
      · have w59520 := cv_ne (rfl : z59509.toInt = z59509.toInt) (by decide : ((-1) : Int32).toInt = (-1)) c59510
        refine lv_aload_n hx hb dX3_name_41 rfl (lv_at hl 1 rfl) ?_
        refine t_get (C := RX3) (T := TX3) (N := 13) X hT m0 g0 rfl rfl 10 (by decide) qw_75 inlX3 rfl dX3_name_42 (fun v59521 hv59521 ov59521 => ?_)
        obtain rfl : v59521 = .ref x4 := hv59521.symm.trans pf4
        refine lv_iload_n hx hb dX3_name_45 rfl (lv_at hl 0 rfl) ?_
        refine t_ild X hT mx4 gx4 rfl (by omega) dX3_name_46 (fun z59522 vz59522 rz59522 => ?_)
        have rz59522 : (-2147483648) ≤ z59522.toInt ∧ z59522.toInt ≤ 2147483647 := rz59522
        refine lv_iload_n hx hb dX3_name_47 rfl (lv_at hl 2 rfl) ?_
        refine lv_icmp_eq (tgt := 63) hx hb dX3_name_48 (by decide) (fun c59523 => ?_) (fun c59523 => ?_)
        · have w59524 := cv_eq (rfl : z59522.toInt = z59522.toInt) (rfl : p1.toInt = p1.toInt) c59523
          refine lv_aload_n hx hb dX3_name_63 rfl (lv_at hl 1 rfl) ?_
          refine t_get (C := RX3) (T := TX3) (N := 13) X hT m0 g0 rfl rfl 3 (by decide) qw_163 inlX3 rfl dX3_name_64 (fun v59525 hv59525 ov59525 => ?_)
          obtain rfl : v59525 = .int z59508 := hv59525.symm.trans qz59508
          refine lv_if_ne (tgt := 75) hx hb dX3_name_67 (by decide) (fun c59526 => ?_) (fun c59526 => ?_)
          · have w59527 := cv_ne (rfl : z59508.toInt = z59508.toInt) (by decide : (0 : Int32).toInt = 0) c59526
            refine lv_iconst (v := 0) hx hb dX3_name_75 (by decide) ?_
            exact t_iret hQ X hT (⟨rg_all _, hfr, hrel⟩) (Nat.le_of_ble_eq_true rfl) (Nat.le_of_ble_eq_true rfl) dX3_name_76
          · have w59528 := cv_eq (rfl : z59508.toInt = z59508.toInt) (by decide : (0 : Int32).toInt = 0) c59526
            exfalso
            omega
        · have w59529 := cv_ne (rfl : z59522.toInt = z59522.toInt) (rfl : p1.toInt = p1.toInt) c59523
          refine lv_aload_n hx hb dX3_name_51 rfl (lv_at hl 1 rfl) ?_
          refine lv_iconst (v := 2) hx hb dX3_name_52 (by decide) ?_
          refine lv_aload_n hx hb dX3_name_53 rfl (lv_at hl 1 rfl) ?_
          refine t_get (C := RX3) (T := TX3) (N := 13) X hT m0 g0 rfl rfl 0 (by decide) qw_73 inlX3 rfl dX3_name_54 (fun v59530 hv59530 ov59530 => ?_)
          obtain rfl : v59530 = .ref x0 := hv59530.symm.trans pf0
          refine t_get (C := RX8) (T := TX8) (N := 8) X hT mx0 gx0 rfl rfl 4 (by decide) qw_227 inlX8 rfl dX3_name_57 (fun v59531 hv59531 ov59531 => ?_)
          obtain rfl : v59531 = .int z59506 := hv59531.symm.trans hv59505
          refine t_cVv (n := 2) (C := RX3) (T := TX3) (N := 13) (As := [.int 2, .int z59506]) (rest := []) X hT (kt156_X3_fail l G tag L F hT.2.2.2 p0 2 z59506 m0 g0 (by decide)) m0 g0 rfl rfl qw_287 qw_288 qw_289 qw_28 qw_290 ⟨rfl, by decide +kernel, by decide +kernel, by decide +kernel⟩ ⟨Nat.le_of_ble_eq_true rfl, Nat.le_of_ble_eq_true rfl⟩ hl rfl rfl (Nat.le_of_ble_eq_true rfl) dX3_name_60 ⟨Nat.le_of_ble_eq_true rfl, Nat.le_of_ble_eq_true rfl⟩ (fun F H locs hT hz59532 => ?_)
          obtain ⟨yz59532, xz59532_0⟩ := hz59532
          have pf0 := (yz59532.1 _ 0 (Or.inr (by decide)) (Or.inr (by decide))).trans pf0
          have pf1 := (yz59532.1 _ 1 (Or.inr (by decide)) (Or.inr (by decide))).trans pf1
          have pf2 := (yz59532.1 _ 2 (Or.inr (by decide)) (Or.inr (by decide))).trans pf2
          have pf3 := (yz59532.1 _ 0 (Or.inr (by decide)) (Or.inr (by decide))).trans pf3
          have pf4 := (yz59532.1 _ 10 (Or.inr (by decide)) (Or.inr (by decide))).trans pf4
          have pf5 := (yz59532.1 _ 11 (Or.inr (by decide)) (Or.inr (by decide))).trans pf5
          have hv59422 := (yz59532.1 _ 3 (Or.inl (by rw [gx0]; decide)) (Or.inr (by decide))).trans hv59422
          have hv59505 := (yz59532.1 _ 4 (Or.inr (by decide)) (Or.inl (by rw [gx0]; decide))).trans hv59505
          have vz59522 := (yz59532.2 _ _ (Or.inl gx4)).trans vz59522
          have hfr : (∀ b j : Nat, (tag b ≠ 24 ∨ j ≠ 2) → (tag b ≠ 24 ∨ j ≠ 3) → (tag b ≠ 24 ∨ j ≠ 4) → (tag b ≠ 24 ∨ j ≠ 5) → (tag b ≠ 24 ∨ j ≠ 6) → (tag b ≠ 24 ∨ j ≠ 7) → (tag b ≠ 25 ∨ j ≠ 3) → (tag b ≠ 25 ∨ j ≠ 4) → fld F b j = fld Fo b j) ∧ EF tag F Fo := ⟨fun b j n24_2 n24_3 n24_4 n24_5 n24_6 n24_7 n25_3 n25_4 => (yz59532.1 b j n25_3 n25_4).trans (hfr.1 b j n24_2 n24_3 n24_4 n24_5 n24_6 n24_7 n25_3 n25_4), fun b j hb => (yz59532.2 b j hb).trans (hfr.2 b j hb)⟩
          have hrel := nsr_of (fun j => yz59532.2 _ j (Or.inl gx4)) (fun j => yz59532.2 _ j (Or.inr gx5)) hrel
          obtain ⟨z59533, qz59533, rz59533⟩ := xz59532_0
          refine lv_aload_n hx hb dX3_name_63 rfl (lv_at hl 1 rfl) ?_
          refine t_get (C := RX3) (T := TX3) (N := 13) X hT m0 g0 rfl rfl 3 (by decide) qw_163 inlX3 rfl dX3_name_64 (fun v59534 hv59534 ov59534 => ?_)
          obtain rfl : v59534 = .int z59533 := hv59534.symm.trans qz59533
          refine lv_if_ne (tgt := 75) hx hb dX3_name_67 (by decide) (fun c59535 => ?_) (fun c59535 => ?_)
          · have w59536 := cv_ne (rfl : z59533.toInt = z59533.toInt) (by decide : (0 : Int32).toInt = 0) c59535
            refine lv_iconst (v := 0) hx hb dX3_name_75 (by decide) ?_
            exact t_iret hQ X hT (⟨rg_all _, hfr, hrel⟩) (Nat.le_of_ble_eq_true rfl) (Nat.le_of_ble_eq_true rfl) dX3_name_76
          · have w59537 := cv_eq (rfl : z59533.toInt = z59533.toInt) (by decide : (0 : Int32).toInt = 0) c59535
            exfalso
            omega
