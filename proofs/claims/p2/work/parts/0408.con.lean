set_option maxHeartbeats 4000000 in
set_option maxRecDepth 100000 in
theorem km49_X13_part (l : Launch) (G : KG) (tag : Nat → Nat) (L : List Nat) (F : Nat → va_E) (ho : okT G ttC tag L F) (p0 : Int32) (p1 : Int32) (p2 : Int32) (h0 : 0 ≤ p0.toInt ∧ p0.toInt ≤ 3) (h1 : 1 ≤ p1.toInt ∧ p1.toInt ≤ 6) (h2 : 0 ≤ p2.toInt ∧ p2.toInt ≤ 7) : TMi l yX13_part cX13_part 3 (some .int) { frames := 0, cells := 0, slots := 0, locals := 0 } G ttC tag L F [.int p0, .int p1, .int p2] (fun r F1 => F1 = F ∧ (12 ≤ r.toInt ∧ r.toInt ≤ 203) ∧ (r.toInt = 48 * p0.toInt + 8 * p1.toInt + p2.toInt + 4)) := by
  refine t_bodyi (y := yX13_part) (cd := cX13_part) (mL := 3) (rt := (some .int)) (rm := { frames := 0, cells := 0, slots := 0, locals := 0 }) (av := [.int p0, .int p1, .int p2]) (by decide) (Nat.le_of_ble_eq_true rfl) ho ?_
  intro p e s m args below meth c ls A Q hQ X hT hl
  have hx := X.1.1
  have hb := X.1.2.1
  have hl : lv_has ls 3 [(0, .int p0), (1, .int p1), (2, .int p2)] := hl
  refine lv_bipush (v := 12) hx hb dX13_part_0 (by decide) ?_
  refine lv_bipush (v := 6) hx hb dX13_part_2 (by decide) ?_
  refine lv_iload_n hx hb dX13_part_4 rfl (lv_at hl 0 rfl) ?_
  refine lv_imul hx hb dX13_part_5 ?_
  refine lv_topi (fun z17305 ez17305 => ?_)
  have hz17305 : z17305.toInt = 6 * p0.toInt := ar_mul ez17305 (by decide : (6 : Int32).toInt = 6) (rfl : p0.toInt = p0.toInt) (by omega) (by omega)
  have rz17305 : 0 ≤ z17305.toInt ∧ z17305.toInt ≤ 18 := by omega
  refine lv_iload_n hx hb dX13_part_6 rfl (lv_at hl 1 rfl) ?_
  refine lv_iadd hx hb dX13_part_7 ?_
  refine lv_topi (fun z17306 ez17306 => ?_)
  have hz17306 : z17306.toInt = z17305.toInt + p1.toInt := ar_add ez17306 (rfl : z17305.toInt = z17305.toInt) (rfl : p1.toInt = p1.toInt) (by omega) (by omega)
  have rz17306 : 1 ≤ z17306.toInt ∧ z17306.toInt ≤ 24 := by omega
  refine lv_iconst (v := 1) hx hb dX13_part_8 (by decide) ?_
  refine lv_isub hx hb dX13_part_9 ?_
  refine lv_topi (fun z17307 ez17307 => ?_)
  have hz17307 : z17307.toInt = z17306.toInt - 1 := ar_sub ez17307 (rfl : z17306.toInt = z17306.toInt) (by decide : (1 : Int32).toInt = 1) (by omega) (by omega)
  have rz17307 : 0 ≤ z17307.toInt ∧ z17307.toInt ≤ 23 := by omega
  refine lv_bipush (v := 8) hx hb dX13_part_10 (by decide) ?_
  refine lv_imul hx hb dX13_part_12 ?_
  refine lv_topi (fun z17308 ez17308 => ?_)
  have hz17308 : z17308.toInt = z17307.toInt * 8 := ar_mul ez17308 (rfl : z17307.toInt = z17307.toInt) (by decide : (8 : Int32).toInt = 8) (by omega) (by omega)
  have rz17308 : 0 ≤ z17308.toInt ∧ z17308.toInt ≤ 184 := by omega
  refine lv_iadd hx hb dX13_part_13 ?_
  refine lv_topi (fun z17309 ez17309 => ?_)
  have hz17309 : z17309.toInt = 12 + z17308.toInt := ar_add ez17309 (by decide : (12 : Int32).toInt = 12) (rfl : z17308.toInt = z17308.toInt) (by omega) (by omega)
  have rz17309 : 12 ≤ z17309.toInt ∧ z17309.toInt ≤ 196 := by omega
  refine lv_iload_n hx hb dX13_part_14 rfl (lv_at hl 2 rfl) ?_
  refine lv_iadd hx hb dX13_part_15 ?_
  refine lv_topi (fun z17310 ez17310 => ?_)
  have hz17310 : z17310.toInt = z17309.toInt + p2.toInt := ar_add ez17310 (rfl : z17309.toInt = z17309.toInt) (rfl : p2.toInt = p2.toInt) (by omega) (by omega)
  have rz17310 : 12 ≤ z17310.toInt ∧ z17310.toInt ≤ 203 := by omega
  exact t_iret hQ X hT (⟨rfl, (by omega), (by omega)⟩) (Nat.le_of_ble_eq_true rfl) (Nat.le_of_ble_eq_true rfl) dX13_part_16
set_option maxHeartbeats 4000000 in
set_option maxRecDepth 100000 in
theorem km50_X13_adds (l : Launch) (G : KG) (tag : Nat → Nat) (L : List Nat) (Fo : Nat → va_E) (ho : okT G ttC tag L Fo) (p0 : Nat) (p1 : Int32) (p2 : Int32) (p3 : Int32) (p4 : Int32) (p5 : Int32) (p6 : Int32) (x0 : Int32) (m0 : p0 ∈ L) (g0 : tag p0 = 37) (h1 : 0 ≤ p1.toInt ∧ p1.toInt ≤ 3) (h2 : 0 ≤ p2.toInt ∧ p2.toInt ≤ 3) (hx0 : 0 ≤ x0.toInt ∧ x0.toInt ≤ 5) (pf0 : elm Fo p0 p1.toNatClampNeg = x0) : TMv l yX13_adds cX13_adds 8 { frames := 1, cells := 0, slots := 0, locals := 22 } G ttC tag L Fo [.ref p0, .int p1, .int p2, .int p3, .int p4, .int p5, .int p6] (fun F1 => ((∀ b j : Nat, fld F1 b j = fld Fo b j) ∧ (∀ b j : Nat, tag b ≠ 37 → elm F1 b j = elm Fo b j)) ∧ (∃ z : Int32, elm F1 p0 p1.toNatClampNeg = z ∧ z.toInt = x0.toInt + 1)) := by
  refine t_bodyv (y := yX13_adds) (cd := cX13_adds) (mL := 8) (rm := { frames := 1, cells := 0, slots := 0, locals := 22 }) (av := [.ref p0, .int p1, .int p2, .int p3, .int p4, .int p5, .int p6]) (by decide) (Nat.le_of_ble_eq_true rfl) ho ?_
  intro p e s m args below meth c ls A Q hQ X hT hl
  have hx := X.1.1
  have hb := X.1.2.1
  have hl : lv_has ls 8 [(0, .ref p0), (1, .int p1), (2, .int p2), (3, .int p3), (4, .int p4), (5, .int p5), (6, .int p6)] := hl
  have rp3 := rg_all p3
  have rp4 := rg_all p4
  have rp5 := rg_all p5
  have rp6 := rg_all p6
  obtain ⟨F, hFo⟩ : ∃ F : Nat → va_E, F = Fo := ⟨_, rfl⟩
  rw [← hFo] at hT pf0
  have hfr : (∀ b j : Nat, fld F b j = fld Fo b j) ∧ (∀ b j : Nat, tag b ≠ 37 → elm F b j = elm Fo b j) := by
    rw [hFo]
    exact ⟨by intros; rfl, by intros; rfl⟩
  refine lv_aload_n hx hb dX13_adds_0 rfl (lv_at hl 0 rfl) ?_
  refine lv_iconst (v := 0) hx hb dX13_adds_1 (by decide) ?_
  refine lv_iload_n hx hb dX13_adds_2 rfl (lv_at hl 1 rfl) ?_
  refine lv_iadd hx hb dX13_adds_3 ?_
  refine lv_topi (fun z17635 ez17635 => ?_)
  obtain rfl : p1 = z17635 := (ar_zadd ez17635).symm
  refine lv_dup2_11 hx hb dX13_adds_4 rfl rfl ?_
  refine t_ild X hT m0 g0 rfl (by omega) dX13_adds_5 (fun z17636 vz17636 rz17636 => ?_)
  obtain rfl : x0 = z17636 := pf0.symm.trans vz17636
  refine lv_iconst (v := 1) hx hb dX13_adds_6 (by decide) ?_
  refine lv_iadd hx hb dX13_adds_7 ?_
  refine lv_topi (fun z17637 ez17637 => ?_)
  have hz17637 : z17637.toInt = x0.toInt + 1 := ar_add ez17637 (rfl : x0.toInt = x0.toInt) (by decide : (1 : Int32).toInt = 1) (by omega) (by omega)
  have rz17637 : 1 ≤ z17637.toInt ∧ z17637.toInt ≤ 6 := by omega
  refine t_ist X hT m0 g0 rfl (by omega) (row_mv (by omega) (by omega)) dX13_adds_8 (fun F H locs hT v17638 h1v17638 h2v17638 => ?_)
  have hfr : (∀ b j : Nat, fld F b j = fld Fo b j) ∧ (∀ b j : Nat, tag b ≠ 37 → elm F b j = elm Fo b j) := ⟨fun b j  => (h2v17638 b j).trans (hfr.1 b j ), fun b j a37 => (h1v17638 b j (Or.inl (at_ne g0 a37))).trans (hfr.2 b j a37)⟩
  refine lv_aload_n hx hb dX13_adds_9 rfl (lv_at hl 0 rfl) ?_
  refine lv_iconst (v := 0) hx hb dX13_adds_10 (by decide) ?_
  refine lv_iload_n hx hb dX13_adds_11 rfl (lv_at hl 1 rfl) ?_
  refine lv_iadd hx hb dX13_adds_12 ?_
  refine lv_topi (fun z17639 ez17639 => ?_)
  obtain rfl : p1 = z17639 := (ar_zadd ez17639).symm
  refine t_ild X hT m0 g0 rfl (by omega) dX13_adds_13 (fun z17640 vz17640 rz17640 => ?_)
  obtain rfl : z17637 = z17640 := v17638.symm.trans vz17640
  refine lv_istore (lv' := [(7, .int z17637), (0, .ref p0), (1, .int p1), (2, .int p2), (3, .int p3), (4, .int p4), (5, .int p5), (6, .int p6)]) hx hb dX13_adds_14 hl (by decide) rfl (fun ls hl => ?_)
  refine lv_aload_n hx hb dX13_adds_16 rfl (lv_at hl 1 rfl) ?_
  refine lv_iload_n hx hb dX13_adds_17 rfl (lv_at hl 2 rfl) ?_
  refine lv_iload hx hb dX13_adds_18 (lv_at hl 0 rfl) ?_
  refine lv_iconst (v := 0) hx hb dX13_adds_20 (by decide) ?_
  refine t_cSi (n := 3) (As := [.int p1, .int z17637, .int 0]) (rest := [.ref p0]) X hT (km49_X13_part l G tag L F hT.2.2.2 p1 z17637 0 (by omega) (by omega) (by decide)) qw_661 qw_662 qw_5 qw_663 ⟨by decide +kernel, by decide +kernel, by decide +kernel⟩ ⟨Nat.le_of_ble_eq_true rfl, Nat.le_of_ble_eq_true rfl⟩ hl rfl rfl (Nat.le_of_ble_eq_true rfl) dX13_adds_21 ⟨Nat.le_of_ble_eq_true rfl, Nat.le_of_ble_eq_true rfl⟩ (fun z17641 F9 H locs hT hz17641 => ?_)
  obtain ⟨fz17641, hz17641, xz17641_0⟩ := hz17641
  rw [fz17641] at hT
  have k17642 : (0 : Int32).toInt = 0 := by decide
  refine lv_iload_n hx hb dX13_adds_24 rfl (lv_at hl 3 rfl) ?_
  refine t_ist X hT m0 g0 rfl (by omega) (row_sv (by omega) (by omega) (by omega)) dX13_adds_25 (fun F H locs hT v17643 h1v17643 h2v17643 => ?_)
  have v17638 := (h1v17643 _ _ (Or.inr (ine (by omega) (by omega) (by omega)))).trans v17638
  have hfr : (∀ b j : Nat, fld F b j = fld Fo b j) ∧ (∀ b j : Nat, tag b ≠ 37 → elm F b j = elm Fo b j) := ⟨fun b j  => (h2v17643 b j).trans (hfr.1 b j ), fun b j a37 => (h1v17643 b j (Or.inl (at_ne g0 a37))).trans (hfr.2 b j a37)⟩
  refine lv_aload_n hx hb dX13_adds_26 rfl (lv_at hl 1 rfl) ?_
  refine lv_iload_n hx hb dX13_adds_27 rfl (lv_at hl 2 rfl) ?_
  refine lv_iload hx hb dX13_adds_28 (lv_at hl 0 rfl) ?_
  refine lv_iconst (v := 1) hx hb dX13_adds_30 (by decide) ?_
  refine t_cSi (n := 3) (As := [.int p1, .int z17637, .int 1]) (rest := [.ref p0]) X hT (km49_X13_part l G tag L F hT.2.2.2 p1 z17637 1 (by omega) (by omega) (by decide)) qw_661 qw_662 qw_5 qw_663 ⟨by decide +kernel, by decide +kernel, by decide +kernel⟩ ⟨Nat.le_of_ble_eq_true rfl, Nat.le_of_ble_eq_true rfl⟩ hl rfl rfl (Nat.le_of_ble_eq_true rfl) dX13_adds_31 ⟨Nat.le_of_ble_eq_true rfl, Nat.le_of_ble_eq_true rfl⟩ (fun z17644 F9 H locs hT hz17644 => ?_)
  obtain ⟨fz17644, hz17644, xz17644_0⟩ := hz17644
  rw [fz17644] at hT
  have k17645 : (1 : Int32).toInt = 1 := by decide
  refine lv_iload_n hx hb dX13_adds_34 rfl (lv_at hl 4 rfl) ?_
  refine t_ist X hT m0 g0 rfl (by omega) (row_fv (by omega) (Or.inr (Or.inr (by omega)))) dX13_adds_35 (fun F H locs hT v17646 h1v17646 h2v17646 => ?_)
  have v17638 := (h1v17646 _ _ (Or.inr (ine (by omega) (by omega) (by omega)))).trans v17638
  have hfr : (∀ b j : Nat, fld F b j = fld Fo b j) ∧ (∀ b j : Nat, tag b ≠ 37 → elm F b j = elm Fo b j) := ⟨fun b j  => (h2v17646 b j).trans (hfr.1 b j ), fun b j a37 => (h1v17646 b j (Or.inl (at_ne g0 a37))).trans (hfr.2 b j a37)⟩
  refine lv_aload_n hx hb dX13_adds_36 rfl (lv_at hl 1 rfl) ?_
  refine lv_iload_n hx hb dX13_adds_37 rfl (lv_at hl 2 rfl) ?_
  refine lv_iload hx hb dX13_adds_38 (lv_at hl 0 rfl) ?_
  refine lv_iconst (v := 2) hx hb dX13_adds_40 (by decide) ?_
  refine t_cSi (n := 3) (As := [.int p1, .int z17637, .int 2]) (rest := [.ref p0]) X hT (km49_X13_part l G tag L F hT.2.2.2 p1 z17637 2 (by omega) (by omega) (by decide)) qw_661 qw_662 qw_5 qw_663 ⟨by decide +kernel, by decide +kernel, by decide +kernel⟩ ⟨Nat.le_of_ble_eq_true rfl, Nat.le_of_ble_eq_true rfl⟩ hl rfl rfl (Nat.le_of_ble_eq_true rfl) dX13_adds_41 ⟨Nat.le_of_ble_eq_true rfl, Nat.le_of_ble_eq_true rfl⟩ (fun z17647 F9 H locs hT hz17647 => ?_)
  obtain ⟨fz17647, hz17647, xz17647_0⟩ := hz17647
  rw [fz17647] at hT
  have k17648 : (2 : Int32).toInt = 2 := by decide
  refine lv_iload hx hb dX13_adds_44 (lv_at hl 5 rfl) ?_
  refine t_ist X hT m0 g0 rfl (by omega) (row_fv (by omega) (Or.inr (Or.inr (by omega)))) dX13_adds_46 (fun F H locs hT v17649 h1v17649 h2v17649 => ?_)
  have v17638 := (h1v17649 _ _ (Or.inr (ine (by omega) (by omega) (by omega)))).trans v17638
  have hfr : (∀ b j : Nat, fld F b j = fld Fo b j) ∧ (∀ b j : Nat, tag b ≠ 37 → elm F b j = elm Fo b j) := ⟨fun b j  => (h2v17649 b j).trans (hfr.1 b j ), fun b j a37 => (h1v17649 b j (Or.inl (at_ne g0 a37))).trans (hfr.2 b j a37)⟩
  refine lv_aload_n hx hb dX13_adds_47 rfl (lv_at hl 1 rfl) ?_
  refine lv_iload_n hx hb dX13_adds_48 rfl (lv_at hl 2 rfl) ?_
  refine lv_iload hx hb dX13_adds_49 (lv_at hl 0 rfl) ?_
  refine lv_iconst (v := 3) hx hb dX13_adds_51 (by decide) ?_
  refine t_cSi (n := 3) (As := [.int p1, .int z17637, .int 3]) (rest := [.ref p0]) X hT (km49_X13_part l G tag L F hT.2.2.2 p1 z17637 3 (by omega) (by omega) (by decide)) qw_661 qw_662 qw_5 qw_663 ⟨by decide +kernel, by decide +kernel, by decide +kernel⟩ ⟨Nat.le_of_ble_eq_true rfl, Nat.le_of_ble_eq_true rfl⟩ hl rfl rfl (Nat.le_of_ble_eq_true rfl) dX13_adds_52 ⟨Nat.le_of_ble_eq_true rfl, Nat.le_of_ble_eq_true rfl⟩ (fun z17650 F9 H locs hT hz17650 => ?_)
  obtain ⟨fz17650, hz17650, xz17650_0⟩ := hz17650
  rw [fz17650] at hT
  have k17651 : (3 : Int32).toInt = 3 := by decide
  refine lv_iload hx hb dX13_adds_55 (lv_at hl 6 rfl) ?_
  refine t_ist X hT m0 g0 rfl (by omega) (row_fv (by omega) (Or.inr (Or.inr (by omega)))) dX13_adds_57 (fun F H locs hT v17652 h1v17652 h2v17652 => ?_)
  have v17638 := (h1v17652 _ _ (Or.inr (ine (by omega) (by omega) (by omega)))).trans v17638
  have hfr : (∀ b j : Nat, fld F b j = fld Fo b j) ∧ (∀ b j : Nat, tag b ≠ 37 → elm F b j = elm Fo b j) := ⟨fun b j  => (h2v17652 b j).trans (hfr.1 b j ), fun b j a37 => (h1v17652 b j (Or.inl (at_ne g0 a37))).trans (hfr.2 b j a37)⟩
  refine lv_aload_n hx hb dX13_adds_58 rfl (lv_at hl 1 rfl) ?_
  refine lv_iload_n hx hb dX13_adds_59 rfl (lv_at hl 2 rfl) ?_
  refine lv_iload hx hb dX13_adds_60 (lv_at hl 0 rfl) ?_
  refine lv_iconst (v := 4) hx hb dX13_adds_62 (by decide) ?_
  refine t_cSi (n := 3) (As := [.int p1, .int z17637, .int 4]) (rest := [.ref p0]) X hT (km49_X13_part l G tag L F hT.2.2.2 p1 z17637 4 (by omega) (by omega) (by decide)) qw_661 qw_662 qw_5 qw_663 ⟨by decide +kernel, by decide +kernel, by decide +kernel⟩ ⟨Nat.le_of_ble_eq_true rfl, Nat.le_of_ble_eq_true rfl⟩ hl rfl rfl (Nat.le_of_ble_eq_true rfl) dX13_adds_63 ⟨Nat.le_of_ble_eq_true rfl, Nat.le_of_ble_eq_true rfl⟩ (fun z17653 F9 H locs hT hz17653 => ?_)
  obtain ⟨fz17653, hz17653, xz17653_0⟩ := hz17653
  rw [fz17653] at hT
  have k17654 : (4 : Int32).toInt = 4 := by decide
  refine lv_iconst (v := 0) hx hb dX13_adds_66 (by decide) ?_
  refine t_ist X hT m0 g0 rfl (by omega) (row_fv (by omega) (Or.inr (Or.inr (by omega)))) dX13_adds_67 (fun F H locs hT v17655 h1v17655 h2v17655 => ?_)
  have v17638 := (h1v17655 _ _ (Or.inr (ine (by omega) (by omega) (by omega)))).trans v17638
  have hfr : (∀ b j : Nat, fld F b j = fld Fo b j) ∧ (∀ b j : Nat, tag b ≠ 37 → elm F b j = elm Fo b j) := ⟨fun b j  => (h2v17655 b j).trans (hfr.1 b j ), fun b j a37 => (h1v17655 b j (Or.inl (at_ne g0 a37))).trans (hfr.2 b j a37)⟩
  refine lv_aload_n hx hb dX13_adds_68 rfl (lv_at hl 1 rfl) ?_
  refine lv_iload_n hx hb dX13_adds_69 rfl (lv_at hl 2 rfl) ?_
  refine lv_iload hx hb dX13_adds_70 (lv_at hl 0 rfl) ?_
  refine lv_iconst (v := 5) hx hb dX13_adds_72 (by decide) ?_
  refine t_cSi (n := 3) (As := [.int p1, .int z17637, .int 5]) (rest := [.ref p0]) X hT (km49_X13_part l G tag L F hT.2.2.2 p1 z17637 5 (by omega) (by omega) (by decide)) qw_661 qw_662 qw_5 qw_663 ⟨by decide +kernel, by decide +kernel, by decide +kernel⟩ ⟨Nat.le_of_ble_eq_true rfl, Nat.le_of_ble_eq_true rfl⟩ hl rfl rfl (Nat.le_of_ble_eq_true rfl) dX13_adds_73 ⟨Nat.le_of_ble_eq_true rfl, Nat.le_of_ble_eq_true rfl⟩ (fun z17656 F9 H locs hT hz17656 => ?_)
  obtain ⟨fz17656, hz17656, xz17656_0⟩ := hz17656
  rw [fz17656] at hT
  have k17657 : (5 : Int32).toInt = 5 := by decide
  refine lv_iconst (v := 0) hx hb dX13_adds_76 (by decide) ?_
  refine t_ist X hT m0 g0 rfl (by omega) (row_fv (by omega) (Or.inr (Or.inr (by omega)))) dX13_adds_77 (fun F H locs hT v17658 h1v17658 h2v17658 => ?_)
  have v17638 := (h1v17658 _ _ (Or.inr (ine (by omega) (by omega) (by omega)))).trans v17638
  have hfr : (∀ b j : Nat, fld F b j = fld Fo b j) ∧ (∀ b j : Nat, tag b ≠ 37 → elm F b j = elm Fo b j) := ⟨fun b j  => (h2v17658 b j).trans (hfr.1 b j ), fun b j a37 => (h1v17658 b j (Or.inl (at_ne g0 a37))).trans (hfr.2 b j a37)⟩
  refine lv_aload_n hx hb dX13_adds_78 rfl (lv_at hl 1 rfl) ?_
  refine lv_iload_n hx hb dX13_adds_79 rfl (lv_at hl 2 rfl) ?_
  refine lv_iload hx hb dX13_adds_80 (lv_at hl 0 rfl) ?_
  refine lv_bipush (v := 6) hx hb dX13_adds_82 (by decide) ?_
  refine t_cSi (n := 3) (As := [.int p1, .int z17637, .int 6]) (rest := [.ref p0]) X hT (km49_X13_part l G tag L F hT.2.2.2 p1 z17637 6 (by omega) (by omega) (by decide)) qw_661 qw_662 qw_5 qw_663 ⟨by decide +kernel, by decide +kernel, by decide +kernel⟩ ⟨Nat.le_of_ble_eq_true rfl, Nat.le_of_ble_eq_true rfl⟩ hl rfl rfl (Nat.le_of_ble_eq_true rfl) dX13_adds_84 ⟨Nat.le_of_ble_eq_true rfl, Nat.le_of_ble_eq_true rfl⟩ (fun z17659 F9 H locs hT hz17659 => ?_)
  obtain ⟨fz17659, hz17659, xz17659_0⟩ := hz17659
  rw [fz17659] at hT
  have k17660 : (6 : Int32).toInt = 6 := by decide
  refine lv_iconst (v := 0) hx hb dX13_adds_87 (by decide) ?_
  refine t_ist X hT m0 g0 rfl (by omega) (row_fv (by omega) (Or.inr (Or.inr (by omega)))) dX13_adds_88 (fun F H locs hT v17661 h1v17661 h2v17661 => ?_)
  have v17638 := (h1v17661 _ _ (Or.inr (ine (by omega) (by omega) (by omega)))).trans v17638
  have hfr : (∀ b j : Nat, fld F b j = fld Fo b j) ∧ (∀ b j : Nat, tag b ≠ 37 → elm F b j = elm Fo b j) := ⟨fun b j  => (h2v17661 b j).trans (hfr.1 b j ), fun b j a37 => (h1v17661 b j (Or.inl (at_ne g0 a37))).trans (hfr.2 b j a37)⟩
  refine lv_aload_n hx hb dX13_adds_89 rfl (lv_at hl 1 rfl) ?_
  refine lv_iload_n hx hb dX13_adds_90 rfl (lv_at hl 2 rfl) ?_
  refine lv_iload hx hb dX13_adds_91 (lv_at hl 0 rfl) ?_
  refine lv_bipush (v := 7) hx hb dX13_adds_93 (by decide) ?_
  refine t_cSi (n := 3) (As := [.int p1, .int z17637, .int 7]) (rest := [.ref p0]) X hT (km49_X13_part l G tag L F hT.2.2.2 p1 z17637 7 (by omega) (by omega) (by decide)) qw_661 qw_662 qw_5 qw_663 ⟨by decide +kernel, by decide +kernel, by decide +kernel⟩ ⟨Nat.le_of_ble_eq_true rfl, Nat.le_of_ble_eq_true rfl⟩ hl rfl rfl (Nat.le_of_ble_eq_true rfl) dX13_adds_95 ⟨Nat.le_of_ble_eq_true rfl, Nat.le_of_ble_eq_true rfl⟩ (fun z17662 F9 H locs hT hz17662 => ?_)
  obtain ⟨fz17662, hz17662, xz17662_0⟩ := hz17662
  rw [fz17662] at hT
  have k17663 : (7 : Int32).toInt = 7 := by decide
  refine lv_iload hx hb dX13_adds_98 (lv_at hl 7 rfl) ?_
  refine t_ist X hT m0 g0 rfl (by omega) (row_fv (by omega) (Or.inr (Or.inr (by omega)))) dX13_adds_100 (fun F H locs hT v17664 h1v17664 h2v17664 => ?_)
  have v17638 := (h1v17664 _ _ (Or.inr (ine (by omega) (by omega) (by omega)))).trans v17638
  have hfr : (∀ b j : Nat, fld F b j = fld Fo b j) ∧ (∀ b j : Nat, tag b ≠ 37 → elm F b j = elm Fo b j) := ⟨fun b j  => (h2v17664 b j).trans (hfr.1 b j ), fun b j a37 => (h1v17664 b j (Or.inl (at_ne g0 a37))).trans (hfr.2 b j a37)⟩
  exact t_vret hQ X hT ⟨hfr, ⟨_, v17638, by omega⟩⟩ (Nat.le_of_ble_eq_true rfl) (Nat.le_of_ble_eq_true rfl) dX13_adds_101
set_option maxHeartbeats 4000000 in
set_option maxRecDepth 100000 in
theorem km51_X13_readSkin (l : Launch) (G : KG) (tag : Nat → Nat) (L : List Nat) (Fo : Nat → va_E) (ho : okT G ttC tag L Fo) (p0 : Nat) (x0 : Nat) (x1 : Nat) (x2 : Nat) (x3 : Int32) (x4 : Int32) (x5 : Int32) (m0 : p0 ∈ L) (g0 : tag p0 = 46) (mx0 : x0 ∈ L) (gx0 : tag x0 = 44) (pf0 : fld Fo p0 4 = .ref x0) (mx1 : x1 ∈ L) (gx1 : tag x1 = 35) (pf1 : fld Fo x0 28 = .ref x1) (mx2 : x2 ∈ L) (gx2 : tag x2 = 36) (pf2 : fld Fo x0 29 = .ref x2) (hx3 : 0 ≤ x3.toInt ∧ x3.toInt ≤ 5) (pf3 : fld Fo p0 9 = .int x3) (hx4 : 0 ≤ x4.toInt ∧ x4.toInt ≤ 1000) (pf4 : fld Fo p0 8 = .int x4) (hx5 : 0 ≤ x5.toInt ∧ x5.toInt ≤ 7) (pf5 : fld Fo p0 13 = .int x5) (hrel : MSR Fo x1 x2) (hkf : KF x3 x5) : TMv l yX13_readSkin cX13_readSkin 6 { frames := 9, cells := 0, slots := 0, locals := 193 } G ttC tag L Fo [.ref p0] (fun F1 => ((∀ b j : Nat, (tag b ≠ 46 ∨ j ≠ 8) → (tag b ≠ 46 ∨ j ≠ 9) → (tag b ≠ 46 ∨ j ≠ 10) → (tag b ≠ 46 ∨ j ≠ 11) → (tag b ≠ 46 ∨ j ≠ 12) → (tag b ≠ 46 ∨ j ≠ 13) → (tag b ≠ 46 ∨ j ≠ 14) → (tag b ≠ 46 ∨ j ≠ 15) → fld F1 b j = fld Fo b j) ∧ (∀ b j : Nat, tag b ≠ 37 → elm F1 b j = elm Fo b j)) ∧ (MSR F1 x1 x2) ∧ (∃ so sp fa : Int32, fld F1 p0 9 = .int so ∧ fld F1 p0 8 = .int sp ∧ fld F1 p0 13 = .int fa ∧ (0 ≤ so.toInt ∧ so.toInt ≤ 5) ∧ (0 ≤ sp.toInt ∧ sp.toInt ≤ 1000) ∧ (0 ≤ fa.toInt ∧ fa.toInt ≤ 7) ∧ STK x3 so ∧ SPT x3 x4 so sp ∧ KF so fa)) := by
  refine t_bodyv (y := yX13_readSkin) (cd := cX13_readSkin) (mL := 6) (rm := { frames := 9, cells := 0, slots := 0, locals := 193 }) (av := [.ref p0]) (by decide) (Nat.le_of_ble_eq_true rfl) ho ?_
  intro p e s m args below meth c ls A Q hQ X hT hl
  have hx := X.1.1
  have hb := X.1.2.1
  have hl : lv_has ls 6 [(0, .ref p0)] := hl
  obtain ⟨F, hFo⟩ : ∃ F : Nat → va_E, F = Fo := ⟨_, rfl⟩
  rw [← hFo] at hT pf0 pf1 pf2 pf3 pf4 pf5 hrel
  have hfr : (∀ b j : Nat, (tag b ≠ 46 ∨ j ≠ 8) → (tag b ≠ 46 ∨ j ≠ 9) → (tag b ≠ 46 ∨ j ≠ 10) → (tag b ≠ 46 ∨ j ≠ 11) → (tag b ≠ 46 ∨ j ≠ 12) → (tag b ≠ 46 ∨ j ≠ 13) → (tag b ≠ 46 ∨ j ≠ 14) → (tag b ≠ 46 ∨ j ≠ 15) → fld F b j = fld Fo b j) ∧ (∀ b j : Nat, tag b ≠ 37 → elm F b j = elm Fo b j) := by
    rw [hFo]
    exact ⟨by intros; rfl, by intros; rfl⟩
  have hstk : STK x3 x3 := STK.rf
  have hspt : SPT x3 x4 x3 x4 := SPT.rf
  refine lv_aload_n hx hb dX13_readSkin_0 rfl (lv_at hl 0 rfl) ?_
  refine lv_iconst (v := 0) hx hb dX13_readSkin_1 (by decide) ?_
  refine lv_iconst (v := 1) hx hb dX13_readSkin_2 (by decide) ?_
  obtain ⟨z18808, qz18808, rz18808⟩ := t_fld hT mx0 gx0 rfl 0 rfl
  have rz18808 : 0 ≤ z18808.toInt ∧ z18808.toInt ≤ 12 := rz18808
  refine t_cVv (n := 2) (C := RX13) (T := TX13) (N := 37) (As := [.int 0, .int 1]) (rest := []) X hT (km15_X13_begins l G tag L F hT.2.2.2 p0 0 1 x0 x1 x2 x3 x4 x5 z18808 m0 g0 mx0 gx0 pf0 mx1 gx1 pf1 mx2 gx2 pf2 (by omega) pf3 (by omega) pf4 (by omega) pf5 (by omega) qz18808 hkf) m0 g0 rfl rfl qw_575 qw_576 qw_577 qw_5 qw_578 ⟨rfl, by decide +kernel, by decide +kernel, by decide +kernel⟩ ⟨Nat.le_of_ble_eq_true rfl, Nat.le_of_ble_eq_true rfl⟩ hl rfl rfl (Nat.le_of_ble_eq_true rfl) dX13_readSkin_3 ⟨Nat.le_of_ble_eq_true rfl, Nat.le_of_ble_eq_true rfl⟩ (fun F H locs hT hz18809 => ?_)
  obtain ⟨yz18809, ⟨soz18809, spz18809, faz18809, qsoz18809, qspz18809, qfaz18809, rsoz18809, rspz18809, rfaz18809, stz18809, ptz18809, hkf, pxz18809_0⟩⟩ := hz18809
  have pf0 := (yz18809.1 _ 4 (Or.inr (by decide)) (Or.inr (by decide)) (Or.inr (by decide)) (Or.inr (by decide)) (Or.inr (by decide)) (Or.inr (by decide)) (Or.inr (by decide)) (Or.inr (by decide))).trans pf0
  have pf1 := (yz18809.1 _ 28 (Or.inr (by decide)) (Or.inr (by decide)) (Or.inr (by decide)) (Or.inr (by decide)) (Or.inr (by decide)) (Or.inr (by decide)) (Or.inr (by decide)) (Or.inr (by decide))).trans pf1
  have pf2 := (yz18809.1 _ 29 (Or.inr (by decide)) (Or.inr (by decide)) (Or.inr (by decide)) (Or.inr (by decide)) (Or.inr (by decide)) (Or.inr (by decide)) (Or.inr (by decide)) (Or.inr (by decide))).trans pf2
  have qz18808 := (yz18809.1 _ 0 (Or.inr (by decide)) (Or.inr (by decide)) (Or.inr (by decide)) (Or.inr (by decide)) (Or.inr (by decide)) (Or.inr (by decide)) (Or.inr (by decide)) (Or.inr (by decide))).trans qz18808
  have hfr : (∀ b j : Nat, (tag b ≠ 46 ∨ j ≠ 8) → (tag b ≠ 46 ∨ j ≠ 9) → (tag b ≠ 46 ∨ j ≠ 10) → (tag b ≠ 46 ∨ j ≠ 11) → (tag b ≠ 46 ∨ j ≠ 12) → (tag b ≠ 46 ∨ j ≠ 13) → (tag b ≠ 46 ∨ j ≠ 14) → (tag b ≠ 46 ∨ j ≠ 15) → fld F b j = fld Fo b j) ∧ (∀ b j : Nat, tag b ≠ 37 → elm F b j = elm Fo b j) := ⟨fun b j n46_8 n46_9 n46_10 n46_11 n46_12 n46_13 n46_14 n46_15 => (yz18809.1 b j n46_8 n46_9 n46_10 n46_11 n46_12 n46_13 n46_14 n46_15).trans (hfr.1 b j n46_8 n46_9 n46_10 n46_11 n46_12 n46_13 n46_14 n46_15), fun b j a37 => (yz18809.2 b j ).trans (hfr.2 b j a37)⟩
  have hrel := msr_of (fun j => yz18809.2 _ j ) (fun j => yz18809.2 _ j ) hrel
  have hstk := STK.tr hstk stz18809
  have hspt := SPT.tr hspt ptz18809
  have k18810 : (0 : Int32).toInt = 0 := by decide
  have k18811 : (1 : Int32).toInt = 1 := by decide
  refine lv_aload_n hx hb dX13_readSkin_6 rfl (lv_at hl 0 rfl) ?_
  refine lv_iconst (v := 1) hx hb dX13_readSkin_7 (by decide) ?_
  refine t_cVi (n := 1) (C := RX13) (T := TX13) (N := 37) (As := [.int 1]) (rest := []) X hT (km29_X13_known l G tag L F hT.2.2.2 p0 1 x0 x1 x2 soz18809 spz18809 faz18809 m0 g0 (by decide) mx0 gx0 pf0 mx1 gx1 pf1 mx2 gx2 pf2 (by omega) qsoz18809 (by omega) qspz18809 (by omega) qfaz18809 hrel hkf) m0 g0 rfl rfl qw_636 qw_637 qw_638 qw_5 qw_639 ⟨rfl, by decide +kernel, by decide +kernel, by decide +kernel⟩ ⟨Nat.le_of_ble_eq_true rfl, Nat.le_of_ble_eq_true rfl⟩ hl rfl rfl (Nat.le_of_ble_eq_true rfl) dX13_readSkin_8 ⟨Nat.le_of_ble_eq_true rfl, Nat.le_of_ble_eq_true rfl⟩ (fun z18812 F H locs hT hz18812 => ?_)
  obtain ⟨hz18812, yz18812, hrel, ⟨soz18812, spz18812, faz18812, qsoz18812, qspz18812, qfaz18812, rsoz18812, rspz18812, rfaz18812, stz18812, ptz18812, hkf⟩⟩ := hz18812
  have pf0 := (yz18812.1 _ 4 (Or.inr (by decide)) (Or.inr (by decide)) (Or.inr (by decide))).trans pf0
  have pf1 := (yz18812.1 _ 28 (Or.inr (by decide)) (Or.inr (by decide)) (Or.inr (by decide))).trans pf1
  have pf2 := (yz18812.1 _ 29 (Or.inr (by decide)) (Or.inr (by decide)) (Or.inr (by decide))).trans pf2
  have qz18808 := (yz18812.1 _ 0 (Or.inr (by decide)) (Or.inr (by decide)) (Or.inr (by decide))).trans qz18808
  have qspz18809 := (yz18812.1 _ 8 (Or.inr (by decide)) (Or.inr (by decide)) (Or.inr (by decide))).trans qspz18809
  have hfr : (∀ b j : Nat, (tag b ≠ 46 ∨ j ≠ 8) → (tag b ≠ 46 ∨ j ≠ 9) → (tag b ≠ 46 ∨ j ≠ 10) → (tag b ≠ 46 ∨ j ≠ 11) → (tag b ≠ 46 ∨ j ≠ 12) → (tag b ≠ 46 ∨ j ≠ 13) → (tag b ≠ 46 ∨ j ≠ 14) → (tag b ≠ 46 ∨ j ≠ 15) → fld F b j = fld Fo b j) ∧ (∀ b j : Nat, tag b ≠ 37 → elm F b j = elm Fo b j) := ⟨fun b j n46_8 n46_9 n46_10 n46_11 n46_12 n46_13 n46_14 n46_15 => (yz18812.1 b j n46_9 n46_13 n46_14).trans (hfr.1 b j n46_8 n46_9 n46_10 n46_11 n46_12 n46_13 n46_14 n46_15), fun b j a37 => (yz18812.2 b j ).trans (hfr.2 b j a37)⟩
  have hstk := STK.tr hstk stz18812
  have hspt := SPT.tr hspt ptz18812
  refine lv_istore_n (lv' := [(1, .int z18812), (0, .ref p0)]) hx hb dX13_readSkin_11 rfl hl (by decide) rfl (fun ls hl => ?_)
  refine lv_aload_n hx hb dX13_readSkin_12 rfl (lv_at hl 1 rfl) ?_
  refine t_get (C := RX13) (T := TX13) (N := 37) X hT m0 g0 rfl rfl 9 (by decide) qw_478 inlX13 rfl dX13_readSkin_13 (fun v18813 hv18813 ov18813 => ?_)
  obtain rfl : v18813 = .int soz18812 := hv18813.symm.trans qsoz18812
  refine lv_iconst (v := 5) hx hb dX13_readSkin_16 (by decide) ?_
  refine lv_icmp_eq (tgt := 41) hx hb dX13_readSkin_17 (by decide) (fun c18814 => ?_) (fun c18814 => ?_)
  · have w18815 := cv_eq (rfl : soz18812.toInt = soz18812.toInt) (by decide : (5 : Int32).toInt = 5) c18814
    refine lv_aload_n hx hb dX13_readSkin_41 rfl (lv_at hl 1 rfl) ?_
    refine t_get (C := RX13) (T := TX13) (N := 37) X hT m0 g0 rfl rfl 9 (by decide) qw_478 inlX13 rfl dX13_readSkin_42 (fun v18816 hv18816 ov18816 => ?_)
    obtain rfl : v18816 = .int soz18812 := hv18816.symm.trans qsoz18812
    refine lv_iconst (v := 5) hx hb dX13_readSkin_45 (by decide) ?_
    refine lv_icmp_eq (tgt := 73) hx hb dX13_readSkin_46 (by decide) (fun c18817 => ?_) (fun c18817 => ?_)
    · have w18818 := cv_eq (rfl : soz18812.toInt = soz18812.toInt) (by decide : (5 : Int32).toInt = 5) c18817
      refine lv_aload_n hx hb dX13_readSkin_73 rfl (lv_at hl 1 rfl) ?_
      refine t_cVv (n := 0) (C := RX13) (T := TX13) (N := 37) (As := []) (rest := []) X hT (km14_X13_goesOn l G tag L F hT.2.2.2 p0 x0 x1 x2 soz18812 spz18812 faz18812 m0 g0 mx0 gx0 pf0 mx1 gx1 pf1 mx2 gx2 pf2 (by omega) qsoz18812 (by omega) qspz18812 (by omega) qfaz18812 hkf) m0 g0 rfl rfl qw_508 qw_509 qw_510 qw_5 qw_511 ⟨rfl, by decide +kernel, by decide +kernel, by decide +kernel⟩ ⟨Nat.le_of_ble_eq_true rfl, Nat.le_of_ble_eq_true rfl⟩ hl rfl rfl (Nat.le_of_ble_eq_true rfl) dX13_readSkin_74 ⟨Nat.le_of_ble_eq_true rfl, Nat.le_of_ble_eq_true rfl⟩ (fun F H locs hT hz18819 => ?_)
      obtain ⟨yz18819, ⟨soz18819, spz18819, faz18819, qsoz18819, qspz18819, qfaz18819, rsoz18819, rspz18819, rfaz18819, stz18819, ptz18819, hkf⟩⟩ := hz18819
      have pf0 := (yz18819.1 _ 4 (Or.inr (by decide)) (Or.inr (by decide)) (Or.inr (by decide)) (Or.inr (by decide)) (Or.inr (by decide)) (Or.inr (by decide))).trans pf0
      have pf1 := (yz18819.1 _ 28 (Or.inr (by decide)) (Or.inr (by decide)) (Or.inr (by decide)) (Or.inr (by decide)) (Or.inr (by decide)) (Or.inr (by decide))).trans pf1
      have pf2 := (yz18819.1 _ 29 (Or.inr (by decide)) (Or.inr (by decide)) (Or.inr (by decide)) (Or.inr (by decide)) (Or.inr (by decide)) (Or.inr (by decide))).trans pf2
      have qz18808 := (yz18819.1 _ 0 (Or.inr (by decide)) (Or.inr (by decide)) (Or.inr (by decide)) (Or.inr (by decide)) (Or.inr (by decide)) (Or.inr (by decide))).trans qz18808
      have qfaz18812 := (yz18819.1 _ 13 (Or.inr (by decide)) (Or.inr (by decide)) (Or.inr (by decide)) (Or.inr (by decide)) (Or.inr (by decide)) (Or.inr (by decide))).trans qfaz18812
      have hfr : (∀ b j : Nat, (tag b ≠ 46 ∨ j ≠ 8) → (tag b ≠ 46 ∨ j ≠ 9) → (tag b ≠ 46 ∨ j ≠ 10) → (tag b ≠ 46 ∨ j ≠ 11) → (tag b ≠ 46 ∨ j ≠ 12) → (tag b ≠ 46 ∨ j ≠ 13) → (tag b ≠ 46 ∨ j ≠ 14) → (tag b ≠ 46 ∨ j ≠ 15) → fld F b j = fld Fo b j) ∧ (∀ b j : Nat, tag b ≠ 37 → elm F b j = elm Fo b j) := ⟨fun b j n46_8 n46_9 n46_10 n46_11 n46_12 n46_13 n46_14 n46_15 => (yz18819.1 b j n46_8 n46_9 n46_10 n46_11 n46_12 n46_15).trans (hfr.1 b j n46_8 n46_9 n46_10 n46_11 n46_12 n46_13 n46_14 n46_15), fun b j a37 => (yz18819.2 b j ).trans (hfr.2 b j a37)⟩
      have hrel := msr_of (fun j => yz18819.2 _ j ) (fun j => yz18819.2 _ j ) hrel
      have hstk := STK.tr hstk stz18819
      have hspt := SPT.tr hspt ptz18819
      have k5z18819 : soz18819.toInt = 5 := stz18819 (by omega)
      refine lv_aload_n hx hb dX13_readSkin_77 rfl (lv_at hl 1 rfl) ?_
      refine lv_iconst (v := 0) hx hb dX13_readSkin_78 (by decide) ?_
      refine t_cVi (n := 1) (C := RX13) (T := TX13) (N := 37) (As := [.int 0]) (rest := []) X hT (km36_X13_readKnown l G tag L F hT.2.2.2 p0 0 x0 x1 x2 soz18819 spz18819 faz18819 m0 g0 (by decide) mx0 gx0 pf0 mx1 gx1 pf1 mx2 gx2 pf2 (by omega) qsoz18819 (by omega) qspz18819 (by omega) qfaz18819 hrel hkf) m0 g0 rfl rfl qw_632 qw_633 qw_634 qw_5 qw_635 ⟨rfl, by decide +kernel, by decide +kernel, by decide +kernel⟩ ⟨Nat.le_of_ble_eq_true rfl, Nat.le_of_ble_eq_true rfl⟩ hl rfl rfl (Nat.le_of_ble_eq_true rfl) dX13_readSkin_79 ⟨Nat.le_of_ble_eq_true rfl, Nat.le_of_ble_eq_true rfl⟩ (fun z18820 F H locs hT hz18820 => ?_)
      obtain ⟨hz18820, yz18820, hrel, ⟨soz18820, spz18820, faz18820, qsoz18820, qspz18820, qfaz18820, rsoz18820, rspz18820, rfaz18820, stz18820, ptz18820, hkf⟩⟩ := hz18820
      have pf0 := (yz18820.1 _ 4 (Or.inr (by decide)) (Or.inr (by decide)) (Or.inr (by decide)) (Or.inr (by decide)) (Or.inr (by decide)) (Or.inr (by decide)) (Or.inr (by decide)) (Or.inr (by decide))).trans pf0
      have pf1 := (yz18820.1 _ 28 (Or.inr (by decide)) (Or.inr (by decide)) (Or.inr (by decide)) (Or.inr (by decide)) (Or.inr (by decide)) (Or.inr (by decide)) (Or.inr (by decide)) (Or.inr (by decide))).trans pf1
      have pf2 := (yz18820.1 _ 29 (Or.inr (by decide)) (Or.inr (by decide)) (Or.inr (by decide)) (Or.inr (by decide)) (Or.inr (by decide)) (Or.inr (by decide)) (Or.inr (by decide)) (Or.inr (by decide))).trans pf2
      have qz18808 := (yz18820.1 _ 0 (Or.inr (by decide)) (Or.inr (by decide)) (Or.inr (by decide)) (Or.inr (by decide)) (Or.inr (by decide)) (Or.inr (by decide)) (Or.inr (by decide)) (Or.inr (by decide))).trans qz18808
      have hfr : (∀ b j : Nat, (tag b ≠ 46 ∨ j ≠ 8) → (tag b ≠ 46 ∨ j ≠ 9) → (tag b ≠ 46 ∨ j ≠ 10) → (tag b ≠ 46 ∨ j ≠ 11) → (tag b ≠ 46 ∨ j ≠ 12) → (tag b ≠ 46 ∨ j ≠ 13) → (tag b ≠ 46 ∨ j ≠ 14) → (tag b ≠ 46 ∨ j ≠ 15) → fld F b j = fld Fo b j) ∧ (∀ b j : Nat, tag b ≠ 37 → elm F b j = elm Fo b j) := ⟨fun b j n46_8 n46_9 n46_10 n46_11 n46_12 n46_13 n46_14 n46_15 => (yz18820.1 b j n46_8 n46_9 n46_10 n46_11 n46_12 n46_13 n46_14 n46_15).trans (hfr.1 b j n46_8 n46_9 n46_10 n46_11 n46_12 n46_13 n46_14 n46_15), fun b j a37 => (yz18820.2 b j ).trans (hfr.2 b j a37)⟩
      have hstk := STK.tr hstk stz18820
      have hspt := SPT.tr hspt ptz18820
      have k5z18820 : soz18820.toInt = 5 := stz18820 (by omega)
      refine lv_istore_n (lv' := [(2, .int z18820), (1, .int z18812), (0, .ref p0)]) hx hb dX13_readSkin_82 rfl hl (by decide) rfl (fun ls hl => ?_)
      refine lv_aload_n hx hb dX13_readSkin_83 rfl (lv_at hl 2 rfl) ?_
      refine t_cVi (n := 0) (C := RX13) (T := TX13) (N := 37) (As := []) (rest := []) X hT (km37_X13_readSide l G tag L F hT.2.2.2 p0 x0 x1 x2 soz18820 spz18820 faz18820 m0 g0 mx0 gx0 pf0 mx1 gx1 pf1 mx2 gx2 pf2 (by omega) qsoz18820 (by omega) qspz18820 (by omega) qfaz18820 hkf) m0 g0 rfl rfl qw_654 qw_655 qw_656 qw_5 qw_657 ⟨rfl, by decide +kernel, by decide +kernel, by decide +kernel⟩ ⟨Nat.le_of_ble_eq_true rfl, Nat.le_of_ble_eq_true rfl⟩ hl rfl rfl (Nat.le_of_ble_eq_true rfl) dX13_readSkin_84 ⟨Nat.le_of_ble_eq_true rfl, Nat.le_of_ble_eq_true rfl⟩ (fun z18821 F H locs hT hz18821 => ?_)
      obtain ⟨hz18821, yz18821, ⟨soz18821, spz18821, faz18821, qsoz18821, qspz18821, qfaz18821, rsoz18821, rspz18821, rfaz18821, stz18821, ptz18821, hkf⟩⟩ := hz18821
      have pf0 := (yz18821.1 _ 4 (Or.inr (by decide)) (Or.inr (by decide)) (Or.inr (by decide)) (Or.inr (by decide)) (Or.inr (by decide)) (Or.inr (by decide)) (Or.inr (by decide)) (Or.inr (by decide))).trans pf0
      have pf1 := (yz18821.1 _ 28 (Or.inr (by decide)) (Or.inr (by decide)) (Or.inr (by decide)) (Or.inr (by decide)) (Or.inr (by decide)) (Or.inr (by decide)) (Or.inr (by decide)) (Or.inr (by decide))).trans pf1
      have pf2 := (yz18821.1 _ 29 (Or.inr (by decide)) (Or.inr (by decide)) (Or.inr (by decide)) (Or.inr (by decide)) (Or.inr (by decide)) (Or.inr (by decide)) (Or.inr (by decide)) (Or.inr (by decide))).trans pf2
      have qz18808 := (yz18821.1 _ 0 (Or.inr (by decide)) (Or.inr (by decide)) (Or.inr (by decide)) (Or.inr (by decide)) (Or.inr (by decide)) (Or.inr (by decide)) (Or.inr (by decide)) (Or.inr (by decide))).trans qz18808
      have hfr : (∀ b j : Nat, (tag b ≠ 46 ∨ j ≠ 8) → (tag b ≠ 46 ∨ j ≠ 9) → (tag b ≠ 46 ∨ j ≠ 10) → (tag b ≠ 46 ∨ j ≠ 11) → (tag b ≠ 46 ∨ j ≠ 12) → (tag b ≠ 46 ∨ j ≠ 13) → (tag b ≠ 46 ∨ j ≠ 14) → (tag b ≠ 46 ∨ j ≠ 15) → fld F b j = fld Fo b j) ∧ (∀ b j : Nat, tag b ≠ 37 → elm F b j = elm Fo b j) := ⟨fun b j n46_8 n46_9 n46_10 n46_11 n46_12 n46_13 n46_14 n46_15 => (yz18821.1 b j n46_8 n46_9 n46_10 n46_11 n46_12 n46_13 n46_14 n46_15).trans (hfr.1 b j n46_8 n46_9 n46_10 n46_11 n46_12 n46_13 n46_14 n46_15), fun b j a37 => (yz18821.2 b j ).trans (hfr.2 b j a37)⟩
      have hrel := msr_of (fun j => yz18821.2 _ j ) (fun j => yz18821.2 _ j ) hrel
      have hstk := STK.tr hstk stz18821
      have hspt := SPT.tr hspt ptz18821
      have k5z18821 : soz18821.toInt = 5 := stz18821 (by omega)
      refine lv_istore_n (lv' := [(3, .int z18821), (2, .int z18820), (1, .int z18812), (0, .ref p0)]) hx hb dX13_readSkin_87 rfl hl (by decide) rfl (fun ls hl => ?_)
      refine lv_aload_n hx hb dX13_readSkin_88 rfl (lv_at hl 3 rfl) ?_
      refine lv_iconst (v := 0) hx hb dX13_readSkin_89 (by decide) ?_
      refine lv_iconst (v := 2) hx hb dX13_readSkin_90 (by decide) ?_
      refine lv_aload_n hx hb dX13_readSkin_91 rfl (lv_at hl 3 rfl) ?_
      refine t_get (C := RX13) (T := TX13) (N := 37) X hT m0 g0 rfl rfl 4 (by decide) qw_477 inlX13 rfl dX13_readSkin_92 (fun v18822 hv18822 ov18822 => ?_)
      obtain rfl : v18822 = .ref x0 := hv18822.symm.trans pf0
      refine t_getN (C := RX12) (T := TX12) (N := 31) X hT mx0 gx0 rfl rfl 30 (by decide) (List.mem_of_getElem? (i := 34) rfl) inlX12 rfl dX13_readSkin_95 (fun v18823 hv18823 ov18823 => ?_)
      obtain ⟨b18824, rfl, mb18824, gb18824⟩ := okV_r ov18823
      have gb18824 : tag b18824 = 37 := tg_of gb18824
      refine lv_iconst (v := 0) hx hb dX13_readSkin_98 (by decide) ?_
      refine lv_iload_n hx hb dX13_readSkin_99 rfl (lv_at hl 2 rfl) ?_
      refine lv_iadd hx hb dX13_readSkin_100 ?_
      refine lv_topi (fun z18825 ez18825 => ?_)
      obtain rfl : z18812 = z18825 := (ar_zadd ez18825).symm
      refine t_ild X hT mb18824 gb18824 rfl (by omega) dX13_readSkin_101 (fun z18826 vz18826 rz18826 => ?_)
      have rz18826 := row_ml (by omega) rz18826
      refine lv_iconst (v := 1) hx hb dX13_readSkin_102 (by decide) ?_
      refine lv_iadd hx hb dX13_readSkin_103 ?_
      refine lv_topi (fun z18827 ez18827 => ?_)
      have hz18827 : z18827.toInt = z18826.toInt + 1 := ar_add ez18827 (rfl : z18826.toInt = z18826.toInt) (by decide : (1 : Int32).toInt = 1) (by omega) (by omega)
      have rz18827 : 1 ≤ z18827.toInt ∧ z18827.toInt ≤ 7 := by omega
      refine lv_imul hx hb dX13_readSkin_104 ?_
      refine lv_topi (fun z18828 ez18828 => ?_)
      have hz18828 : z18828.toInt = 2 * z18827.toInt := ar_mul ez18828 (by decide : (2 : Int32).toInt = 2) (rfl : z18827.toInt = z18827.toInt) (by omega) (by omega)
      have rz18828 : 2 ≤ z18828.toInt ∧ z18828.toInt ≤ 14 := by omega
      refine lv_iconst (v := 2) hx hb dX13_readSkin_105 (by decide) ?_
      refine lv_isub hx hb dX13_readSkin_106 ?_
      refine lv_topi (fun z18829 ez18829 => ?_)
      have hz18829 : z18829.toInt = z18828.toInt - 2 := ar_sub ez18829 (rfl : z18828.toInt = z18828.toInt) (by decide : (2 : Int32).toInt = 2) (by omega) (by omega)
      have rz18829 : 0 ≤ z18829.toInt ∧ z18829.toInt ≤ 12 := by omega
      refine t_cVi (n := 2) (C := RX13) (T := TX13) (N := 37) (As := [.int 0, .int z18829]) (rest := []) X hT (km39_X13_readWhole l G tag L F hT.2.2.2 p0 0 z18829 x0 x1 x2 soz18821 spz18821 faz18821 m0 g0 (by decide) (by omega) mx0 gx0 pf0 mx1 gx1 pf1 mx2 gx2 pf2 (by omega) qsoz18821 (by omega) qspz18821 (by omega) qfaz18821 hkf) m0 g0 rfl rfl qw_560 qw_561 qw_562 qw_5 qw_563 ⟨rfl, by decide +kernel, by decide +kernel, by decide +kernel⟩ ⟨Nat.le_of_ble_eq_true rfl, Nat.le_of_ble_eq_true rfl⟩ hl rfl rfl (Nat.le_of_ble_eq_true rfl) dX13_readSkin_107 ⟨Nat.le_of_ble_eq_true rfl, Nat.le_of_ble_eq_true rfl⟩ (fun z18830 F H locs hT hz18830 => ?_)
      obtain ⟨hz18830, yz18830, ⟨soz18830, spz18830, faz18830, qsoz18830, qspz18830, qfaz18830, rsoz18830, rspz18830, rfaz18830, stz18830, ptz18830, hkf⟩⟩ := hz18830
      have pf0 := (yz18830.1 _ 4 (Or.inr (by decide)) (Or.inr (by decide)) (Or.inr (by decide)) (Or.inr (by decide)) (Or.inr (by decide)) (Or.inr (by decide)) (Or.inr (by decide)) (Or.inr (by decide))).trans pf0
      have pf1 := (yz18830.1 _ 28 (Or.inr (by decide)) (Or.inr (by decide)) (Or.inr (by decide)) (Or.inr (by decide)) (Or.inr (by decide)) (Or.inr (by decide)) (Or.inr (by decide)) (Or.inr (by decide))).trans pf1
      have pf2 := (yz18830.1 _ 29 (Or.inr (by decide)) (Or.inr (by decide)) (Or.inr (by decide)) (Or.inr (by decide)) (Or.inr (by decide)) (Or.inr (by decide)) (Or.inr (by decide)) (Or.inr (by decide))).trans pf2
      have qz18808 := (yz18830.1 _ 0 (Or.inr (by decide)) (Or.inr (by decide)) (Or.inr (by decide)) (Or.inr (by decide)) (Or.inr (by decide)) (Or.inr (by decide)) (Or.inr (by decide)) (Or.inr (by decide))).trans qz18808
      have hv18823 := (yz18830.1 _ 30 (Or.inr (by decide)) (Or.inr (by decide)) (Or.inr (by decide)) (Or.inr (by decide)) (Or.inr (by decide)) (Or.inr (by decide)) (Or.inr (by decide)) (Or.inr (by decide))).trans hv18823
      have vz18826 := (yz18830.2 _ _ ).trans vz18826
      have hfr : (∀ b j : Nat, (tag b ≠ 46 ∨ j ≠ 8) → (tag b ≠ 46 ∨ j ≠ 9) → (tag b ≠ 46 ∨ j ≠ 10) → (tag b ≠ 46 ∨ j ≠ 11) → (tag b ≠ 46 ∨ j ≠ 12) → (tag b ≠ 46 ∨ j ≠ 13) → (tag b ≠ 46 ∨ j ≠ 14) → (tag b ≠ 46 ∨ j ≠ 15) → fld F b j = fld Fo b j) ∧ (∀ b j : Nat, tag b ≠ 37 → elm F b j = elm Fo b j) := ⟨fun b j n46_8 n46_9 n46_10 n46_11 n46_12 n46_13 n46_14 n46_15 => (yz18830.1 b j n46_8 n46_9 n46_10 n46_11 n46_12 n46_13 n46_14 n46_15).trans (hfr.1 b j n46_8 n46_9 n46_10 n46_11 n46_12 n46_13 n46_14 n46_15), fun b j a37 => (yz18830.2 b j ).trans (hfr.2 b j a37)⟩
      have hrel := msr_of (fun j => yz18830.2 _ j ) (fun j => yz18830.2 _ j ) hrel
      have hstk := STK.tr hstk stz18830
      have hspt := SPT.tr hspt ptz18830
      have k5z18830 : soz18830.toInt = 5 := stz18830 (by omega)
      refine lv_istore (lv' := [(4, .int z18830), (3, .int z18821), (2, .int z18820), (1, .int z18812), (0, .ref p0)]) hx hb dX13_readSkin_110 hl (by decide) rfl (fun ls hl => ?_)
      refine lv_aload_n hx hb dX13_readSkin_112 rfl (lv_at hl 4 rfl) ?_
      refine m_ldcKw X 76 rfl dX13_readSkin_113 ?_
      refine lv_iconst (v := 0) hx hb dX13_readSkin_116 (by decide) ?_
      refine lv_bipush (v := 99) hx hb dX13_readSkin_117 (by decide) ?_
      refine t_cVi (n := 3) (C := RX13) (T := TX13) (N := 37) (As := [.ref (G.2 (100 + 76)), .int 0, .int 99]) (rest := []) X hT (km43_X13_readPart l G tag L F hT.2.2.2 p0 76 0 99 x0 x1 x2 soz18830 spz18830 faz18830 m0 g0 (by decide) (by decide) (by decide) mx0 gx0 pf0 mx1 gx1 pf1 mx2 gx2 pf2 (by omega) qsoz18830 (by omega) qspz18830 (by omega) qfaz18830 hkf) m0 g0 rfl rfl qw_552 qw_553 qw_554 qw_5 qw_555 ⟨rfl, by decide +kernel, by decide +kernel, by decide +kernel⟩ ⟨Nat.le_of_ble_eq_true rfl, Nat.le_of_ble_eq_true rfl⟩ hl rfl rfl (Nat.le_of_ble_eq_true rfl) dX13_readSkin_119 ⟨Nat.le_of_ble_eq_true rfl, Nat.le_of_ble_eq_true rfl⟩ (fun z18831 F H locs hT hz18831 => ?_)
      obtain ⟨hz18831, yz18831, ⟨soz18831, spz18831, faz18831, qsoz18831, qspz18831, qfaz18831, rsoz18831, rspz18831, rfaz18831, stz18831, ptz18831, hkf⟩⟩ := hz18831
      have pf0 := (yz18831.1 _ 4 (Or.inr (by decide)) (Or.inr (by decide)) (Or.inr (by decide)) (Or.inr (by decide)) (Or.inr (by decide)) (Or.inr (by decide)) (Or.inr (by decide)) (Or.inr (by decide))).trans pf0
      have pf1 := (yz18831.1 _ 28 (Or.inr (by decide)) (Or.inr (by decide)) (Or.inr (by decide)) (Or.inr (by decide)) (Or.inr (by decide)) (Or.inr (by decide)) (Or.inr (by decide)) (Or.inr (by decide))).trans pf1
      have pf2 := (yz18831.1 _ 29 (Or.inr (by decide)) (Or.inr (by decide)) (Or.inr (by decide)) (Or.inr (by decide)) (Or.inr (by decide)) (Or.inr (by decide)) (Or.inr (by decide)) (Or.inr (by decide))).trans pf2
      have qz18808 := (yz18831.1 _ 0 (Or.inr (by decide)) (Or.inr (by decide)) (Or.inr (by decide)) (Or.inr (by decide)) (Or.inr (by decide)) (Or.inr (by decide)) (Or.inr (by decide)) (Or.inr (by decide))).trans qz18808
      have hv18823 := (yz18831.1 _ 30 (Or.inr (by decide)) (Or.inr (by decide)) (Or.inr (by decide)) (Or.inr (by decide)) (Or.inr (by decide)) (Or.inr (by decide)) (Or.inr (by decide)) (Or.inr (by decide))).trans hv18823
      have vz18826 := (yz18831.2 _ _ ).trans vz18826
      have hfr : (∀ b j : Nat, (tag b ≠ 46 ∨ j ≠ 8) → (tag b ≠ 46 ∨ j ≠ 9) → (tag b ≠ 46 ∨ j ≠ 10) → (tag b ≠ 46 ∨ j ≠ 11) → (tag b ≠ 46 ∨ j ≠ 12) → (tag b ≠ 46 ∨ j ≠ 13) → (tag b ≠ 46 ∨ j ≠ 14) → (tag b ≠ 46 ∨ j ≠ 15) → fld F b j = fld Fo b j) ∧ (∀ b j : Nat, tag b ≠ 37 → elm F b j = elm Fo b j) := ⟨fun b j n46_8 n46_9 n46_10 n46_11 n46_12 n46_13 n46_14 n46_15 => (yz18831.1 b j n46_8 n46_9 n46_10 n46_11 n46_12 n46_13 n46_14 n46_15).trans (hfr.1 b j n46_8 n46_9 n46_10 n46_11 n46_12 n46_13 n46_14 n46_15), fun b j a37 => (yz18831.2 b j ).trans (hfr.2 b j a37)⟩
      have hrel := msr_of (fun j => yz18831.2 _ j ) (fun j => yz18831.2 _ j ) hrel
      have hstk := STK.tr hstk stz18831
      have hspt := SPT.tr hspt ptz18831
      have k5z18831 : soz18831.toInt = 5 := stz18831 (by omega)
      refine lv_istore (lv' := [(5, .int z18831), (4, .int z18830), (3, .int z18821), (2, .int z18820), (1, .int z18812), (0, .ref p0)]) hx hb dX13_readSkin_122 hl (by decide) rfl (fun ls hl => ?_)
      refine lv_aload_n hx hb dX13_readSkin_124 rfl (lv_at hl 5 rfl) ?_
      refine t_get (C := RX13) (T := TX13) (N := 37) X hT m0 g0 rfl rfl 9 (by decide) qw_478 inlX13 rfl dX13_readSkin_125 (fun v18832 hv18832 ov18832 => ?_)
      obtain rfl : v18832 = .int soz18831 := hv18832.symm.trans qsoz18831
      refine lv_iconst (v := 5) hx hb dX13_readSkin_128 (by decide) ?_
      refine lv_icmp_ne (tgt := 133) hx hb dX13_readSkin_129 (by decide) (fun c18833 => ?_) (fun c18833 => ?_)
      · have w18834 := cv_ne (rfl : soz18831.toInt = soz18831.toInt) (by decide : (5 : Int32).toInt = 5) c18833
        exfalso
        omega
      · have w18835 := cv_eq (rfl : soz18831.toInt = soz18831.toInt) (by decide : (5 : Int32).toInt = 5) c18833
        exact t_vret hQ X hT ⟨hfr, hrel, ⟨soz18831, spz18831, faz18831, qsoz18831, qspz18831, qfaz18831, (by omega), (by omega), (by omega), hstk, hspt, hkf⟩⟩ (Nat.le_of_ble_eq_true rfl) (Nat.le_of_ble_eq_true rfl) dX13_readSkin_132
    · have w18836 := cv_ne (rfl : soz18812.toInt = soz18812.toInt) (by decide : (5 : Int32).toInt = 5) c18817
      exfalso
      omega
  · have w18837 := cv_ne (rfl : soz18812.toInt = soz18812.toInt) (by decide : (5 : Int32).toInt = 5) c18814
    have w18838 := (fun (h9 : soz18812.toInt ≠ 5) => pxz18809_0 (fun e9 => h9 (stz18812 e9))) (by omega)
    refine lv_aload_n hx hb dX13_readSkin_20 rfl (lv_at hl 1 rfl) ?_
    refine t_get (C := RX13) (T := TX13) (N := 37) X hT m0 g0 rfl rfl 4 (by decide) qw_477 inlX13 rfl dX13_readSkin_21 (fun v18839 hv18839 ov18839 => ?_)
    obtain rfl : v18839 = .ref x0 := hv18839.symm.trans pf0
    refine t_getN (C := RX12) (T := TX12) (N := 31) X hT mx0 gx0 rfl rfl 30 (by decide) (List.mem_of_getElem? (i := 34) rfl) inlX12 rfl dX13_readSkin_24 (fun v18840 hv18840 ov18840 => ?_)
    obtain ⟨b18841, rfl, mb18841, gb18841⟩ := okV_r ov18840
    have gb18841 : tag b18841 = 37 := tg_of gb18841
    refine lv_iconst (v := 0) hx hb dX13_readSkin_27 (by decide) ?_
    refine lv_iload_n hx hb dX13_readSkin_28 rfl (lv_at hl 0 rfl) ?_
    refine lv_iadd hx hb dX13_readSkin_29 ?_
    refine lv_topi (fun z18842 ez18842 => ?_)
    obtain rfl : z18812 = z18842 := (ar_zadd ez18842).symm
    refine t_ild X hT mb18841 gb18841 rfl (by omega) dX13_readSkin_30 (fun z18843 vz18843 rz18843 => ?_)
    have rz18843 := row_ml (by omega) rz18843
    refine lv_bipush (v := 6) hx hb dX13_readSkin_31 (by decide) ?_
    refine lv_icmp_ne (tgt := 41) hx hb dX13_readSkin_33 (by decide) (fun c18844 => ?_) (fun c18844 => ?_)
    · have w18845 := cv_ne (rfl : z18843.toInt = z18843.toInt) (by decide : (6 : Int32).toInt = 6) c18844
      refine lv_aload_n hx hb dX13_readSkin_41 rfl (lv_at hl 1 rfl) ?_
      refine t_get (C := RX13) (T := TX13) (N := 37) X hT m0 g0 rfl rfl 9 (by decide) qw_478 inlX13 rfl dX13_readSkin_42 (fun v18846 hv18846 ov18846 => ?_)
      obtain rfl : v18846 = .int soz18812 := hv18846.symm.trans qsoz18812
      refine lv_iconst (v := 5) hx hb dX13_readSkin_45 (by decide) ?_
      refine lv_icmp_eq (tgt := 73) hx hb dX13_readSkin_46 (by decide) (fun c18847 => ?_) (fun c18847 => ?_)
      · have w18848 := cv_eq (rfl : soz18812.toInt = soz18812.toInt) (by decide : (5 : Int32).toInt = 5) c18847
        exfalso
        omega
      · have w18849 := cv_ne (rfl : soz18812.toInt = soz18812.toInt) (by decide : (5 : Int32).toInt = 5) c18847
        have w18850 := (fun (h9 : soz18812.toInt ≠ 5) => pxz18809_0 (fun e9 => h9 (stz18812 e9))) (by omega)
        refine lv_aload_n hx hb dX13_readSkin_49 rfl (lv_at hl 1 rfl) ?_
        refine t_get (C := RX13) (T := TX13) (N := 37) X hT m0 g0 rfl rfl 4 (by decide) qw_477 inlX13 rfl dX13_readSkin_50 (fun v18851 hv18851 ov18851 => ?_)
        obtain rfl : v18851 = .ref x0 := hv18851.symm.trans pf0
        refine lv_aload_n hx hb dX13_readSkin_53 rfl (lv_at hl 1 rfl) ?_
        refine t_get (C := RX13) (T := TX13) (N := 37) X hT m0 g0 rfl rfl 4 (by decide) qw_477 inlX13 rfl dX13_readSkin_54 (fun v18852 hv18852 ov18852 => ?_)
        obtain rfl : v18852 = .ref x0 := hv18852.symm.trans pf0
        refine t_getN (C := RX12) (T := TX12) (N := 31) X hT mx0 gx0 rfl rfl 30 (by decide) (List.mem_of_getElem? (i := 34) rfl) inlX12 rfl dX13_readSkin_57 (fun v18853 hv18853 ov18853 => ?_)
        obtain rfl : v18853 = .ref b18841 := hv18853.symm.trans hv18840
        refine lv_iload_n hx hb dX13_readSkin_60 rfl (lv_at hl 0 rfl) ?_
        refine t_cSi (n := 3) (As := [.ref x0, .ref b18841, .int z18812]) (rest := []) X hT (km48_X13_fitsIn l G tag L F hT.2.2.2 x0 b18841 z18812 z18808 mx0 gx0 mb18841 gb18841 (by omega) (by omega) qz18808) qw_644 qw_645 qw_5 qw_646 ⟨by decide +kernel, by decide +kernel, by decide +kernel⟩ ⟨Nat.le_of_ble_eq_true rfl, Nat.le_of_ble_eq_true rfl⟩ hl rfl rfl (Nat.le_of_ble_eq_true rfl) dX13_readSkin_61 ⟨Nat.le_of_ble_eq_true rfl, Nat.le_of_ble_eq_true rfl⟩ (fun z18854 F9 H locs hT hz18854 => ?_)
        obtain ⟨fz18854, hz18854⟩ := hz18854
        rw [fz18854] at hT
        refine lv_if_ne (tgt := 73) hx hb dX13_readSkin_64 (by decide) (fun c18855 => ?_) (fun c18855 => ?_)
        · have w18856 := cv_ne (rfl : z18854.toInt = z18854.toInt) (by decide : (0 : Int32).toInt = 0) c18855
          refine lv_aload_n hx hb dX13_readSkin_73 rfl (lv_at hl 1 rfl) ?_
          refine t_cVv (n := 0) (C := RX13) (T := TX13) (N := 37) (As := []) (rest := []) X hT (km14_X13_goesOn l G tag L F hT.2.2.2 p0 x0 x1 x2 soz18812 spz18812 faz18812 m0 g0 mx0 gx0 pf0 mx1 gx1 pf1 mx2 gx2 pf2 (by omega) qsoz18812 (by omega) qspz18812 (by omega) qfaz18812 hkf) m0 g0 rfl rfl qw_508 qw_509 qw_510 qw_5 qw_511 ⟨rfl, by decide +kernel, by decide +kernel, by decide +kernel⟩ ⟨Nat.le_of_ble_eq_true rfl, Nat.le_of_ble_eq_true rfl⟩ hl rfl rfl (Nat.le_of_ble_eq_true rfl) dX13_readSkin_74 ⟨Nat.le_of_ble_eq_true rfl, Nat.le_of_ble_eq_true rfl⟩ (fun F H locs hT hz18857 => ?_)
          obtain ⟨yz18857, ⟨soz18857, spz18857, faz18857, qsoz18857, qspz18857, qfaz18857, rsoz18857, rspz18857, rfaz18857, stz18857, ptz18857, hkf⟩⟩ := hz18857
          have pf0 := (yz18857.1 _ 4 (Or.inr (by decide)) (Or.inr (by decide)) (Or.inr (by decide)) (Or.inr (by decide)) (Or.inr (by decide)) (Or.inr (by decide))).trans pf0
          have pf1 := (yz18857.1 _ 28 (Or.inr (by decide)) (Or.inr (by decide)) (Or.inr (by decide)) (Or.inr (by decide)) (Or.inr (by decide)) (Or.inr (by decide))).trans pf1
          have pf2 := (yz18857.1 _ 29 (Or.inr (by decide)) (Or.inr (by decide)) (Or.inr (by decide)) (Or.inr (by decide)) (Or.inr (by decide)) (Or.inr (by decide))).trans pf2
          have qz18808 := (yz18857.1 _ 0 (Or.inr (by decide)) (Or.inr (by decide)) (Or.inr (by decide)) (Or.inr (by decide)) (Or.inr (by decide)) (Or.inr (by decide))).trans qz18808
          have qfaz18812 := (yz18857.1 _ 13 (Or.inr (by decide)) (Or.inr (by decide)) (Or.inr (by decide)) (Or.inr (by decide)) (Or.inr (by decide)) (Or.inr (by decide))).trans qfaz18812
          have hv18840 := (yz18857.1 _ 30 (Or.inr (by decide)) (Or.inr (by decide)) (Or.inr (by decide)) (Or.inr (by decide)) (Or.inr (by decide)) (Or.inr (by decide))).trans hv18840
          have vz18843 := (yz18857.2 _ _ ).trans vz18843
          have hfr : (∀ b j : Nat, (tag b ≠ 46 ∨ j ≠ 8) → (tag b ≠ 46 ∨ j ≠ 9) → (tag b ≠ 46 ∨ j ≠ 10) → (tag b ≠ 46 ∨ j ≠ 11) → (tag b ≠ 46 ∨ j ≠ 12) → (tag b ≠ 46 ∨ j ≠ 13) → (tag b ≠ 46 ∨ j ≠ 14) → (tag b ≠ 46 ∨ j ≠ 15) → fld F b j = fld Fo b j) ∧ (∀ b j : Nat, tag b ≠ 37 → elm F b j = elm Fo b j) := ⟨fun b j n46_8 n46_9 n46_10 n46_11 n46_12 n46_13 n46_14 n46_15 => (yz18857.1 b j n46_8 n46_9 n46_10 n46_11 n46_12 n46_15).trans (hfr.1 b j n46_8 n46_9 n46_10 n46_11 n46_12 n46_13 n46_14 n46_15), fun b j a37 => (yz18857.2 b j ).trans (hfr.2 b j a37)⟩
          have hrel := msr_of (fun j => yz18857.2 _ j ) (fun j => yz18857.2 _ j ) hrel
          have hstk := STK.tr hstk stz18857
          have hspt := SPT.tr hspt ptz18857
          refine lv_aload_n hx hb dX13_readSkin_77 rfl (lv_at hl 1 rfl) ?_
          refine lv_iconst (v := 0) hx hb dX13_readSkin_78 (by decide) ?_
          refine t_cVi (n := 1) (C := RX13) (T := TX13) (N := 37) (As := [.int 0]) (rest := []) X hT (km36_X13_readKnown l G tag L F hT.2.2.2 p0 0 x0 x1 x2 soz18857 spz18857 faz18857 m0 g0 (by decide) mx0 gx0 pf0 mx1 gx1 pf1 mx2 gx2 pf2 (by omega) qsoz18857 (by omega) qspz18857 (by omega) qfaz18857 hrel hkf) m0 g0 rfl rfl qw_632 qw_633 qw_634 qw_5 qw_635 ⟨rfl, by decide +kernel, by decide +kernel, by decide +kernel⟩ ⟨Nat.le_of_ble_eq_true rfl, Nat.le_of_ble_eq_true rfl⟩ hl rfl rfl (Nat.le_of_ble_eq_true rfl) dX13_readSkin_79 ⟨Nat.le_of_ble_eq_true rfl, Nat.le_of_ble_eq_true rfl⟩ (fun z18858 F H locs hT hz18858 => ?_)
          obtain ⟨hz18858, yz18858, hrel, ⟨soz18858, spz18858, faz18858, qsoz18858, qspz18858, qfaz18858, rsoz18858, rspz18858, rfaz18858, stz18858, ptz18858, hkf⟩⟩ := hz18858
          have pf0 := (yz18858.1 _ 4 (Or.inr (by decide)) (Or.inr (by decide)) (Or.inr (by decide)) (Or.inr (by decide)) (Or.inr (by decide)) (Or.inr (by decide)) (Or.inr (by decide)) (Or.inr (by decide))).trans pf0
          have pf1 := (yz18858.1 _ 28 (Or.inr (by decide)) (Or.inr (by decide)) (Or.inr (by decide)) (Or.inr (by decide)) (Or.inr (by decide)) (Or.inr (by decide)) (Or.inr (by decide)) (Or.inr (by decide))).trans pf1
          have pf2 := (yz18858.1 _ 29 (Or.inr (by decide)) (Or.inr (by decide)) (Or.inr (by decide)) (Or.inr (by decide)) (Or.inr (by decide)) (Or.inr (by decide)) (Or.inr (by decide)) (Or.inr (by decide))).trans pf2
          have qz18808 := (yz18858.1 _ 0 (Or.inr (by decide)) (Or.inr (by decide)) (Or.inr (by decide)) (Or.inr (by decide)) (Or.inr (by decide)) (Or.inr (by decide)) (Or.inr (by decide)) (Or.inr (by decide))).trans qz18808
          have hv18840 := (yz18858.1 _ 30 (Or.inr (by decide)) (Or.inr (by decide)) (Or.inr (by decide)) (Or.inr (by decide)) (Or.inr (by decide)) (Or.inr (by decide)) (Or.inr (by decide)) (Or.inr (by decide))).trans hv18840
          have vz18843 := (yz18858.2 _ _ ).trans vz18843
          have hfr : (∀ b j : Nat, (tag b ≠ 46 ∨ j ≠ 8) → (tag b ≠ 46 ∨ j ≠ 9) → (tag b ≠ 46 ∨ j ≠ 10) → (tag b ≠ 46 ∨ j ≠ 11) → (tag b ≠ 46 ∨ j ≠ 12) → (tag b ≠ 46 ∨ j ≠ 13) → (tag b ≠ 46 ∨ j ≠ 14) → (tag b ≠ 46 ∨ j ≠ 15) → fld F b j = fld Fo b j) ∧ (∀ b j : Nat, tag b ≠ 37 → elm F b j = elm Fo b j) := ⟨fun b j n46_8 n46_9 n46_10 n46_11 n46_12 n46_13 n46_14 n46_15 => (yz18858.1 b j n46_8 n46_9 n46_10 n46_11 n46_12 n46_13 n46_14 n46_15).trans (hfr.1 b j n46_8 n46_9 n46_10 n46_11 n46_12 n46_13 n46_14 n46_15), fun b j a37 => (yz18858.2 b j ).trans (hfr.2 b j a37)⟩
          have hstk := STK.tr hstk stz18858
          have hspt := SPT.tr hspt ptz18858
          refine lv_istore_n (lv' := [(2, .int z18858), (1, .int z18812), (0, .ref p0)]) hx hb dX13_readSkin_82 rfl hl (by decide) rfl (fun ls hl => ?_)
          refine lv_aload_n hx hb dX13_readSkin_83 rfl (lv_at hl 2 rfl) ?_
          refine t_cVi (n := 0) (C := RX13) (T := TX13) (N := 37) (As := []) (rest := []) X hT (km37_X13_readSide l G tag L F hT.2.2.2 p0 x0 x1 x2 soz18858 spz18858 faz18858 m0 g0 mx0 gx0 pf0 mx1 gx1 pf1 mx2 gx2 pf2 (by omega) qsoz18858 (by omega) qspz18858 (by omega) qfaz18858 hkf) m0 g0 rfl rfl qw_654 qw_655 qw_656 qw_5 qw_657 ⟨rfl, by decide +kernel, by decide +kernel, by decide +kernel⟩ ⟨Nat.le_of_ble_eq_true rfl, Nat.le_of_ble_eq_true rfl⟩ hl rfl rfl (Nat.le_of_ble_eq_true rfl) dX13_readSkin_84 ⟨Nat.le_of_ble_eq_true rfl, Nat.le_of_ble_eq_true rfl⟩ (fun z18859 F H locs hT hz18859 => ?_)
          obtain ⟨hz18859, yz18859, ⟨soz18859, spz18859, faz18859, qsoz18859, qspz18859, qfaz18859, rsoz18859, rspz18859, rfaz18859, stz18859, ptz18859, hkf⟩⟩ := hz18859
          have pf0 := (yz18859.1 _ 4 (Or.inr (by decide)) (Or.inr (by decide)) (Or.inr (by decide)) (Or.inr (by decide)) (Or.inr (by decide)) (Or.inr (by decide)) (Or.inr (by decide)) (Or.inr (by decide))).trans pf0
          have pf1 := (yz18859.1 _ 28 (Or.inr (by decide)) (Or.inr (by decide)) (Or.inr (by decide)) (Or.inr (by decide)) (Or.inr (by decide)) (Or.inr (by decide)) (Or.inr (by decide)) (Or.inr (by decide))).trans pf1
          have pf2 := (yz18859.1 _ 29 (Or.inr (by decide)) (Or.inr (by decide)) (Or.inr (by decide)) (Or.inr (by decide)) (Or.inr (by decide)) (Or.inr (by decide)) (Or.inr (by decide)) (Or.inr (by decide))).trans pf2
          have qz18808 := (yz18859.1 _ 0 (Or.inr (by decide)) (Or.inr (by decide)) (Or.inr (by decide)) (Or.inr (by decide)) (Or.inr (by decide)) (Or.inr (by decide)) (Or.inr (by decide)) (Or.inr (by decide))).trans qz18808
          have hv18840 := (yz18859.1 _ 30 (Or.inr (by decide)) (Or.inr (by decide)) (Or.inr (by decide)) (Or.inr (by decide)) (Or.inr (by decide)) (Or.inr (by decide)) (Or.inr (by decide)) (Or.inr (by decide))).trans hv18840
          have vz18843 := (yz18859.2 _ _ ).trans vz18843
          have hfr : (∀ b j : Nat, (tag b ≠ 46 ∨ j ≠ 8) → (tag b ≠ 46 ∨ j ≠ 9) → (tag b ≠ 46 ∨ j ≠ 10) → (tag b ≠ 46 ∨ j ≠ 11) → (tag b ≠ 46 ∨ j ≠ 12) → (tag b ≠ 46 ∨ j ≠ 13) → (tag b ≠ 46 ∨ j ≠ 14) → (tag b ≠ 46 ∨ j ≠ 15) → fld F b j = fld Fo b j) ∧ (∀ b j : Nat, tag b ≠ 37 → elm F b j = elm Fo b j) := ⟨fun b j n46_8 n46_9 n46_10 n46_11 n46_12 n46_13 n46_14 n46_15 => (yz18859.1 b j n46_8 n46_9 n46_10 n46_11 n46_12 n46_13 n46_14 n46_15).trans (hfr.1 b j n46_8 n46_9 n46_10 n46_11 n46_12 n46_13 n46_14 n46_15), fun b j a37 => (yz18859.2 b j ).trans (hfr.2 b j a37)⟩
          have hrel := msr_of (fun j => yz18859.2 _ j ) (fun j => yz18859.2 _ j ) hrel
          have hstk := STK.tr hstk stz18859
          have hspt := SPT.tr hspt ptz18859
          refine lv_istore_n (lv' := [(3, .int z18859), (2, .int z18858), (1, .int z18812), (0, .ref p0)]) hx hb dX13_readSkin_87 rfl hl (by decide) rfl (fun ls hl => ?_)
          refine lv_aload_n hx hb dX13_readSkin_88 rfl (lv_at hl 3 rfl) ?_
          refine lv_iconst (v := 0) hx hb dX13_readSkin_89 (by decide) ?_
          refine lv_iconst (v := 2) hx hb dX13_readSkin_90 (by decide) ?_
          refine lv_aload_n hx hb dX13_readSkin_91 rfl (lv_at hl 3 rfl) ?_
          refine t_get (C := RX13) (T := TX13) (N := 37) X hT m0 g0 rfl rfl 4 (by decide) qw_477 inlX13 rfl dX13_readSkin_92 (fun v18860 hv18860 ov18860 => ?_)
          obtain rfl : v18860 = .ref x0 := hv18860.symm.trans pf0
          refine t_getN (C := RX12) (T := TX12) (N := 31) X hT mx0 gx0 rfl rfl 30 (by decide) (List.mem_of_getElem? (i := 34) rfl) inlX12 rfl dX13_readSkin_95 (fun v18861 hv18861 ov18861 => ?_)
          obtain rfl : v18861 = .ref b18841 := hv18861.symm.trans hv18840
          refine lv_iconst (v := 0) hx hb dX13_readSkin_98 (by decide) ?_
          refine lv_iload_n hx hb dX13_readSkin_99 rfl (lv_at hl 2 rfl) ?_
          refine lv_iadd hx hb dX13_readSkin_100 ?_
          refine lv_topi (fun z18862 ez18862 => ?_)
          obtain rfl : z18812 = z18862 := (ar_zadd ez18862).symm
          refine t_ild X hT mb18841 gb18841 rfl (by omega) dX13_readSkin_101 (fun z18863 vz18863 rz18863 => ?_)
          obtain rfl : z18843 = z18863 := vz18843.symm.trans vz18863
          refine lv_iconst (v := 1) hx hb dX13_readSkin_102 (by decide) ?_
          refine lv_iadd hx hb dX13_readSkin_103 ?_
          refine lv_topi (fun z18864 ez18864 => ?_)
          have hz18864 : z18864.toInt = z18843.toInt + 1 := ar_add ez18864 (rfl : z18843.toInt = z18843.toInt) (by decide : (1 : Int32).toInt = 1) (by omega) (by omega)
          have rz18864 : 1 ≤ z18864.toInt ∧ z18864.toInt ≤ 6 := by omega
          refine lv_imul hx hb dX13_readSkin_104 ?_
          refine lv_topi (fun z18865 ez18865 => ?_)
          have hz18865 : z18865.toInt = 2 * z18864.toInt := ar_mul ez18865 (by decide : (2 : Int32).toInt = 2) (rfl : z18864.toInt = z18864.toInt) (by omega) (by omega)
          have rz18865 : 2 ≤ z18865.toInt ∧ z18865.toInt ≤ 12 := by omega
          refine lv_iconst (v := 2) hx hb dX13_readSkin_105 (by decide) ?_
          refine lv_isub hx hb dX13_readSkin_106 ?_
          refine lv_topi (fun z18866 ez18866 => ?_)
          have hz18866 : z18866.toInt = z18865.toInt - 2 := ar_sub ez18866 (rfl : z18865.toInt = z18865.toInt) (by decide : (2 : Int32).toInt = 2) (by omega) (by omega)
          have rz18866 : 0 ≤ z18866.toInt ∧ z18866.toInt ≤ 10 := by omega
          refine t_cVi (n := 2) (C := RX13) (T := TX13) (N := 37) (As := [.int 0, .int z18866]) (rest := []) X hT (km39_X13_readWhole l G tag L F hT.2.2.2 p0 0 z18866 x0 x1 x2 soz18859 spz18859 faz18859 m0 g0 (by decide) (by omega) mx0 gx0 pf0 mx1 gx1 pf1 mx2 gx2 pf2 (by omega) qsoz18859 (by omega) qspz18859 (by omega) qfaz18859 hkf) m0 g0 rfl rfl qw_560 qw_561 qw_562 qw_5 qw_563 ⟨rfl, by decide +kernel, by decide +kernel, by decide +kernel⟩ ⟨Nat.le_of_ble_eq_true rfl, Nat.le_of_ble_eq_true rfl⟩ hl rfl rfl (Nat.le_of_ble_eq_true rfl) dX13_readSkin_107 ⟨Nat.le_of_ble_eq_true rfl, Nat.le_of_ble_eq_true rfl⟩ (fun z18867 F H locs hT hz18867 => ?_)
          obtain ⟨hz18867, yz18867, ⟨soz18867, spz18867, faz18867, qsoz18867, qspz18867, qfaz18867, rsoz18867, rspz18867, rfaz18867, stz18867, ptz18867, hkf⟩⟩ := hz18867
          have pf0 := (yz18867.1 _ 4 (Or.inr (by decide)) (Or.inr (by decide)) (Or.inr (by decide)) (Or.inr (by decide)) (Or.inr (by decide)) (Or.inr (by decide)) (Or.inr (by decide)) (Or.inr (by decide))).trans pf0
          have pf1 := (yz18867.1 _ 28 (Or.inr (by decide)) (Or.inr (by decide)) (Or.inr (by decide)) (Or.inr (by decide)) (Or.inr (by decide)) (Or.inr (by decide)) (Or.inr (by decide)) (Or.inr (by decide))).trans pf1
          have pf2 := (yz18867.1 _ 29 (Or.inr (by decide)) (Or.inr (by decide)) (Or.inr (by decide)) (Or.inr (by decide)) (Or.inr (by decide)) (Or.inr (by decide)) (Or.inr (by decide)) (Or.inr (by decide))).trans pf2
          have qz18808 := (yz18867.1 _ 0 (Or.inr (by decide)) (Or.inr (by decide)) (Or.inr (by decide)) (Or.inr (by decide)) (Or.inr (by decide)) (Or.inr (by decide)) (Or.inr (by decide)) (Or.inr (by decide))).trans qz18808
          have hv18840 := (yz18867.1 _ 30 (Or.inr (by decide)) (Or.inr (by decide)) (Or.inr (by decide)) (Or.inr (by decide)) (Or.inr (by decide)) (Or.inr (by decide)) (Or.inr (by decide)) (Or.inr (by decide))).trans hv18840
          have vz18843 := (yz18867.2 _ _ ).trans vz18843
          have hfr : (∀ b j : Nat, (tag b ≠ 46 ∨ j ≠ 8) → (tag b ≠ 46 ∨ j ≠ 9) → (tag b ≠ 46 ∨ j ≠ 10) → (tag b ≠ 46 ∨ j ≠ 11) → (tag b ≠ 46 ∨ j ≠ 12) → (tag b ≠ 46 ∨ j ≠ 13) → (tag b ≠ 46 ∨ j ≠ 14) → (tag b ≠ 46 ∨ j ≠ 15) → fld F b j = fld Fo b j) ∧ (∀ b j : Nat, tag b ≠ 37 → elm F b j = elm Fo b j) := ⟨fun b j n46_8 n46_9 n46_10 n46_11 n46_12 n46_13 n46_14 n46_15 => (yz18867.1 b j n46_8 n46_9 n46_10 n46_11 n46_12 n46_13 n46_14 n46_15).trans (hfr.1 b j n46_8 n46_9 n46_10 n46_11 n46_12 n46_13 n46_14 n46_15), fun b j a37 => (yz18867.2 b j ).trans (hfr.2 b j a37)⟩
          have hrel := msr_of (fun j => yz18867.2 _ j ) (fun j => yz18867.2 _ j ) hrel
          have hstk := STK.tr hstk stz18867
          have hspt := SPT.tr hspt ptz18867
          refine lv_istore (lv' := [(4, .int z18867), (3, .int z18859), (2, .int z18858), (1, .int z18812), (0, .ref p0)]) hx hb dX13_readSkin_110 hl (by decide) rfl (fun ls hl => ?_)
          refine lv_aload_n hx hb dX13_readSkin_112 rfl (lv_at hl 4 rfl) ?_
          refine m_ldcKw X 76 rfl dX13_readSkin_113 ?_
          refine lv_iconst (v := 0) hx hb dX13_readSkin_116 (by decide) ?_
          refine lv_bipush (v := 99) hx hb dX13_readSkin_117 (by decide) ?_
          refine t_cVi (n := 3) (C := RX13) (T := TX13) (N := 37) (As := [.ref (G.2 (100 + 76)), .int 0, .int 99]) (rest := []) X hT (km43_X13_readPart l G tag L F hT.2.2.2 p0 76 0 99 x0 x1 x2 soz18867 spz18867 faz18867 m0 g0 (by decide) (by decide) (by decide) mx0 gx0 pf0 mx1 gx1 pf1 mx2 gx2 pf2 (by omega) qsoz18867 (by omega) qspz18867 (by omega) qfaz18867 hkf) m0 g0 rfl rfl qw_552 qw_553 qw_554 qw_5 qw_555 ⟨rfl, by decide +kernel, by decide +kernel, by decide +kernel⟩ ⟨Nat.le_of_ble_eq_true rfl, Nat.le_of_ble_eq_true rfl⟩ hl rfl rfl (Nat.le_of_ble_eq_true rfl) dX13_readSkin_119 ⟨Nat.le_of_ble_eq_true rfl, Nat.le_of_ble_eq_true rfl⟩ (fun z18868 F H locs hT hz18868 => ?_)
          obtain ⟨hz18868, yz18868, ⟨soz18868, spz18868, faz18868, qsoz18868, qspz18868, qfaz18868, rsoz18868, rspz18868, rfaz18868, stz18868, ptz18868, hkf⟩⟩ := hz18868
          have pf0 := (yz18868.1 _ 4 (Or.inr (by decide)) (Or.inr (by decide)) (Or.inr (by decide)) (Or.inr (by decide)) (Or.inr (by decide)) (Or.inr (by decide)) (Or.inr (by decide)) (Or.inr (by decide))).trans pf0
          have pf1 := (yz18868.1 _ 28 (Or.inr (by decide)) (Or.inr (by decide)) (Or.inr (by decide)) (Or.inr (by decide)) (Or.inr (by decide)) (Or.inr (by decide)) (Or.inr (by decide)) (Or.inr (by decide))).trans pf1
          have pf2 := (yz18868.1 _ 29 (Or.inr (by decide)) (Or.inr (by decide)) (Or.inr (by decide)) (Or.inr (by decide)) (Or.inr (by decide)) (Or.inr (by decide)) (Or.inr (by decide)) (Or.inr (by decide))).trans pf2
          have qz18808 := (yz18868.1 _ 0 (Or.inr (by decide)) (Or.inr (by decide)) (Or.inr (by decide)) (Or.inr (by decide)) (Or.inr (by decide)) (Or.inr (by decide)) (Or.inr (by decide)) (Or.inr (by decide))).trans qz18808
          have hv18840 := (yz18868.1 _ 30 (Or.inr (by decide)) (Or.inr (by decide)) (Or.inr (by decide)) (Or.inr (by decide)) (Or.inr (by decide)) (Or.inr (by decide)) (Or.inr (by decide)) (Or.inr (by decide))).trans hv18840
          have vz18843 := (yz18868.2 _ _ ).trans vz18843
          have hfr : (∀ b j : Nat, (tag b ≠ 46 ∨ j ≠ 8) → (tag b ≠ 46 ∨ j ≠ 9) → (tag b ≠ 46 ∨ j ≠ 10) → (tag b ≠ 46 ∨ j ≠ 11) → (tag b ≠ 46 ∨ j ≠ 12) → (tag b ≠ 46 ∨ j ≠ 13) → (tag b ≠ 46 ∨ j ≠ 14) → (tag b ≠ 46 ∨ j ≠ 15) → fld F b j = fld Fo b j) ∧ (∀ b j : Nat, tag b ≠ 37 → elm F b j = elm Fo b j) := ⟨fun b j n46_8 n46_9 n46_10 n46_11 n46_12 n46_13 n46_14 n46_15 => (yz18868.1 b j n46_8 n46_9 n46_10 n46_11 n46_12 n46_13 n46_14 n46_15).trans (hfr.1 b j n46_8 n46_9 n46_10 n46_11 n46_12 n46_13 n46_14 n46_15), fun b j a37 => (yz18868.2 b j ).trans (hfr.2 b j a37)⟩
          have hrel := msr_of (fun j => yz18868.2 _ j ) (fun j => yz18868.2 _ j ) hrel
          have hstk := STK.tr hstk stz18868
          have hspt := SPT.tr hspt ptz18868
          refine lv_istore (lv' := [(5, .int z18868), (4, .int z18867), (3, .int z18859), (2, .int z18858), (1, .int z18812), (0, .ref p0)]) hx hb dX13_readSkin_122 hl (by decide) rfl (fun ls hl => ?_)
          refine lv_aload_n hx hb dX13_readSkin_124 rfl (lv_at hl 5 rfl) ?_
          refine t_get (C := RX13) (T := TX13) (N := 37) X hT m0 g0 rfl rfl 9 (by decide) qw_478 inlX13 rfl dX13_readSkin_125 (fun v18869 hv18869 ov18869 => ?_)
          obtain rfl : v18869 = .int soz18868 := hv18869.symm.trans qsoz18868
          refine lv_iconst (v := 5) hx hb dX13_readSkin_128 (by decide) ?_
          refine lv_icmp_ne (tgt := 133) hx hb dX13_readSkin_129 (by decide) (fun c18870 => ?_) (fun c18870 => ?_)
          · have w18871 := cv_ne (rfl : soz18868.toInt = soz18868.toInt) (by decide : (5 : Int32).toInt = 5) c18870
            have w18872 := (fun (h9 : soz18868.toInt ≠ 5) => (fun (h9 : soz18867.toInt ≠ 5) => (fun (h9 : soz18859.toInt ≠ 5) => (fun (h9 : soz18858.toInt ≠ 5) => (fun (h9 : soz18857.toInt ≠ 5) => (fun (h9 : soz18812.toInt ≠ 5) => pxz18809_0 (fun e9 => h9 (stz18812 e9))) (fun e9 => h9 (stz18857 e9))) (fun e9 => h9 (stz18858 e9))) (fun e9 => h9 (stz18859 e9))) (fun e9 => h9 (stz18867 e9))) (fun e9 => h9 (stz18868 e9))) (by omega)
            refine lv_aload_n hx hb dX13_readSkin_133 rfl (lv_at hl 5 rfl) ?_
            refine t_get (C := RX13) (T := TX13) (N := 37) X hT m0 g0 rfl rfl 4 (by decide) qw_477 inlX13 rfl dX13_readSkin_134 (fun v18873 hv18873 ov18873 => ?_)
            obtain rfl : v18873 = .ref x0 := hv18873.symm.trans pf0
            refine t_getN (C := RX12) (T := TX12) (N := 31) X hT mx0 gx0 rfl rfl 30 (by decide) (List.mem_of_getElem? (i := 34) rfl) inlX12 rfl dX13_readSkin_137 (fun v18874 hv18874 ov18874 => ?_)
            obtain rfl : v18874 = .ref b18841 := hv18874.symm.trans hv18840
            refine lv_iload_n hx hb dX13_readSkin_140 rfl (lv_at hl 4 rfl) ?_
            refine lv_iload_n hx hb dX13_readSkin_141 rfl (lv_at hl 3 rfl) ?_
            refine lv_iload_n hx hb dX13_readSkin_142 rfl (lv_at hl 2 rfl) ?_
            refine lv_iload hx hb dX13_readSkin_143 (lv_at hl 1 rfl) ?_
            refine lv_iload hx hb dX13_readSkin_145 (lv_at hl 0 rfl) ?_
            refine lv_bipush (v := (-2)) hx hb dX13_readSkin_147 (by decide) ?_
            refine t_cSv (n := 7) (As := [.ref b18841, .int z18812, .int z18858, .int z18859, .int z18867, .int z18868, .int (-2)]) (rest := []) X hT (km50_X13_adds l G tag L F hT.2.2.2 b18841 z18812 z18858 z18859 z18867 z18868 (-2) z18843 mb18841 gb18841 (by omega) (by omega) (by omega) vz18843) qw_658 qw_659 qw_5 qw_660 ⟨by decide +kernel, by decide +kernel, by decide +kernel⟩ ⟨Nat.le_of_ble_eq_true rfl, Nat.le_of_ble_eq_true rfl⟩ hl rfl rfl (Nat.le_of_ble_eq_true rfl) dX13_readSkin_149 ⟨Nat.le_of_ble_eq_true rfl, Nat.le_of_ble_eq_true rfl⟩ (fun F H locs hT hz18875 => ?_)
            obtain ⟨yz18875, xz18875_0⟩ := hz18875
            have pf0 := (yz18875.1 _ 4 ).trans pf0
            have pf1 := (yz18875.1 _ 28 ).trans pf1
            have pf2 := (yz18875.1 _ 29 ).trans pf2
            have qz18808 := (yz18875.1 _ 0 ).trans qz18808
            have hv18840 := (yz18875.1 _ 30 ).trans hv18840
            have qsoz18868 := (yz18875.1 _ 9 ).trans qsoz18868
            have qspz18868 := (yz18875.1 _ 8 ).trans qspz18868
            have qfaz18868 := (yz18875.1 _ 13 ).trans qfaz18868
            have hfr : (∀ b j : Nat, (tag b ≠ 46 ∨ j ≠ 8) → (tag b ≠ 46 ∨ j ≠ 9) → (tag b ≠ 46 ∨ j ≠ 10) → (tag b ≠ 46 ∨ j ≠ 11) → (tag b ≠ 46 ∨ j ≠ 12) → (tag b ≠ 46 ∨ j ≠ 13) → (tag b ≠ 46 ∨ j ≠ 14) → (tag b ≠ 46 ∨ j ≠ 15) → fld F b j = fld Fo b j) ∧ (∀ b j : Nat, tag b ≠ 37 → elm F b j = elm Fo b j) := ⟨fun b j n46_8 n46_9 n46_10 n46_11 n46_12 n46_13 n46_14 n46_15 => (yz18875.1 b j ).trans (hfr.1 b j n46_8 n46_9 n46_10 n46_11 n46_12 n46_13 n46_14 n46_15), fun b j a37 => (yz18875.2 b j a37).trans (hfr.2 b j a37)⟩
            have hrel := msr_of (fun j => yz18875.2 _ j (by rw [gx1]; decide)) (fun j => yz18875.2 _ j (by rw [gx2]; decide)) hrel
            obtain ⟨z18876, qz18876, hz18876⟩ := xz18875_0
            have rz18876 : 1 ≤ z18876.toInt ∧ z18876.toInt ≤ 6 := by omega
            exact t_vret hQ X hT ⟨hfr, hrel, ⟨soz18868, spz18868, faz18868, qsoz18868, qspz18868, qfaz18868, (by omega), (by omega), (by omega), hstk, hspt, hkf⟩⟩ (Nat.le_of_ble_eq_true rfl) (Nat.le_of_ble_eq_true rfl) dX13_readSkin_152
          · have w18877 := cv_eq (rfl : soz18868.toInt = soz18868.toInt) (by decide : (5 : Int32).toInt = 5) c18870
            exact t_vret hQ X hT ⟨hfr, hrel, ⟨soz18868, spz18868, faz18868, qsoz18868, qspz18868, qfaz18868, (by omega), (by omega), (by omega), hstk, hspt, hkf⟩⟩ (Nat.le_of_ble_eq_true rfl) (Nat.le_of_ble_eq_true rfl) dX13_readSkin_132
        · have w18878 := cv_eq (rfl : z18854.toInt = z18854.toInt) (by decide : (0 : Int32).toInt = 0) c18855
          refine lv_aload_n hx hb dX13_readSkin_67 rfl (lv_at hl 1 rfl) ?_
          refine lv_bipush (v := 7) hx hb dX13_readSkin_68 (by decide) ?_
          refine t_cVv (n := 1) (C := RX13) (T := TX13) (N := 37) (As := [.int 7]) (rest := []) X hT (km10_X13_flaw l G tag L F hT.2.2.2 p0 7 x0 x1 x2 soz18812 spz18812 faz18812 m0 g0 (by decide) mx0 gx0 pf0 mx1 gx1 pf1 mx2 gx2 pf2 (by omega) qsoz18812 (by omega) qspz18812 (by omega) qfaz18812 hkf) m0 g0 rfl rfl qw_548 qw_549 qw_550 qw_5 qw_551 ⟨rfl, by decide +kernel, by decide +kernel, by decide +kernel⟩ ⟨Nat.le_of_ble_eq_true rfl, Nat.le_of_ble_eq_true rfl⟩ hl rfl rfl (Nat.le_of_ble_eq_true rfl) dX13_readSkin_70 ⟨Nat.le_of_ble_eq_true rfl, Nat.le_of_ble_eq_true rfl⟩ (fun F H locs hT hz18879 => ?_)
          obtain ⟨yz18879, ⟨soz18879, spz18879, faz18879, qsoz18879, qspz18879, qfaz18879, rsoz18879, rspz18879, rfaz18879, stz18879, ptz18879, hkf, pxz18879_0⟩⟩ := hz18879
          have pf0 := (yz18879.1 _ 4 (Or.inr (by decide)) (Or.inr (by decide)) (Or.inr (by decide))).trans pf0
          have pf1 := (yz18879.1 _ 28 (Or.inr (by decide)) (Or.inr (by decide)) (Or.inr (by decide))).trans pf1
          have pf2 := (yz18879.1 _ 29 (Or.inr (by decide)) (Or.inr (by decide)) (Or.inr (by decide))).trans pf2
          have qz18808 := (yz18879.1 _ 0 (Or.inr (by decide)) (Or.inr (by decide)) (Or.inr (by decide))).trans qz18808
          have qspz18812 := (yz18879.1 _ 8 (Or.inr (by decide)) (Or.inr (by decide)) (Or.inr (by decide))).trans qspz18812
          have hv18840 := (yz18879.1 _ 30 (Or.inr (by decide)) (Or.inr (by decide)) (Or.inr (by decide))).trans hv18840
          have vz18843 := (yz18879.2 _ _ ).trans vz18843
          have hfr : (∀ b j : Nat, (tag b ≠ 46 ∨ j ≠ 8) → (tag b ≠ 46 ∨ j ≠ 9) → (tag b ≠ 46 ∨ j ≠ 10) → (tag b ≠ 46 ∨ j ≠ 11) → (tag b ≠ 46 ∨ j ≠ 12) → (tag b ≠ 46 ∨ j ≠ 13) → (tag b ≠ 46 ∨ j ≠ 14) → (tag b ≠ 46 ∨ j ≠ 15) → fld F b j = fld Fo b j) ∧ (∀ b j : Nat, tag b ≠ 37 → elm F b j = elm Fo b j) := ⟨fun b j n46_8 n46_9 n46_10 n46_11 n46_12 n46_13 n46_14 n46_15 => (yz18879.1 b j n46_9 n46_13 n46_14).trans (hfr.1 b j n46_8 n46_9 n46_10 n46_11 n46_12 n46_13 n46_14 n46_15), fun b j a37 => (yz18879.2 b j ).trans (hfr.2 b j a37)⟩
          have hrel := msr_of (fun j => yz18879.2 _ j ) (fun j => yz18879.2 _ j ) hrel
          have hstk := STK.tr hstk stz18879
          have hspt := SPT.tr hspt ptz18879
          refine lv_aload_n hx hb dX13_readSkin_73 rfl (lv_at hl 1 rfl) ?_
          refine t_cVv (n := 0) (C := RX13) (T := TX13) (N := 37) (As := []) (rest := []) X hT (km14_X13_goesOn l G tag L F hT.2.2.2 p0 x0 x1 x2 soz18879 spz18879 faz18879 m0 g0 mx0 gx0 pf0 mx1 gx1 pf1 mx2 gx2 pf2 (by omega) qsoz18879 (by omega) qspz18879 (by omega) qfaz18879 hkf) m0 g0 rfl rfl qw_508 qw_509 qw_510 qw_5 qw_511 ⟨rfl, by decide +kernel, by decide +kernel, by decide +kernel⟩ ⟨Nat.le_of_ble_eq_true rfl, Nat.le_of_ble_eq_true rfl⟩ hl rfl rfl (Nat.le_of_ble_eq_true rfl) dX13_readSkin_74 ⟨Nat.le_of_ble_eq_true rfl, Nat.le_of_ble_eq_true rfl⟩ (fun F H locs hT hz18880 => ?_)
          obtain ⟨yz18880, ⟨soz18880, spz18880, faz18880, qsoz18880, qspz18880, qfaz18880, rsoz18880, rspz18880, rfaz18880, stz18880, ptz18880, hkf⟩⟩ := hz18880
          have pf0 := (yz18880.1 _ 4 (Or.inr (by decide)) (Or.inr (by decide)) (Or.inr (by decide)) (Or.inr (by decide)) (Or.inr (by decide)) (Or.inr (by decide))).trans pf0
          have pf1 := (yz18880.1 _ 28 (Or.inr (by decide)) (Or.inr (by decide)) (Or.inr (by decide)) (Or.inr (by decide)) (Or.inr (by decide)) (Or.inr (by decide))).trans pf1
          have pf2 := (yz18880.1 _ 29 (Or.inr (by decide)) (Or.inr (by decide)) (Or.inr (by decide)) (Or.inr (by decide)) (Or.inr (by decide)) (Or.inr (by decide))).trans pf2
          have qz18808 := (yz18880.1 _ 0 (Or.inr (by decide)) (Or.inr (by decide)) (Or.inr (by decide)) (Or.inr (by decide)) (Or.inr (by decide)) (Or.inr (by decide))).trans qz18808
          have hv18840 := (yz18880.1 _ 30 (Or.inr (by decide)) (Or.inr (by decide)) (Or.inr (by decide)) (Or.inr (by decide)) (Or.inr (by decide)) (Or.inr (by decide))).trans hv18840
          have vz18843 := (yz18880.2 _ _ ).trans vz18843
          have qfaz18879 := (yz18880.1 _ 13 (Or.inr (by decide)) (Or.inr (by decide)) (Or.inr (by decide)) (Or.inr (by decide)) (Or.inr (by decide)) (Or.inr (by decide))).trans qfaz18879
          have hfr : (∀ b j : Nat, (tag b ≠ 46 ∨ j ≠ 8) → (tag b ≠ 46 ∨ j ≠ 9) → (tag b ≠ 46 ∨ j ≠ 10) → (tag b ≠ 46 ∨ j ≠ 11) → (tag b ≠ 46 ∨ j ≠ 12) → (tag b ≠ 46 ∨ j ≠ 13) → (tag b ≠ 46 ∨ j ≠ 14) → (tag b ≠ 46 ∨ j ≠ 15) → fld F b j = fld Fo b j) ∧ (∀ b j : Nat, tag b ≠ 37 → elm F b j = elm Fo b j) := ⟨fun b j n46_8 n46_9 n46_10 n46_11 n46_12 n46_13 n46_14 n46_15 => (yz18880.1 b j n46_8 n46_9 n46_10 n46_11 n46_12 n46_15).trans (hfr.1 b j n46_8 n46_9 n46_10 n46_11 n46_12 n46_13 n46_14 n46_15), fun b j a37 => (yz18880.2 b j ).trans (hfr.2 b j a37)⟩
          have hrel := msr_of (fun j => yz18880.2 _ j ) (fun j => yz18880.2 _ j ) hrel
          have hstk := STK.tr hstk stz18880
          have hspt := SPT.tr hspt ptz18880
          have k5z18880 : soz18880.toInt = 5 := stz18880 (by omega)
          refine lv_aload_n hx hb dX13_readSkin_77 rfl (lv_at hl 1 rfl) ?_
          refine lv_iconst (v := 0) hx hb dX13_readSkin_78 (by decide) ?_
          refine t_cVi (n := 1) (C := RX13) (T := TX13) (N := 37) (As := [.int 0]) (rest := []) X hT (km36_X13_readKnown l G tag L F hT.2.2.2 p0 0 x0 x1 x2 soz18880 spz18880 faz18880 m0 g0 (by decide) mx0 gx0 pf0 mx1 gx1 pf1 mx2 gx2 pf2 (by omega) qsoz18880 (by omega) qspz18880 (by omega) qfaz18880 hrel hkf) m0 g0 rfl rfl qw_632 qw_633 qw_634 qw_5 qw_635 ⟨rfl, by decide +kernel, by decide +kernel, by decide +kernel⟩ ⟨Nat.le_of_ble_eq_true rfl, Nat.le_of_ble_eq_true rfl⟩ hl rfl rfl (Nat.le_of_ble_eq_true rfl) dX13_readSkin_79 ⟨Nat.le_of_ble_eq_true rfl, Nat.le_of_ble_eq_true rfl⟩ (fun z18881 F H locs hT hz18881 => ?_)
          obtain ⟨hz18881, yz18881, hrel, ⟨soz18881, spz18881, faz18881, qsoz18881, qspz18881, qfaz18881, rsoz18881, rspz18881, rfaz18881, stz18881, ptz18881, hkf⟩⟩ := hz18881
          have pf0 := (yz18881.1 _ 4 (Or.inr (by decide)) (Or.inr (by decide)) (Or.inr (by decide)) (Or.inr (by decide)) (Or.inr (by decide)) (Or.inr (by decide)) (Or.inr (by decide)) (Or.inr (by decide))).trans pf0
          have pf1 := (yz18881.1 _ 28 (Or.inr (by decide)) (Or.inr (by decide)) (Or.inr (by decide)) (Or.inr (by decide)) (Or.inr (by decide)) (Or.inr (by decide)) (Or.inr (by decide)) (Or.inr (by decide))).trans pf1
          have pf2 := (yz18881.1 _ 29 (Or.inr (by decide)) (Or.inr (by decide)) (Or.inr (by decide)) (Or.inr (by decide)) (Or.inr (by decide)) (Or.inr (by decide)) (Or.inr (by decide)) (Or.inr (by decide))).trans pf2
          have qz18808 := (yz18881.1 _ 0 (Or.inr (by decide)) (Or.inr (by decide)) (Or.inr (by decide)) (Or.inr (by decide)) (Or.inr (by decide)) (Or.inr (by decide)) (Or.inr (by decide)) (Or.inr (by decide))).trans qz18808
          have hv18840 := (yz18881.1 _ 30 (Or.inr (by decide)) (Or.inr (by decide)) (Or.inr (by decide)) (Or.inr (by decide)) (Or.inr (by decide)) (Or.inr (by decide)) (Or.inr (by decide)) (Or.inr (by decide))).trans hv18840
          have vz18843 := (yz18881.2 _ _ ).trans vz18843
          have hfr : (∀ b j : Nat, (tag b ≠ 46 ∨ j ≠ 8) → (tag b ≠ 46 ∨ j ≠ 9) → (tag b ≠ 46 ∨ j ≠ 10) → (tag b ≠ 46 ∨ j ≠ 11) → (tag b ≠ 46 ∨ j ≠ 12) → (tag b ≠ 46 ∨ j ≠ 13) → (tag b ≠ 46 ∨ j ≠ 14) → (tag b ≠ 46 ∨ j ≠ 15) → fld F b j = fld Fo b j) ∧ (∀ b j : Nat, tag b ≠ 37 → elm F b j = elm Fo b j) := ⟨fun b j n46_8 n46_9 n46_10 n46_11 n46_12 n46_13 n46_14 n46_15 => (yz18881.1 b j n46_8 n46_9 n46_10 n46_11 n46_12 n46_13 n46_14 n46_15).trans (hfr.1 b j n46_8 n46_9 n46_10 n46_11 n46_12 n46_13 n46_14 n46_15), fun b j a37 => (yz18881.2 b j ).trans (hfr.2 b j a37)⟩
          have hstk := STK.tr hstk stz18881
          have hspt := SPT.tr hspt ptz18881
          have k5z18881 : soz18881.toInt = 5 := stz18881 (by omega)
          refine lv_istore_n (lv' := [(2, .int z18881), (1, .int z18812), (0, .ref p0)]) hx hb dX13_readSkin_82 rfl hl (by decide) rfl (fun ls hl => ?_)
          refine lv_aload_n hx hb dX13_readSkin_83 rfl (lv_at hl 2 rfl) ?_
          refine t_cVi (n := 0) (C := RX13) (T := TX13) (N := 37) (As := []) (rest := []) X hT (km37_X13_readSide l G tag L F hT.2.2.2 p0 x0 x1 x2 soz18881 spz18881 faz18881 m0 g0 mx0 gx0 pf0 mx1 gx1 pf1 mx2 gx2 pf2 (by omega) qsoz18881 (by omega) qspz18881 (by omega) qfaz18881 hkf) m0 g0 rfl rfl qw_654 qw_655 qw_656 qw_5 qw_657 ⟨rfl, by decide +kernel, by decide +kernel, by decide +kernel⟩ ⟨Nat.le_of_ble_eq_true rfl, Nat.le_of_ble_eq_true rfl⟩ hl rfl rfl (Nat.le_of_ble_eq_true rfl) dX13_readSkin_84 ⟨Nat.le_of_ble_eq_true rfl, Nat.le_of_ble_eq_true rfl⟩ (fun z18882 F H locs hT hz18882 => ?_)
          obtain ⟨hz18882, yz18882, ⟨soz18882, spz18882, faz18882, qsoz18882, qspz18882, qfaz18882, rsoz18882, rspz18882, rfaz18882, stz18882, ptz18882, hkf⟩⟩ := hz18882
          have pf0 := (yz18882.1 _ 4 (Or.inr (by decide)) (Or.inr (by decide)) (Or.inr (by decide)) (Or.inr (by decide)) (Or.inr (by decide)) (Or.inr (by decide)) (Or.inr (by decide)) (Or.inr (by decide))).trans pf0
          have pf1 := (yz18882.1 _ 28 (Or.inr (by decide)) (Or.inr (by decide)) (Or.inr (by decide)) (Or.inr (by decide)) (Or.inr (by decide)) (Or.inr (by decide)) (Or.inr (by decide)) (Or.inr (by decide))).trans pf1
          have pf2 := (yz18882.1 _ 29 (Or.inr (by decide)) (Or.inr (by decide)) (Or.inr (by decide)) (Or.inr (by decide)) (Or.inr (by decide)) (Or.inr (by decide)) (Or.inr (by decide)) (Or.inr (by decide))).trans pf2
          have qz18808 := (yz18882.1 _ 0 (Or.inr (by decide)) (Or.inr (by decide)) (Or.inr (by decide)) (Or.inr (by decide)) (Or.inr (by decide)) (Or.inr (by decide)) (Or.inr (by decide)) (Or.inr (by decide))).trans qz18808
          have hv18840 := (yz18882.1 _ 30 (Or.inr (by decide)) (Or.inr (by decide)) (Or.inr (by decide)) (Or.inr (by decide)) (Or.inr (by decide)) (Or.inr (by decide)) (Or.inr (by decide)) (Or.inr (by decide))).trans hv18840
          have vz18843 := (yz18882.2 _ _ ).trans vz18843
          have hfr : (∀ b j : Nat, (tag b ≠ 46 ∨ j ≠ 8) → (tag b ≠ 46 ∨ j ≠ 9) → (tag b ≠ 46 ∨ j ≠ 10) → (tag b ≠ 46 ∨ j ≠ 11) → (tag b ≠ 46 ∨ j ≠ 12) → (tag b ≠ 46 ∨ j ≠ 13) → (tag b ≠ 46 ∨ j ≠ 14) → (tag b ≠ 46 ∨ j ≠ 15) → fld F b j = fld Fo b j) ∧ (∀ b j : Nat, tag b ≠ 37 → elm F b j = elm Fo b j) := ⟨fun b j n46_8 n46_9 n46_10 n46_11 n46_12 n46_13 n46_14 n46_15 => (yz18882.1 b j n46_8 n46_9 n46_10 n46_11 n46_12 n46_13 n46_14 n46_15).trans (hfr.1 b j n46_8 n46_9 n46_10 n46_11 n46_12 n46_13 n46_14 n46_15), fun b j a37 => (yz18882.2 b j ).trans (hfr.2 b j a37)⟩
          have hrel := msr_of (fun j => yz18882.2 _ j ) (fun j => yz18882.2 _ j ) hrel
          have hstk := STK.tr hstk stz18882
          have hspt := SPT.tr hspt ptz18882
          have k5z18882 : soz18882.toInt = 5 := stz18882 (by omega)
          refine lv_istore_n (lv' := [(3, .int z18882), (2, .int z18881), (1, .int z18812), (0, .ref p0)]) hx hb dX13_readSkin_87 rfl hl (by decide) rfl (fun ls hl => ?_)
          refine lv_aload_n hx hb dX13_readSkin_88 rfl (lv_at hl 3 rfl) ?_
          refine lv_iconst (v := 0) hx hb dX13_readSkin_89 (by decide) ?_
          refine lv_iconst (v := 2) hx hb dX13_readSkin_90 (by decide) ?_
          refine lv_aload_n hx hb dX13_readSkin_91 rfl (lv_at hl 3 rfl) ?_
          refine t_get (C := RX13) (T := TX13) (N := 37) X hT m0 g0 rfl rfl 4 (by decide) qw_477 inlX13 rfl dX13_readSkin_92 (fun v18883 hv18883 ov18883 => ?_)
          obtain rfl : v18883 = .ref x0 := hv18883.symm.trans pf0
          refine t_getN (C := RX12) (T := TX12) (N := 31) X hT mx0 gx0 rfl rfl 30 (by decide) (List.mem_of_getElem? (i := 34) rfl) inlX12 rfl dX13_readSkin_95 (fun v18884 hv18884 ov18884 => ?_)
          obtain rfl : v18884 = .ref b18841 := hv18884.symm.trans hv18840
          refine lv_iconst (v := 0) hx hb dX13_readSkin_98 (by decide) ?_
          refine lv_iload_n hx hb dX13_readSkin_99 rfl (lv_at hl 2 rfl) ?_
          refine lv_iadd hx hb dX13_readSkin_100 ?_
          refine lv_topi (fun z18885 ez18885 => ?_)
          obtain rfl : z18812 = z18885 := (ar_zadd ez18885).symm
          refine t_ild X hT mb18841 gb18841 rfl (by omega) dX13_readSkin_101 (fun z18886 vz18886 rz18886 => ?_)
          obtain rfl : z18843 = z18886 := vz18843.symm.trans vz18886
          refine lv_iconst (v := 1) hx hb dX13_readSkin_102 (by decide) ?_
          refine lv_iadd hx hb dX13_readSkin_103 ?_
          refine lv_topi (fun z18887 ez18887 => ?_)
          have hz18887 : z18887.toInt = z18843.toInt + 1 := ar_add ez18887 (rfl : z18843.toInt = z18843.toInt) (by decide : (1 : Int32).toInt = 1) (by omega) (by omega)
          have rz18887 : 1 ≤ z18887.toInt ∧ z18887.toInt ≤ 6 := by omega
          refine lv_imul hx hb dX13_readSkin_104 ?_
          refine lv_topi (fun z18888 ez18888 => ?_)
          have hz18888 : z18888.toInt = 2 * z18887.toInt := ar_mul ez18888 (by decide : (2 : Int32).toInt = 2) (rfl : z18887.toInt = z18887.toInt) (by omega) (by omega)
          have rz18888 : 2 ≤ z18888.toInt ∧ z18888.toInt ≤ 12 := by omega
          refine lv_iconst (v := 2) hx hb dX13_readSkin_105 (by decide) ?_
          refine lv_isub hx hb dX13_readSkin_106 ?_
          refine lv_topi (fun z18889 ez18889 => ?_)
          have hz18889 : z18889.toInt = z18888.toInt - 2 := ar_sub ez18889 (rfl : z18888.toInt = z18888.toInt) (by decide : (2 : Int32).toInt = 2) (by omega) (by omega)
          have rz18889 : 0 ≤ z18889.toInt ∧ z18889.toInt ≤ 10 := by omega
          refine t_cVi (n := 2) (C := RX13) (T := TX13) (N := 37) (As := [.int 0, .int z18889]) (rest := []) X hT (km39_X13_readWhole l G tag L F hT.2.2.2 p0 0 z18889 x0 x1 x2 soz18882 spz18882 faz18882 m0 g0 (by decide) (by omega) mx0 gx0 pf0 mx1 gx1 pf1 mx2 gx2 pf2 (by omega) qsoz18882 (by omega) qspz18882 (by omega) qfaz18882 hkf) m0 g0 rfl rfl qw_560 qw_561 qw_562 qw_5 qw_563 ⟨rfl, by decide +kernel, by decide +kernel, by decide +kernel⟩ ⟨Nat.le_of_ble_eq_true rfl, Nat.le_of_ble_eq_true rfl⟩ hl rfl rfl (Nat.le_of_ble_eq_true rfl) dX13_readSkin_107 ⟨Nat.le_of_ble_eq_true rfl, Nat.le_of_ble_eq_true rfl⟩ (fun z18890 F H locs hT hz18890 => ?_)
          obtain ⟨hz18890, yz18890, ⟨soz18890, spz18890, faz18890, qsoz18890, qspz18890, qfaz18890, rsoz18890, rspz18890, rfaz18890, stz18890, ptz18890, hkf⟩⟩ := hz18890
          have pf0 := (yz18890.1 _ 4 (Or.inr (by decide)) (Or.inr (by decide)) (Or.inr (by decide)) (Or.inr (by decide)) (Or.inr (by decide)) (Or.inr (by decide)) (Or.inr (by decide)) (Or.inr (by decide))).trans pf0
          have pf1 := (yz18890.1 _ 28 (Or.inr (by decide)) (Or.inr (by decide)) (Or.inr (by decide)) (Or.inr (by decide)) (Or.inr (by decide)) (Or.inr (by decide)) (Or.inr (by decide)) (Or.inr (by decide))).trans pf1
          have pf2 := (yz18890.1 _ 29 (Or.inr (by decide)) (Or.inr (by decide)) (Or.inr (by decide)) (Or.inr (by decide)) (Or.inr (by decide)) (Or.inr (by decide)) (Or.inr (by decide)) (Or.inr (by decide))).trans pf2
          have qz18808 := (yz18890.1 _ 0 (Or.inr (by decide)) (Or.inr (by decide)) (Or.inr (by decide)) (Or.inr (by decide)) (Or.inr (by decide)) (Or.inr (by decide)) (Or.inr (by decide)) (Or.inr (by decide))).trans qz18808
          have hv18840 := (yz18890.1 _ 30 (Or.inr (by decide)) (Or.inr (by decide)) (Or.inr (by decide)) (Or.inr (by decide)) (Or.inr (by decide)) (Or.inr (by decide)) (Or.inr (by decide)) (Or.inr (by decide))).trans hv18840
          have vz18843 := (yz18890.2 _ _ ).trans vz18843
          have hfr : (∀ b j : Nat, (tag b ≠ 46 ∨ j ≠ 8) → (tag b ≠ 46 ∨ j ≠ 9) → (tag b ≠ 46 ∨ j ≠ 10) → (tag b ≠ 46 ∨ j ≠ 11) → (tag b ≠ 46 ∨ j ≠ 12) → (tag b ≠ 46 ∨ j ≠ 13) → (tag b ≠ 46 ∨ j ≠ 14) → (tag b ≠ 46 ∨ j ≠ 15) → fld F b j = fld Fo b j) ∧ (∀ b j : Nat, tag b ≠ 37 → elm F b j = elm Fo b j) := ⟨fun b j n46_8 n46_9 n46_10 n46_11 n46_12 n46_13 n46_14 n46_15 => (yz18890.1 b j n46_8 n46_9 n46_10 n46_11 n46_12 n46_13 n46_14 n46_15).trans (hfr.1 b j n46_8 n46_9 n46_10 n46_11 n46_12 n46_13 n46_14 n46_15), fun b j a37 => (yz18890.2 b j ).trans (hfr.2 b j a37)⟩
          have hrel := msr_of (fun j => yz18890.2 _ j ) (fun j => yz18890.2 _ j ) hrel
          have hstk := STK.tr hstk stz18890
          have hspt := SPT.tr hspt ptz18890
          have k5z18890 : soz18890.toInt = 5 := stz18890 (by omega)
          refine lv_istore (lv' := [(4, .int z18890), (3, .int z18882), (2, .int z18881), (1, .int z18812), (0, .ref p0)]) hx hb dX13_readSkin_110 hl (by decide) rfl (fun ls hl => ?_)
          refine lv_aload_n hx hb dX13_readSkin_112 rfl (lv_at hl 4 rfl) ?_
          refine m_ldcKw X 76 rfl dX13_readSkin_113 ?_
          refine lv_iconst (v := 0) hx hb dX13_readSkin_116 (by decide) ?_
          refine lv_bipush (v := 99) hx hb dX13_readSkin_117 (by decide) ?_
          refine t_cVi (n := 3) (C := RX13) (T := TX13) (N := 37) (As := [.ref (G.2 (100 + 76)), .int 0, .int 99]) (rest := []) X hT (km43_X13_readPart l G tag L F hT.2.2.2 p0 76 0 99 x0 x1 x2 soz18890 spz18890 faz18890 m0 g0 (by decide) (by decide) (by decide) mx0 gx0 pf0 mx1 gx1 pf1 mx2 gx2 pf2 (by omega) qsoz18890 (by omega) qspz18890 (by omega) qfaz18890 hkf) m0 g0 rfl rfl qw_552 qw_553 qw_554 qw_5 qw_555 ⟨rfl, by decide +kernel, by decide +kernel, by decide +kernel⟩ ⟨Nat.le_of_ble_eq_true rfl, Nat.le_of_ble_eq_true rfl⟩ hl rfl rfl (Nat.le_of_ble_eq_true rfl) dX13_readSkin_119 ⟨Nat.le_of_ble_eq_true rfl, Nat.le_of_ble_eq_true rfl⟩ (fun z18891 F H locs hT hz18891 => ?_)
          obtain ⟨hz18891, yz18891, ⟨soz18891, spz18891, faz18891, qsoz18891, qspz18891, qfaz18891, rsoz18891, rspz18891, rfaz18891, stz18891, ptz18891, hkf⟩⟩ := hz18891
          have pf0 := (yz18891.1 _ 4 (Or.inr (by decide)) (Or.inr (by decide)) (Or.inr (by decide)) (Or.inr (by decide)) (Or.inr (by decide)) (Or.inr (by decide)) (Or.inr (by decide)) (Or.inr (by decide))).trans pf0
          have pf1 := (yz18891.1 _ 28 (Or.inr (by decide)) (Or.inr (by decide)) (Or.inr (by decide)) (Or.inr (by decide)) (Or.inr (by decide)) (Or.inr (by decide)) (Or.inr (by decide)) (Or.inr (by decide))).trans pf1
          have pf2 := (yz18891.1 _ 29 (Or.inr (by decide)) (Or.inr (by decide)) (Or.inr (by decide)) (Or.inr (by decide)) (Or.inr (by decide)) (Or.inr (by decide)) (Or.inr (by decide)) (Or.inr (by decide))).trans pf2
          have qz18808 := (yz18891.1 _ 0 (Or.inr (by decide)) (Or.inr (by decide)) (Or.inr (by decide)) (Or.inr (by decide)) (Or.inr (by decide)) (Or.inr (by decide)) (Or.inr (by decide)) (Or.inr (by decide))).trans qz18808
          have hv18840 := (yz18891.1 _ 30 (Or.inr (by decide)) (Or.inr (by decide)) (Or.inr (by decide)) (Or.inr (by decide)) (Or.inr (by decide)) (Or.inr (by decide)) (Or.inr (by decide)) (Or.inr (by decide))).trans hv18840
          have vz18843 := (yz18891.2 _ _ ).trans vz18843
          have hfr : (∀ b j : Nat, (tag b ≠ 46 ∨ j ≠ 8) → (tag b ≠ 46 ∨ j ≠ 9) → (tag b ≠ 46 ∨ j ≠ 10) → (tag b ≠ 46 ∨ j ≠ 11) → (tag b ≠ 46 ∨ j ≠ 12) → (tag b ≠ 46 ∨ j ≠ 13) → (tag b ≠ 46 ∨ j ≠ 14) → (tag b ≠ 46 ∨ j ≠ 15) → fld F b j = fld Fo b j) ∧ (∀ b j : Nat, tag b ≠ 37 → elm F b j = elm Fo b j) := ⟨fun b j n46_8 n46_9 n46_10 n46_11 n46_12 n46_13 n46_14 n46_15 => (yz18891.1 b j n46_8 n46_9 n46_10 n46_11 n46_12 n46_13 n46_14 n46_15).trans (hfr.1 b j n46_8 n46_9 n46_10 n46_11 n46_12 n46_13 n46_14 n46_15), fun b j a37 => (yz18891.2 b j ).trans (hfr.2 b j a37)⟩
          have hrel := msr_of (fun j => yz18891.2 _ j ) (fun j => yz18891.2 _ j ) hrel
          have hstk := STK.tr hstk stz18891
          have hspt := SPT.tr hspt ptz18891
          have k5z18891 : soz18891.toInt = 5 := stz18891 (by omega)
          refine lv_istore (lv' := [(5, .int z18891), (4, .int z18890), (3, .int z18882), (2, .int z18881), (1, .int z18812), (0, .ref p0)]) hx hb dX13_readSkin_122 hl (by decide) rfl (fun ls hl => ?_)
          refine lv_aload_n hx hb dX13_readSkin_124 rfl (lv_at hl 5 rfl) ?_
          refine t_get (C := RX13) (T := TX13) (N := 37) X hT m0 g0 rfl rfl 9 (by decide) qw_478 inlX13 rfl dX13_readSkin_125 (fun v18892 hv18892 ov18892 => ?_)
          obtain rfl : v18892 = .int soz18891 := hv18892.symm.trans qsoz18891
          refine lv_iconst (v := 5) hx hb dX13_readSkin_128 (by decide) ?_
          refine lv_icmp_ne (tgt := 133) hx hb dX13_readSkin_129 (by decide) (fun c18893 => ?_) (fun c18893 => ?_)
          · have w18894 := cv_ne (rfl : soz18891.toInt = soz18891.toInt) (by decide : (5 : Int32).toInt = 5) c18893
            exfalso
            omega
          · have w18895 := cv_eq (rfl : soz18891.toInt = soz18891.toInt) (by decide : (5 : Int32).toInt = 5) c18893
            exact t_vret hQ X hT ⟨hfr, hrel, ⟨soz18891, spz18891, faz18891, qsoz18891, qspz18891, qfaz18891, (by omega), (by omega), (by omega), hstk, hspt, hkf⟩⟩ (Nat.le_of_ble_eq_true rfl) (Nat.le_of_ble_eq_true rfl) dX13_readSkin_132
    · have w18896 := cv_eq (rfl : z18843.toInt = z18843.toInt) (by decide : (6 : Int32).toInt = 6) c18844
      refine lv_aload_n hx hb dX13_readSkin_36 rfl (lv_at hl 1 rfl) ?_
      refine lv_iconst (v := 5) hx hb dX13_readSkin_37 (by decide) ?_
      refine t_cVv (n := 1) (C := RX13) (T := TX13) (N := 37) (As := [.int 5]) (rest := []) X hT (km10_X13_flaw l G tag L F hT.2.2.2 p0 5 x0 x1 x2 soz18812 spz18812 faz18812 m0 g0 (by decide) mx0 gx0 pf0 mx1 gx1 pf1 mx2 gx2 pf2 (by omega) qsoz18812 (by omega) qspz18812 (by omega) qfaz18812 hkf) m0 g0 rfl rfl qw_548 qw_549 qw_550 qw_5 qw_551 ⟨rfl, by decide +kernel, by decide +kernel, by decide +kernel⟩ ⟨Nat.le_of_ble_eq_true rfl, Nat.le_of_ble_eq_true rfl⟩ hl rfl rfl (Nat.le_of_ble_eq_true rfl) dX13_readSkin_38 ⟨Nat.le_of_ble_eq_true rfl, Nat.le_of_ble_eq_true rfl⟩ (fun F H locs hT hz18897 => ?_)
      obtain ⟨yz18897, ⟨soz18897, spz18897, faz18897, qsoz18897, qspz18897, qfaz18897, rsoz18897, rspz18897, rfaz18897, stz18897, ptz18897, hkf, pxz18897_0⟩⟩ := hz18897
      have pf0 := (yz18897.1 _ 4 (Or.inr (by decide)) (Or.inr (by decide)) (Or.inr (by decide))).trans pf0
      have pf1 := (yz18897.1 _ 28 (Or.inr (by decide)) (Or.inr (by decide)) (Or.inr (by decide))).trans pf1
      have pf2 := (yz18897.1 _ 29 (Or.inr (by decide)) (Or.inr (by decide)) (Or.inr (by decide))).trans pf2
      have qz18808 := (yz18897.1 _ 0 (Or.inr (by decide)) (Or.inr (by decide)) (Or.inr (by decide))).trans qz18808
      have qspz18812 := (yz18897.1 _ 8 (Or.inr (by decide)) (Or.inr (by decide)) (Or.inr (by decide))).trans qspz18812
      have hv18840 := (yz18897.1 _ 30 (Or.inr (by decide)) (Or.inr (by decide)) (Or.inr (by decide))).trans hv18840
      have vz18843 := (yz18897.2 _ _ ).trans vz18843
      have hfr : (∀ b j : Nat, (tag b ≠ 46 ∨ j ≠ 8) → (tag b ≠ 46 ∨ j ≠ 9) → (tag b ≠ 46 ∨ j ≠ 10) → (tag b ≠ 46 ∨ j ≠ 11) → (tag b ≠ 46 ∨ j ≠ 12) → (tag b ≠ 46 ∨ j ≠ 13) → (tag b ≠ 46 ∨ j ≠ 14) → (tag b ≠ 46 ∨ j ≠ 15) → fld F b j = fld Fo b j) ∧ (∀ b j : Nat, tag b ≠ 37 → elm F b j = elm Fo b j) := ⟨fun b j n46_8 n46_9 n46_10 n46_11 n46_12 n46_13 n46_14 n46_15 => (yz18897.1 b j n46_9 n46_13 n46_14).trans (hfr.1 b j n46_8 n46_9 n46_10 n46_11 n46_12 n46_13 n46_14 n46_15), fun b j a37 => (yz18897.2 b j ).trans (hfr.2 b j a37)⟩
      have hrel := msr_of (fun j => yz18897.2 _ j ) (fun j => yz18897.2 _ j ) hrel
      have hstk := STK.tr hstk stz18897
      have hspt := SPT.tr hspt ptz18897
      refine lv_aload_n hx hb dX13_readSkin_41 rfl (lv_at hl 1 rfl) ?_
      refine t_get (C := RX13) (T := TX13) (N := 37) X hT m0 g0 rfl rfl 9 (by decide) qw_478 inlX13 rfl dX13_readSkin_42 (fun v18898 hv18898 ov18898 => ?_)
      obtain rfl : v18898 = .int soz18897 := hv18898.symm.trans qsoz18897
      refine lv_iconst (v := 5) hx hb dX13_readSkin_45 (by decide) ?_
      refine lv_icmp_eq (tgt := 73) hx hb dX13_readSkin_46 (by decide) (fun c18899 => ?_) (fun c18899 => ?_)
      · have w18900 := cv_eq (rfl : soz18897.toInt = soz18897.toInt) (by decide : (5 : Int32).toInt = 5) c18899
        refine lv_aload_n hx hb dX13_readSkin_73 rfl (lv_at hl 1 rfl) ?_
        refine t_cVv (n := 0) (C := RX13) (T := TX13) (N := 37) (As := []) (rest := []) X hT (km14_X13_goesOn l G tag L F hT.2.2.2 p0 x0 x1 x2 soz18897 spz18897 faz18897 m0 g0 mx0 gx0 pf0 mx1 gx1 pf1 mx2 gx2 pf2 (by omega) qsoz18897 (by omega) qspz18897 (by omega) qfaz18897 hkf) m0 g0 rfl rfl qw_508 qw_509 qw_510 qw_5 qw_511 ⟨rfl, by decide +kernel, by decide +kernel, by decide +kernel⟩ ⟨Nat.le_of_ble_eq_true rfl, Nat.le_of_ble_eq_true rfl⟩ hl rfl rfl (Nat.le_of_ble_eq_true rfl) dX13_readSkin_74 ⟨Nat.le_of_ble_eq_true rfl, Nat.le_of_ble_eq_true rfl⟩ (fun F H locs hT hz18901 => ?_)
        obtain ⟨yz18901, ⟨soz18901, spz18901, faz18901, qsoz18901, qspz18901, qfaz18901, rsoz18901, rspz18901, rfaz18901, stz18901, ptz18901, hkf⟩⟩ := hz18901
        have pf0 := (yz18901.1 _ 4 (Or.inr (by decide)) (Or.inr (by decide)) (Or.inr (by decide)) (Or.inr (by decide)) (Or.inr (by decide)) (Or.inr (by decide))).trans pf0
        have pf1 := (yz18901.1 _ 28 (Or.inr (by decide)) (Or.inr (by decide)) (Or.inr (by decide)) (Or.inr (by decide)) (Or.inr (by decide)) (Or.inr (by decide))).trans pf1
        have pf2 := (yz18901.1 _ 29 (Or.inr (by decide)) (Or.inr (by decide)) (Or.inr (by decide)) (Or.inr (by decide)) (Or.inr (by decide)) (Or.inr (by decide))).trans pf2
        have qz18808 := (yz18901.1 _ 0 (Or.inr (by decide)) (Or.inr (by decide)) (Or.inr (by decide)) (Or.inr (by decide)) (Or.inr (by decide)) (Or.inr (by decide))).trans qz18808
        have hv18840 := (yz18901.1 _ 30 (Or.inr (by decide)) (Or.inr (by decide)) (Or.inr (by decide)) (Or.inr (by decide)) (Or.inr (by decide)) (Or.inr (by decide))).trans hv18840
        have vz18843 := (yz18901.2 _ _ ).trans vz18843
        have qfaz18897 := (yz18901.1 _ 13 (Or.inr (by decide)) (Or.inr (by decide)) (Or.inr (by decide)) (Or.inr (by decide)) (Or.inr (by decide)) (Or.inr (by decide))).trans qfaz18897
        have hfr : (∀ b j : Nat, (tag b ≠ 46 ∨ j ≠ 8) → (tag b ≠ 46 ∨ j ≠ 9) → (tag b ≠ 46 ∨ j ≠ 10) → (tag b ≠ 46 ∨ j ≠ 11) → (tag b ≠ 46 ∨ j ≠ 12) → (tag b ≠ 46 ∨ j ≠ 13) → (tag b ≠ 46 ∨ j ≠ 14) → (tag b ≠ 46 ∨ j ≠ 15) → fld F b j = fld Fo b j) ∧ (∀ b j : Nat, tag b ≠ 37 → elm F b j = elm Fo b j) := ⟨fun b j n46_8 n46_9 n46_10 n46_11 n46_12 n46_13 n46_14 n46_15 => (yz18901.1 b j n46_8 n46_9 n46_10 n46_11 n46_12 n46_15).trans (hfr.1 b j n46_8 n46_9 n46_10 n46_11 n46_12 n46_13 n46_14 n46_15), fun b j a37 => (yz18901.2 b j ).trans (hfr.2 b j a37)⟩
        have hrel := msr_of (fun j => yz18901.2 _ j ) (fun j => yz18901.2 _ j ) hrel
        have hstk := STK.tr hstk stz18901
        have hspt := SPT.tr hspt ptz18901
        have k5z18901 : soz18901.toInt = 5 := stz18901 (by omega)
        refine lv_aload_n hx hb dX13_readSkin_77 rfl (lv_at hl 1 rfl) ?_
        refine lv_iconst (v := 0) hx hb dX13_readSkin_78 (by decide) ?_
        refine t_cVi (n := 1) (C := RX13) (T := TX13) (N := 37) (As := [.int 0]) (rest := []) X hT (km36_X13_readKnown l G tag L F hT.2.2.2 p0 0 x0 x1 x2 soz18901 spz18901 faz18901 m0 g0 (by decide) mx0 gx0 pf0 mx1 gx1 pf1 mx2 gx2 pf2 (by omega) qsoz18901 (by omega) qspz18901 (by omega) qfaz18901 hrel hkf) m0 g0 rfl rfl qw_632 qw_633 qw_634 qw_5 qw_635 ⟨rfl, by decide +kernel, by decide +kernel, by decide +kernel⟩ ⟨Nat.le_of_ble_eq_true rfl, Nat.le_of_ble_eq_true rfl⟩ hl rfl rfl (Nat.le_of_ble_eq_true rfl) dX13_readSkin_79 ⟨Nat.le_of_ble_eq_true rfl, Nat.le_of_ble_eq_true rfl⟩ (fun z18902 F H locs hT hz18902 => ?_)
        obtain ⟨hz18902, yz18902, hrel, ⟨soz18902, spz18902, faz18902, qsoz18902, qspz18902, qfaz18902, rsoz18902, rspz18902, rfaz18902, stz18902, ptz18902, hkf⟩⟩ := hz18902
        have pf0 := (yz18902.1 _ 4 (Or.inr (by decide)) (Or.inr (by decide)) (Or.inr (by decide)) (Or.inr (by decide)) (Or.inr (by decide)) (Or.inr (by decide)) (Or.inr (by decide)) (Or.inr (by decide))).trans pf0
        have pf1 := (yz18902.1 _ 28 (Or.inr (by decide)) (Or.inr (by decide)) (Or.inr (by decide)) (Or.inr (by decide)) (Or.inr (by decide)) (Or.inr (by decide)) (Or.inr (by decide)) (Or.inr (by decide))).trans pf1
        have pf2 := (yz18902.1 _ 29 (Or.inr (by decide)) (Or.inr (by decide)) (Or.inr (by decide)) (Or.inr (by decide)) (Or.inr (by decide)) (Or.inr (by decide)) (Or.inr (by decide)) (Or.inr (by decide))).trans pf2
        have qz18808 := (yz18902.1 _ 0 (Or.inr (by decide)) (Or.inr (by decide)) (Or.inr (by decide)) (Or.inr (by decide)) (Or.inr (by decide)) (Or.inr (by decide)) (Or.inr (by decide)) (Or.inr (by decide))).trans qz18808
        have hv18840 := (yz18902.1 _ 30 (Or.inr (by decide)) (Or.inr (by decide)) (Or.inr (by decide)) (Or.inr (by decide)) (Or.inr (by decide)) (Or.inr (by decide)) (Or.inr (by decide)) (Or.inr (by decide))).trans hv18840
        have vz18843 := (yz18902.2 _ _ ).trans vz18843
        have hfr : (∀ b j : Nat, (tag b ≠ 46 ∨ j ≠ 8) → (tag b ≠ 46 ∨ j ≠ 9) → (tag b ≠ 46 ∨ j ≠ 10) → (tag b ≠ 46 ∨ j ≠ 11) → (tag b ≠ 46 ∨ j ≠ 12) → (tag b ≠ 46 ∨ j ≠ 13) → (tag b ≠ 46 ∨ j ≠ 14) → (tag b ≠ 46 ∨ j ≠ 15) → fld F b j = fld Fo b j) ∧ (∀ b j : Nat, tag b ≠ 37 → elm F b j = elm Fo b j) := ⟨fun b j n46_8 n46_9 n46_10 n46_11 n46_12 n46_13 n46_14 n46_15 => (yz18902.1 b j n46_8 n46_9 n46_10 n46_11 n46_12 n46_13 n46_14 n46_15).trans (hfr.1 b j n46_8 n46_9 n46_10 n46_11 n46_12 n46_13 n46_14 n46_15), fun b j a37 => (yz18902.2 b j ).trans (hfr.2 b j a37)⟩
        have hstk := STK.tr hstk stz18902
        have hspt := SPT.tr hspt ptz18902
        have k5z18902 : soz18902.toInt = 5 := stz18902 (by omega)
        refine lv_istore_n (lv' := [(2, .int z18902), (1, .int z18812), (0, .ref p0)]) hx hb dX13_readSkin_82 rfl hl (by decide) rfl (fun ls hl => ?_)
        refine lv_aload_n hx hb dX13_readSkin_83 rfl (lv_at hl 2 rfl) ?_
        refine t_cVi (n := 0) (C := RX13) (T := TX13) (N := 37) (As := []) (rest := []) X hT (km37_X13_readSide l G tag L F hT.2.2.2 p0 x0 x1 x2 soz18902 spz18902 faz18902 m0 g0 mx0 gx0 pf0 mx1 gx1 pf1 mx2 gx2 pf2 (by omega) qsoz18902 (by omega) qspz18902 (by omega) qfaz18902 hkf) m0 g0 rfl rfl qw_654 qw_655 qw_656 qw_5 qw_657 ⟨rfl, by decide +kernel, by decide +kernel, by decide +kernel⟩ ⟨Nat.le_of_ble_eq_true rfl, Nat.le_of_ble_eq_true rfl⟩ hl rfl rfl (Nat.le_of_ble_eq_true rfl) dX13_readSkin_84 ⟨Nat.le_of_ble_eq_true rfl, Nat.le_of_ble_eq_true rfl⟩ (fun z18903 F H locs hT hz18903 => ?_)
        obtain ⟨hz18903, yz18903, ⟨soz18903, spz18903, faz18903, qsoz18903, qspz18903, qfaz18903, rsoz18903, rspz18903, rfaz18903, stz18903, ptz18903, hkf⟩⟩ := hz18903
        have pf0 := (yz18903.1 _ 4 (Or.inr (by decide)) (Or.inr (by decide)) (Or.inr (by decide)) (Or.inr (by decide)) (Or.inr (by decide)) (Or.inr (by decide)) (Or.inr (by decide)) (Or.inr (by decide))).trans pf0
        have pf1 := (yz18903.1 _ 28 (Or.inr (by decide)) (Or.inr (by decide)) (Or.inr (by decide)) (Or.inr (by decide)) (Or.inr (by decide)) (Or.inr (by decide)) (Or.inr (by decide)) (Or.inr (by decide))).trans pf1
        have pf2 := (yz18903.1 _ 29 (Or.inr (by decide)) (Or.inr (by decide)) (Or.inr (by decide)) (Or.inr (by decide)) (Or.inr (by decide)) (Or.inr (by decide)) (Or.inr (by decide)) (Or.inr (by decide))).trans pf2
        have qz18808 := (yz18903.1 _ 0 (Or.inr (by decide)) (Or.inr (by decide)) (Or.inr (by decide)) (Or.inr (by decide)) (Or.inr (by decide)) (Or.inr (by decide)) (Or.inr (by decide)) (Or.inr (by decide))).trans qz18808
        have hv18840 := (yz18903.1 _ 30 (Or.inr (by decide)) (Or.inr (by decide)) (Or.inr (by decide)) (Or.inr (by decide)) (Or.inr (by decide)) (Or.inr (by decide)) (Or.inr (by decide)) (Or.inr (by decide))).trans hv18840
        have vz18843 := (yz18903.2 _ _ ).trans vz18843
        have hfr : (∀ b j : Nat, (tag b ≠ 46 ∨ j ≠ 8) → (tag b ≠ 46 ∨ j ≠ 9) → (tag b ≠ 46 ∨ j ≠ 10) → (tag b ≠ 46 ∨ j ≠ 11) → (tag b ≠ 46 ∨ j ≠ 12) → (tag b ≠ 46 ∨ j ≠ 13) → (tag b ≠ 46 ∨ j ≠ 14) → (tag b ≠ 46 ∨ j ≠ 15) → fld F b j = fld Fo b j) ∧ (∀ b j : Nat, tag b ≠ 37 → elm F b j = elm Fo b j) := ⟨fun b j n46_8 n46_9 n46_10 n46_11 n46_12 n46_13 n46_14 n46_15 => (yz18903.1 b j n46_8 n46_9 n46_10 n46_11 n46_12 n46_13 n46_14 n46_15).trans (hfr.1 b j n46_8 n46_9 n46_10 n46_11 n46_12 n46_13 n46_14 n46_15), fun b j a37 => (yz18903.2 b j ).trans (hfr.2 b j a37)⟩
        have hrel := msr_of (fun j => yz18903.2 _ j ) (fun j => yz18903.2 _ j ) hrel
        have hstk := STK.tr hstk stz18903
        have hspt := SPT.tr hspt ptz18903
        have k5z18903 : soz18903.toInt = 5 := stz18903 (by omega)
        refine lv_istore_n (lv' := [(3, .int z18903), (2, .int z18902), (1, .int z18812), (0, .ref p0)]) hx hb dX13_readSkin_87 rfl hl (by decide) rfl (fun ls hl => ?_)
        refine lv_aload_n hx hb dX13_readSkin_88 rfl (lv_at hl 3 rfl) ?_
        refine lv_iconst (v := 0) hx hb dX13_readSkin_89 (by decide) ?_
        refine lv_iconst (v := 2) hx hb dX13_readSkin_90 (by decide) ?_
        refine lv_aload_n hx hb dX13_readSkin_91 rfl (lv_at hl 3 rfl) ?_
        refine t_get (C := RX13) (T := TX13) (N := 37) X hT m0 g0 rfl rfl 4 (by decide) qw_477 inlX13 rfl dX13_readSkin_92 (fun v18904 hv18904 ov18904 => ?_)
        obtain rfl : v18904 = .ref x0 := hv18904.symm.trans pf0
        refine t_getN (C := RX12) (T := TX12) (N := 31) X hT mx0 gx0 rfl rfl 30 (by decide) (List.mem_of_getElem? (i := 34) rfl) inlX12 rfl dX13_readSkin_95 (fun v18905 hv18905 ov18905 => ?_)
        obtain rfl : v18905 = .ref b18841 := hv18905.symm.trans hv18840
        refine lv_iconst (v := 0) hx hb dX13_readSkin_98 (by decide) ?_
        refine lv_iload_n hx hb dX13_readSkin_99 rfl (lv_at hl 2 rfl) ?_
        refine lv_iadd hx hb dX13_readSkin_100 ?_
        refine lv_topi (fun z18906 ez18906 => ?_)
        obtain rfl : z18812 = z18906 := (ar_zadd ez18906).symm
        refine t_ild X hT mb18841 gb18841 rfl (by omega) dX13_readSkin_101 (fun z18907 vz18907 rz18907 => ?_)
        obtain rfl : z18843 = z18907 := vz18843.symm.trans vz18907
        refine lv_iconst (v := 1) hx hb dX13_readSkin_102 (by decide) ?_
        refine lv_iadd hx hb dX13_readSkin_103 ?_
        refine lv_topi (fun z18908 ez18908 => ?_)
        have hz18908 : z18908.toInt = z18843.toInt + 1 := ar_add ez18908 (rfl : z18843.toInt = z18843.toInt) (by decide : (1 : Int32).toInt = 1) (by omega) (by omega)
        have rz18908 : 7 ≤ z18908.toInt ∧ z18908.toInt ≤ 7 := by omega
        refine lv_imul hx hb dX13_readSkin_104 ?_
        refine lv_topi (fun z18909 ez18909 => ?_)
        have hz18909 : z18909.toInt = 2 * z18908.toInt := ar_mul ez18909 (by decide : (2 : Int32).toInt = 2) (rfl : z18908.toInt = z18908.toInt) (by omega) (by omega)
        have rz18909 : 14 ≤ z18909.toInt ∧ z18909.toInt ≤ 14 := by omega
        refine lv_iconst (v := 2) hx hb dX13_readSkin_105 (by decide) ?_
        refine lv_isub hx hb dX13_readSkin_106 ?_
        refine lv_topi (fun z18910 ez18910 => ?_)
        have hz18910 : z18910.toInt = z18909.toInt - 2 := ar_sub ez18910 (rfl : z18909.toInt = z18909.toInt) (by decide : (2 : Int32).toInt = 2) (by omega) (by omega)
        have rz18910 : 12 ≤ z18910.toInt ∧ z18910.toInt ≤ 12 := by omega
        refine t_cVi (n := 2) (C := RX13) (T := TX13) (N := 37) (As := [.int 0, .int z18910]) (rest := []) X hT (km39_X13_readWhole l G tag L F hT.2.2.2 p0 0 z18910 x0 x1 x2 soz18903 spz18903 faz18903 m0 g0 (by decide) (by omega) mx0 gx0 pf0 mx1 gx1 pf1 mx2 gx2 pf2 (by omega) qsoz18903 (by omega) qspz18903 (by omega) qfaz18903 hkf) m0 g0 rfl rfl qw_560 qw_561 qw_562 qw_5 qw_563 ⟨rfl, by decide +kernel, by decide +kernel, by decide +kernel⟩ ⟨Nat.le_of_ble_eq_true rfl, Nat.le_of_ble_eq_true rfl⟩ hl rfl rfl (Nat.le_of_ble_eq_true rfl) dX13_readSkin_107 ⟨Nat.le_of_ble_eq_true rfl, Nat.le_of_ble_eq_true rfl⟩ (fun z18911 F H locs hT hz18911 => ?_)
        obtain ⟨hz18911, yz18911, ⟨soz18911, spz18911, faz18911, qsoz18911, qspz18911, qfaz18911, rsoz18911, rspz18911, rfaz18911, stz18911, ptz18911, hkf⟩⟩ := hz18911
        have pf0 := (yz18911.1 _ 4 (Or.inr (by decide)) (Or.inr (by decide)) (Or.inr (by decide)) (Or.inr (by decide)) (Or.inr (by decide)) (Or.inr (by decide)) (Or.inr (by decide)) (Or.inr (by decide))).trans pf0
        have pf1 := (yz18911.1 _ 28 (Or.inr (by decide)) (Or.inr (by decide)) (Or.inr (by decide)) (Or.inr (by decide)) (Or.inr (by decide)) (Or.inr (by decide)) (Or.inr (by decide)) (Or.inr (by decide))).trans pf1
        have pf2 := (yz18911.1 _ 29 (Or.inr (by decide)) (Or.inr (by decide)) (Or.inr (by decide)) (Or.inr (by decide)) (Or.inr (by decide)) (Or.inr (by decide)) (Or.inr (by decide)) (Or.inr (by decide))).trans pf2
        have qz18808 := (yz18911.1 _ 0 (Or.inr (by decide)) (Or.inr (by decide)) (Or.inr (by decide)) (Or.inr (by decide)) (Or.inr (by decide)) (Or.inr (by decide)) (Or.inr (by decide)) (Or.inr (by decide))).trans qz18808
        have hv18840 := (yz18911.1 _ 30 (Or.inr (by decide)) (Or.inr (by decide)) (Or.inr (by decide)) (Or.inr (by decide)) (Or.inr (by decide)) (Or.inr (by decide)) (Or.inr (by decide)) (Or.inr (by decide))).trans hv18840
        have vz18843 := (yz18911.2 _ _ ).trans vz18843
        have hfr : (∀ b j : Nat, (tag b ≠ 46 ∨ j ≠ 8) → (tag b ≠ 46 ∨ j ≠ 9) → (tag b ≠ 46 ∨ j ≠ 10) → (tag b ≠ 46 ∨ j ≠ 11) → (tag b ≠ 46 ∨ j ≠ 12) → (tag b ≠ 46 ∨ j ≠ 13) → (tag b ≠ 46 ∨ j ≠ 14) → (tag b ≠ 46 ∨ j ≠ 15) → fld F b j = fld Fo b j) ∧ (∀ b j : Nat, tag b ≠ 37 → elm F b j = elm Fo b j) := ⟨fun b j n46_8 n46_9 n46_10 n46_11 n46_12 n46_13 n46_14 n46_15 => (yz18911.1 b j n46_8 n46_9 n46_10 n46_11 n46_12 n46_13 n46_14 n46_15).trans (hfr.1 b j n46_8 n46_9 n46_10 n46_11 n46_12 n46_13 n46_14 n46_15), fun b j a37 => (yz18911.2 b j ).trans (hfr.2 b j a37)⟩
        have hrel := msr_of (fun j => yz18911.2 _ j ) (fun j => yz18911.2 _ j ) hrel
        have hstk := STK.tr hstk stz18911
        have hspt := SPT.tr hspt ptz18911
        have k5z18911 : soz18911.toInt = 5 := stz18911 (by omega)
        refine lv_istore (lv' := [(4, .int z18911), (3, .int z18903), (2, .int z18902), (1, .int z18812), (0, .ref p0)]) hx hb dX13_readSkin_110 hl (by decide) rfl (fun ls hl => ?_)
        refine lv_aload_n hx hb dX13_readSkin_112 rfl (lv_at hl 4 rfl) ?_
        refine m_ldcKw X 76 rfl dX13_readSkin_113 ?_
        refine lv_iconst (v := 0) hx hb dX13_readSkin_116 (by decide) ?_
        refine lv_bipush (v := 99) hx hb dX13_readSkin_117 (by decide) ?_
        refine t_cVi (n := 3) (C := RX13) (T := TX13) (N := 37) (As := [.ref (G.2 (100 + 76)), .int 0, .int 99]) (rest := []) X hT (km43_X13_readPart l G tag L F hT.2.2.2 p0 76 0 99 x0 x1 x2 soz18911 spz18911 faz18911 m0 g0 (by decide) (by decide) (by decide) mx0 gx0 pf0 mx1 gx1 pf1 mx2 gx2 pf2 (by omega) qsoz18911 (by omega) qspz18911 (by omega) qfaz18911 hkf) m0 g0 rfl rfl qw_552 qw_553 qw_554 qw_5 qw_555 ⟨rfl, by decide +kernel, by decide +kernel, by decide +kernel⟩ ⟨Nat.le_of_ble_eq_true rfl, Nat.le_of_ble_eq_true rfl⟩ hl rfl rfl (Nat.le_of_ble_eq_true rfl) dX13_readSkin_119 ⟨Nat.le_of_ble_eq_true rfl, Nat.le_of_ble_eq_true rfl⟩ (fun z18912 F H locs hT hz18912 => ?_)
        obtain ⟨hz18912, yz18912, ⟨soz18912, spz18912, faz18912, qsoz18912, qspz18912, qfaz18912, rsoz18912, rspz18912, rfaz18912, stz18912, ptz18912, hkf⟩⟩ := hz18912
        have pf0 := (yz18912.1 _ 4 (Or.inr (by decide)) (Or.inr (by decide)) (Or.inr (by decide)) (Or.inr (by decide)) (Or.inr (by decide)) (Or.inr (by decide)) (Or.inr (by decide)) (Or.inr (by decide))).trans pf0
        have pf1 := (yz18912.1 _ 28 (Or.inr (by decide)) (Or.inr (by decide)) (Or.inr (by decide)) (Or.inr (by decide)) (Or.inr (by decide)) (Or.inr (by decide)) (Or.inr (by decide)) (Or.inr (by decide))).trans pf1
        have pf2 := (yz18912.1 _ 29 (Or.inr (by decide)) (Or.inr (by decide)) (Or.inr (by decide)) (Or.inr (by decide)) (Or.inr (by decide)) (Or.inr (by decide)) (Or.inr (by decide)) (Or.inr (by decide))).trans pf2
        have qz18808 := (yz18912.1 _ 0 (Or.inr (by decide)) (Or.inr (by decide)) (Or.inr (by decide)) (Or.inr (by decide)) (Or.inr (by decide)) (Or.inr (by decide)) (Or.inr (by decide)) (Or.inr (by decide))).trans qz18808
        have hv18840 := (yz18912.1 _ 30 (Or.inr (by decide)) (Or.inr (by decide)) (Or.inr (by decide)) (Or.inr (by decide)) (Or.inr (by decide)) (Or.inr (by decide)) (Or.inr (by decide)) (Or.inr (by decide))).trans hv18840
        have vz18843 := (yz18912.2 _ _ ).trans vz18843
        have hfr : (∀ b j : Nat, (tag b ≠ 46 ∨ j ≠ 8) → (tag b ≠ 46 ∨ j ≠ 9) → (tag b ≠ 46 ∨ j ≠ 10) → (tag b ≠ 46 ∨ j ≠ 11) → (tag b ≠ 46 ∨ j ≠ 12) → (tag b ≠ 46 ∨ j ≠ 13) → (tag b ≠ 46 ∨ j ≠ 14) → (tag b ≠ 46 ∨ j ≠ 15) → fld F b j = fld Fo b j) ∧ (∀ b j : Nat, tag b ≠ 37 → elm F b j = elm Fo b j) := ⟨fun b j n46_8 n46_9 n46_10 n46_11 n46_12 n46_13 n46_14 n46_15 => (yz18912.1 b j n46_8 n46_9 n46_10 n46_11 n46_12 n46_13 n46_14 n46_15).trans (hfr.1 b j n46_8 n46_9 n46_10 n46_11 n46_12 n46_13 n46_14 n46_15), fun b j a37 => (yz18912.2 b j ).trans (hfr.2 b j a37)⟩
        have hrel := msr_of (fun j => yz18912.2 _ j ) (fun j => yz18912.2 _ j ) hrel
        have hstk := STK.tr hstk stz18912
        have hspt := SPT.tr hspt ptz18912
        have k5z18912 : soz18912.toInt = 5 := stz18912 (by omega)
        refine lv_istore (lv' := [(5, .int z18912), (4, .int z18911), (3, .int z18903), (2, .int z18902), (1, .int z18812), (0, .ref p0)]) hx hb dX13_readSkin_122 hl (by decide) rfl (fun ls hl => ?_)
        refine lv_aload_n hx hb dX13_readSkin_124 rfl (lv_at hl 5 rfl) ?_
        refine t_get (C := RX13) (T := TX13) (N := 37) X hT m0 g0 rfl rfl 9 (by decide) qw_478 inlX13 rfl dX13_readSkin_125 (fun v18913 hv18913 ov18913 => ?_)
        obtain rfl : v18913 = .int soz18912 := hv18913.symm.trans qsoz18912
        refine lv_iconst (v := 5) hx hb dX13_readSkin_128 (by decide) ?_
        refine lv_icmp_ne (tgt := 133) hx hb dX13_readSkin_129 (by decide) (fun c18914 => ?_) (fun c18914 => ?_)
        · have w18915 := cv_ne (rfl : soz18912.toInt = soz18912.toInt) (by decide : (5 : Int32).toInt = 5) c18914
          exfalso
          omega
        · have w18916 := cv_eq (rfl : soz18912.toInt = soz18912.toInt) (by decide : (5 : Int32).toInt = 5) c18914
          exact t_vret hQ X hT ⟨hfr, hrel, ⟨soz18912, spz18912, faz18912, qsoz18912, qspz18912, qfaz18912, (by omega), (by omega), (by omega), hstk, hspt, hkf⟩⟩ (Nat.le_of_ble_eq_true rfl) (Nat.le_of_ble_eq_true rfl) dX13_readSkin_132
      · have w18917 := cv_ne (rfl : soz18897.toInt = soz18897.toInt) (by decide : (5 : Int32).toInt = 5) c18899
        exfalso
        omega
