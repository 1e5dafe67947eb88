set_option maxHeartbeats 4000000 in
set_option maxRecDepth 100000 in
theorem km49_X13_part (l : Launch) (G : KG) (tag : Nat → Nat) (L : List Nat) (F : Nat → va_E) (ho : okT G ttC tag L F) (p0 : Int32) (p1 : Int32) (p2 : Int32) (h0 : 0 ≤ p0.toInt ∧ p0.toInt ≤ 3) (h1 : 1 ≤ p1.toInt ∧ p1.toInt ≤ 6) (h2 : 0 ≤ p2.toInt ∧ p2.toInt ≤ 7) : TMi l yX13_part cX13_part 3 (some .int) { frames := 0, cells := 0, slots := 0, locals := 0 } G ttC tag L F [.int p0, .int p1, .int p2] (fun r F1 => F1 = F ∧ (12 ≤ r.toInt ∧ r.toInt ≤ 203) ∧ (r.toInt = 48 * p0.toInt + 8 * p1.toInt + p2.toInt + 4)) := by
  refine t_bodyi (y := yX13_part) (cd := cX13_part) (mL := 3) (rt := (some .int)) (rm := { frames := 0, cells := 0, slots := 0, locals := 0 }) (av := [.int p0, .int p1, .int p2]) (by decide) (Nat.le_of_ble_eq_true rfl) ho ?_
  intro p e s m args below meth c ls A Q hQ X hT hl
  have hx := X.1.1
  have hb := X.1.2.1
  have hl : lv_has ls 3 [(0, .int p0), (1, .int p1), (2, .int p2)] := hl
  refine lv_bipush (v := 12) hx hb dX13_part_0 (by decide) ?_
  refine lv_bipush (v := 6) hx hb dX13_part_2 (by decide) ?_
  refine lv_iload_n hx hb dX13_part_4 rfl (lv_at hl 0 rfl) ?_
  refine lv_imul hx hb dX13_part_5 ?_
  refine lv_topi (fun z17128 ez17128 => ?_)
  have hz17128 : z17128.toInt = 6 * p0.toInt := ar_mul ez17128 (by decide : (6 : Int32).toInt = 6) (rfl : p0.toInt = p0.toInt) (by omega) (by omega)
  have rz17128 : 0 ≤ z17128.toInt ∧ z17128.toInt ≤ 18 := by omega
  refine lv_iload_n hx hb dX13_part_6 rfl (lv_at hl 1 rfl) ?_
  refine lv_iadd hx hb dX13_part_7 ?_
  refine lv_topi (fun z17129 ez17129 => ?_)
  have hz17129 : z17129.toInt = z17128.toInt + p1.toInt := ar_add ez17129 (rfl : z17128.toInt = z17128.toInt) (rfl : p1.toInt = p1.toInt) (by omega) (by omega)
  have rz17129 : 1 ≤ z17129.toInt ∧ z17129.toInt ≤ 24 := by omega
  refine lv_iconst (v := 1) hx hb dX13_part_8 (by decide) ?_
  refine lv_isub hx hb dX13_part_9 ?_
  refine lv_topi (fun z17130 ez17130 => ?_)
  have hz17130 : z17130.toInt = z17129.toInt - 1 := ar_sub ez17130 (rfl : z17129.toInt = z17129.toInt) (by decide : (1 : Int32).toInt = 1) (by omega) (by omega)
  have rz17130 : 0 ≤ z17130.toInt ∧ z17130.toInt ≤ 23 := by omega
  refine lv_bipush (v := 8) hx hb dX13_part_10 (by decide) ?_
  refine lv_imul hx hb dX13_part_12 ?_
  refine lv_topi (fun z17131 ez17131 => ?_)
  have hz17131 : z17131.toInt = z17130.toInt * 8 := ar_mul ez17131 (rfl : z17130.toInt = z17130.toInt) (by decide : (8 : Int32).toInt = 8) (by omega) (by omega)
  have rz17131 : 0 ≤ z17131.toInt ∧ z17131.toInt ≤ 184 := by omega
  refine lv_iadd hx hb dX13_part_13 ?_
  refine lv_topi (fun z17132 ez17132 => ?_)
  have hz17132 : z17132.toInt = 12 + z17131.toInt := ar_add ez17132 (by decide : (12 : Int32).toInt = 12) (rfl : z17131.toInt = z17131.toInt) (by omega) (by omega)
  have rz17132 : 12 ≤ z17132.toInt ∧ z17132.toInt ≤ 196 := by omega
  refine lv_iload_n hx hb dX13_part_14 rfl (lv_at hl 2 rfl) ?_
  refine lv_iadd hx hb dX13_part_15 ?_
  refine lv_topi (fun z17133 ez17133 => ?_)
  have hz17133 : z17133.toInt = z17132.toInt + p2.toInt := ar_add ez17133 (rfl : z17132.toInt = z17132.toInt) (rfl : p2.toInt = p2.toInt) (by omega) (by omega)
  have rz17133 : 12 ≤ z17133.toInt ∧ z17133.toInt ≤ 203 := by omega
  exact t_iret hQ X hT (⟨rfl, (by omega), (by omega)⟩) (Nat.le_of_ble_eq_true rfl) (Nat.le_of_ble_eq_true rfl) dX13_part_16
set_option maxHeartbeats 4000000 in
set_option maxRecDepth 100000 in
theorem km50_X13_adds (l : Launch) (G : KG) (tag : Nat → Nat) (L : List Nat) (Fo : Nat → va_E) (ho : okT G ttC tag L Fo) (p0 : Nat) (p1 : Int32) (p2 : Int32) (p3 : Int32) (p4 : Int32) (p5 : Int32) (p6 : Int32) (x0 : Int32) (m0 : p0 ∈ L) (g0 : tag p0 = 37) (h1 : 0 ≤ p1.toInt ∧ p1.toInt ≤ 3) (h2 : 0 ≤ p2.toInt ∧ p2.toInt ≤ 3) (hx0 : 0 ≤ x0.toInt ∧ x0.toInt ≤ 5) (pf0 : elm Fo p0 p1.toNatClampNeg = x0) : TMv l yX13_adds cX13_adds 8 { frames := 1, cells := 0, slots := 0, locals := 22 } G ttC tag L Fo [.ref p0, .int p1, .int p2, .int p3, .int p4, .int p5, .int p6] (fun F1 => ((∀ b j : Nat, fld F1 b j = fld Fo b j) ∧ (∀ b j : Nat, tag b ≠ 37 → elm F1 b j = elm Fo b j)) ∧ (∃ z : Int32, elm F1 p0 p1.toNatClampNeg = z ∧ z.toInt = x0.toInt + 1)) := by
  refine t_bodyv (y := yX13_adds) (cd := cX13_adds) (mL := 8) (rm := { frames := 1, cells := 0, slots := 0, locals := 22 }) (av := [.ref p0, .int p1, .int p2, .int p3, .int p4, .int p5, .int p6]) (by decide) (Nat.le_of_ble_eq_true rfl) ho ?_
  intro p e s m args below meth c ls A Q hQ X hT hl
  have hx := X.1.1
  have hb := X.1.2.1
  have hl : lv_has ls 8 [(0, .ref p0), (1, .int p1), (2, .int p2), (3, .int p3), (4, .int p4), (5, .int p5), (6, .int p6)] := hl
  have rp3 := rg_all p3
  have rp4 := rg_all p4
  have rp5 := rg_all p5
  have rp6 := rg_all p6
  obtain ⟨F, hFo⟩ : ∃ F : Nat → va_E, F = Fo := ⟨_, rfl⟩
  rw [← hFo] at hT pf0
  have hfr : (∀ b j : Nat, fld F b j = fld Fo b j) ∧ (∀ b j : Nat, tag b ≠ 37 → elm F b j = elm Fo b j) := by
    rw [hFo]
    exact ⟨by intros; rfl, by intros; rfl⟩
  refine lv_aload_n hx hb dX13_adds_0 rfl (lv_at hl 0 rfl) ?_
  refine lv_iconst (v := 0) hx hb dX13_adds_1 (by decide) ?_
  refine lv_iload_n hx hb dX13_adds_2 rfl (lv_at hl 1 rfl) ?_
  refine lv_iadd hx hb dX13_adds_3 ?_
  refine lv_topi (fun z17458 ez17458 => ?_)
  obtain rfl : p1 = z17458 := (ar_zadd ez17458).symm
  refine lv_dup2_11 hx hb dX13_adds_4 rfl rfl ?_
  refine t_ild X hT m0 g0 rfl (by omega) dX13_adds_5 (fun z17459 vz17459 rz17459 => ?_)
  obtain rfl : x0 = z17459 := pf0.symm.trans vz17459
  refine lv_iconst (v := 1) hx hb dX13_adds_6 (by decide) ?_
  refine lv_iadd hx hb dX13_adds_7 ?_
  refine lv_topi (fun z17460 ez17460 => ?_)
  have hz17460 : z17460.toInt = x0.toInt + 1 := ar_add ez17460 (rfl : x0.toInt = x0.toInt) (by decide : (1 : Int32).toInt = 1) (by omega) (by omega)
  have rz17460 : 1 ≤ z17460.toInt ∧ z17460.toInt ≤ 6 := by omega
  refine t_ist X hT m0 g0 rfl (by omega) (row_mv (by omega) (by omega)) dX13_adds_8 (fun F H locs hT v17461 h1v17461 h2v17461 => ?_)
  have hfr : (∀ b j : Nat, fld F b j = fld Fo b j) ∧ (∀ b j : Nat, tag b ≠ 37 → elm F b j = elm Fo b j) := ⟨fun b j  => (h2v17461 b j).trans (hfr.1 b j ), fun b j a37 => (h1v17461 b j (Or.inl (at_ne g0 a37))).trans (hfr.2 b j a37)⟩
  refine lv_aload_n hx hb dX13_adds_9 rfl (lv_at hl 0 rfl) ?_
  refine lv_iconst (v := 0) hx hb dX13_adds_10 (by decide) ?_
  refine lv_iload_n hx hb dX13_adds_11 rfl (lv_at hl 1 rfl) ?_
  refine lv_iadd hx hb dX13_adds_12 ?_
  refine lv_topi (fun z17462 ez17462 => ?_)
  obtain rfl : p1 = z17462 := (ar_zadd ez17462).symm
  refine t_ild X hT m0 g0 rfl (by omega) dX13_adds_13 (fun z17463 vz17463 rz17463 => ?_)
  obtain rfl : z17460 = z17463 := v17461.symm.trans vz17463
  refine lv_istore (lv' := [(7, .int z17460), (0, .ref p0), (1, .int p1), (2, .int p2), (3, .int p3), (4, .int p4), (5, .int p5), (6, .int p6)]) hx hb dX13_adds_14 hl (by decide) rfl (fun ls hl => ?_)
  refine lv_aload_n hx hb dX13_adds_16 rfl (lv_at hl 1 rfl) ?_
  refine lv_iload_n hx hb dX13_adds_17 rfl (lv_at hl 2 rfl) ?_
  refine lv_iload hx hb dX13_adds_18 (lv_at hl 0 rfl) ?_
  refine lv_iconst (v := 0) hx hb dX13_adds_20 (by decide) ?_
  refine t_cSi (n := 3) (As := [.int p1, .int z17460, .int 0]) (rest := [.ref p0]) X hT (km49_X13_part l G tag L F hT.2.2.2 p1 z17460 0 (by omega) (by omega) (by decide)) qw_661 qw_662 qw_5 qw_663 ⟨by decide +kernel, by decide +kernel, by decide +kernel⟩ ⟨Nat.le_of_ble_eq_true rfl, Nat.le_of_ble_eq_true rfl⟩ hl rfl rfl (Nat.le_of_ble_eq_true rfl) dX13_adds_21 ⟨Nat.le_of_ble_eq_true rfl, Nat.le_of_ble_eq_true rfl⟩ (fun z17464 F9 H locs hT hz17464 => ?_)
  obtain ⟨fz17464, hz17464, xz17464_0⟩ := hz17464
  rw [fz17464] at hT
  have k17465 : (0 : Int32).toInt = 0 := by decide
  refine lv_iload_n hx hb dX13_adds_24 rfl (lv_at hl 3 rfl) ?_
  refine t_ist X hT m0 g0 rfl (by omega) (row_sv (by omega) (by omega) (by omega)) dX13_adds_25 (fun F H locs hT v17466 h1v17466 h2v17466 => ?_)
  have v17461 := (h1v17466 _ _ (Or.inr (ine (by omega) (by omega) (by omega)))).trans v17461
  have hfr : (∀ b j : Nat, fld F b j = fld Fo b j) ∧ (∀ b j : Nat, tag b ≠ 37 → elm F b j = elm Fo b j) := ⟨fun b j  => (h2v17466 b j).trans (hfr.1 b j ), fun b j a37 => (h1v17466 b j (Or.inl (at_ne g0 a37))).trans (hfr.2 b j a37)⟩
  refine lv_aload_n hx hb dX13_adds_26 rfl (lv_at hl 1 rfl) ?_
  refine lv_iload_n hx hb dX13_adds_27 rfl (lv_at hl 2 rfl) ?_
  refine lv_iload hx hb dX13_adds_28 (lv_at hl 0 rfl) ?_
  refine lv_iconst (v := 1) hx hb dX13_adds_30 (by decide) ?_
  refine t_cSi (n := 3) (As := [.int p1, .int z17460, .int 1]) (rest := [.ref p0]) X hT (km49_X13_part l G tag L F hT.2.2.2 p1 z17460 1 (by omega) (by omega) (by decide)) qw_661 qw_662 qw_5 qw_663 ⟨by decide +kernel, by decide +kernel, by decide +kernel⟩ ⟨Nat.le_of_ble_eq_true rfl, Nat.le_of_ble_eq_true rfl⟩ hl rfl rfl (Nat.le_of_ble_eq_true rfl) dX13_adds_31 ⟨Nat.le_of_ble_eq_true rfl, Nat.le_of_ble_eq_true rfl⟩ (fun z17467 F9 H locs hT hz17467 => ?_)
  obtain ⟨fz17467, hz17467, xz17467_0⟩ := hz17467
  rw [fz17467] at hT
  have k17468 : (1 : Int32).toInt = 1 := by decide
  refine lv_iload_n hx hb dX13_adds_34 rfl (lv_at hl 4 rfl) ?_
  refine t_ist X hT m0 g0 rfl (by omega) (row_fv (by omega) (Or.inr (Or.inr (by omega)))) dX13_adds_35 (fun F H locs hT v17469 h1v17469 h2v17469 => ?_)
  have v17461 := (h1v17469 _ _ (Or.inr (ine (by omega) (by omega) (by omega)))).trans v17461
  have hfr : (∀ b j : Nat, fld F b j = fld Fo b j) ∧ (∀ b j : Nat, tag b ≠ 37 → elm F b j = elm Fo b j) := ⟨fun b j  => (h2v17469 b j).trans (hfr.1 b j ), fun b j a37 => (h1v17469 b j (Or.inl (at_ne g0 a37))).trans (hfr.2 b j a37)⟩
  refine lv_aload_n hx hb dX13_adds_36 rfl (lv_at hl 1 rfl) ?_
  refine lv_iload_n hx hb dX13_adds_37 rfl (lv_at hl 2 rfl) ?_
  refine lv_iload hx hb dX13_adds_38 (lv_at hl 0 rfl) ?_
  refine lv_iconst (v := 2) hx hb dX13_adds_40 (by decide) ?_
  refine t_cSi (n := 3) (As := [.int p1, .int z17460, .int 2]) (rest := [.ref p0]) X hT (km49_X13_part l G tag L F hT.2.2.2 p1 z17460 2 (by omega) (by omega) (by decide)) qw_661 qw_662 qw_5 qw_663 ⟨by decide +kernel, by decide +kernel, by decide +kernel⟩ ⟨Nat.le_of_ble_eq_true rfl, Nat.le_of_ble_eq_true rfl⟩ hl rfl rfl (Nat.le_of_ble_eq_true rfl) dX13_adds_41 ⟨Nat.le_of_ble_eq_true rfl, Nat.le_of_ble_eq_true rfl⟩ (fun z17470 F9 H locs hT hz17470 => ?_)
  obtain ⟨fz17470, hz17470, xz17470_0⟩ := hz17470
  rw [fz17470] at hT
  have k17471 : (2 : Int32).toInt = 2 := by decide
  refine lv_iload hx hb dX13_adds_44 (lv_at hl 5 rfl) ?_
  refine t_ist X hT m0 g0 rfl (by omega) (row_fv (by omega) (Or.inr (Or.inr (by omega)))) dX13_adds_46 (fun F H locs hT v17472 h1v17472 h2v17472 => ?_)
  have v17461 := (h1v17472 _ _ (Or.inr (ine (by omega) (by omega) (by omega)))).trans v17461
  have hfr : (∀ b j : Nat, fld F b j = fld Fo b j) ∧ (∀ b j : Nat, tag b ≠ 37 → elm F b j = elm Fo b j) := ⟨fun b j  => (h2v17472 b j).trans (hfr.1 b j ), fun b j a37 => (h1v17472 b j (Or.inl (at_ne g0 a37))).trans (hfr.2 b j a37)⟩
  refine lv_aload_n hx hb dX13_adds_47 rfl (lv_at hl 1 rfl) ?_
  refine lv_iload_n hx hb dX13_adds_48 rfl (lv_at hl 2 rfl) ?_
  refine lv_iload hx hb dX13_adds_49 (lv_at hl 0 rfl) ?_
  refine lv_iconst (v := 3) hx hb dX13_adds_51 (by decide) ?_
  refine t_cSi (n := 3) (As := [.int p1, .int z17460, .int 3]) (rest := [.ref p0]) X hT (km49_X13_part l G tag L F hT.2.2.2 p1 z17460 3 (by omega) (by omega) (by decide)) qw_661 qw_662 qw_5 qw_663 ⟨by decide +kernel, by decide +kernel, by decide +kernel⟩ ⟨Nat.le_of_ble_eq_true rfl, Nat.le_of_ble_eq_true rfl⟩ hl rfl rfl (Nat.le_of_ble_eq_true rfl) dX13_adds_52 ⟨Nat.le_of_ble_eq_true rfl, Nat.le_of_ble_eq_true rfl⟩ (fun z17473 F9 H locs hT hz17473 => ?_)
  obtain ⟨fz17473, hz17473, xz17473_0⟩ := hz17473
  rw [fz17473] at hT
  have k17474 : (3 : Int32).toInt = 3 := by decide
  refine lv_iload hx hb dX13_adds_55 (lv_at hl 6 rfl) ?_
  refine t_ist X hT m0 g0 rfl (by omega) (row_fv (by omega) (Or.inr (Or.inr (by omega)))) dX13_adds_57 (fun F H locs hT v17475 h1v17475 h2v17475 => ?_)
  have v17461 := (h1v17475 _ _ (Or.inr (ine (by omega) (by omega) (by omega)))).trans v17461
  have hfr : (∀ b j : Nat, fld F b j = fld Fo b j) ∧ (∀ b j : Nat, tag b ≠ 37 → elm F b j = elm Fo b j) := ⟨fun b j  => (h2v17475 b j).trans (hfr.1 b j ), fun b j a37 => (h1v17475 b j (Or.inl (at_ne g0 a37))).trans (hfr.2 b j a37)⟩
  refine lv_aload_n hx hb dX13_adds_58 rfl (lv_at hl 1 rfl) ?_
  refine lv_iload_n hx hb dX13_adds_59 rfl (lv_at hl 2 rfl) ?_
  refine lv_iload hx hb dX13_adds_60 (lv_at hl 0 rfl) ?_
  refine lv_iconst (v := 4) hx hb dX13_adds_62 (by decide) ?_
  refine t_cSi (n := 3) (As := [.int p1, .int z17460, .int 4]) (rest := [.ref p0]) X hT (km49_X13_part l G tag L F hT.2.2.2 p1 z17460 4 (by omega) (by omega) (by decide)) qw_661 qw_662 qw_5 qw_663 ⟨by decide +kernel, by decide +kernel, by decide +kernel⟩ ⟨Nat.le_of_ble_eq_true rfl, Nat.le_of_ble_eq_true rfl⟩ hl rfl rfl (Nat.le_of_ble_eq_true rfl) dX13_adds_63 ⟨Nat.le_of_ble_eq_true rfl, Nat.le_of_ble_eq_true rfl⟩ (fun z17476 F9 H locs hT hz17476 => ?_)
  obtain ⟨fz17476, hz17476, xz17476_0⟩ := hz17476
  rw [fz17476] at hT
  have k17477 : (4 : Int32).toInt = 4 := by decide
  refine lv_iconst (v := 0) hx hb dX13_adds_66 (by decide) ?_
  refine t_ist X hT m0 g0 rfl (by omega) (row_fv (by omega) (Or.inr (Or.inr (by omega)))) dX13_adds_67 (fun F H locs hT v17478 h1v17478 h2v17478 => ?_)
  have v17461 := (h1v17478 _ _ (Or.inr (ine (by omega) (by omega) (by omega)))).trans v17461
  have hfr : (∀ b j : Nat, fld F b j = fld Fo b j) ∧ (∀ b j : Nat, tag b ≠ 37 → elm F b j = elm Fo b j) := ⟨fun b j  => (h2v17478 b j).trans (hfr.1 b j ), fun b j a37 => (h1v17478 b j (Or.inl (at_ne g0 a37))).trans (hfr.2 b j a37)⟩
  refine lv_aload_n hx hb dX13_adds_68 rfl (lv_at hl 1 rfl) ?_
  refine lv_iload_n hx hb dX13_adds_69 rfl (lv_at hl 2 rfl) ?_
  refine lv_iload hx hb dX13_adds_70 (lv_at hl 0 rfl) ?_
  refine lv_iconst (v := 5) hx hb dX13_adds_72 (by decide) ?_
  refine t_cSi (n := 3) (As := [.int p1, .int z17460, .int 5]) (rest := [.ref p0]) X hT (km49_X13_part l G tag L F hT.2.2.2 p1 z17460 5 (by omega) (by omega) (by decide)) qw_661 qw_662 qw_5 qw_663 ⟨by decide +kernel, by decide +kernel, by decide +kernel⟩ ⟨Nat.le_of_ble_eq_true rfl, Nat.le_of_ble_eq_true rfl⟩ hl rfl rfl (Nat.le_of_ble_eq_true rfl) dX13_adds_73 ⟨Nat.le_of_ble_eq_true rfl, Nat.le_of_ble_eq_true rfl⟩ (fun z17479 F9 H locs hT hz17479 => ?_)
  obtain ⟨fz17479, hz17479, xz17479_0⟩ := hz17479
  rw [fz17479] at hT
  have k17480 : (5 : Int32).toInt = 5 := by decide
  refine lv_iconst (v := 0) hx hb dX13_adds_76 (by decide) ?_
  refine t_ist X hT m0 g0 rfl (by omega) (row_fv (by omega) (Or.inr (Or.inr (by omega)))) dX13_adds_77 (fun F H locs hT v17481 h1v17481 h2v17481 => ?_)
  have v17461 := (h1v17481 _ _ (Or.inr (ine (by omega) (by omega) (by omega)))).trans v17461
  have hfr : (∀ b j : Nat, fld F b j = fld Fo b j) ∧ (∀ b j : Nat, tag b ≠ 37 → elm F b j = elm Fo b j) := ⟨fun b j  => (h2v17481 b j).trans (hfr.1 b j ), fun b j a37 => (h1v17481 b j (Or.inl (at_ne g0 a37))).trans (hfr.2 b j a37)⟩
  refine lv_aload_n hx hb dX13_adds_78 rfl (lv_at hl 1 rfl) ?_
  refine lv_iload_n hx hb dX13_adds_79 rfl (lv_at hl 2 rfl) ?_
  refine lv_iload hx hb dX13_adds_80 (lv_at hl 0 rfl) ?_
  refine lv_bipush (v := 6) hx hb dX13_adds_82 (by decide) ?_
  refine t_cSi (n := 3) (As := [.int p1, .int z17460, .int 6]) (rest := [.ref p0]) X hT (km49_X13_part l G tag L F hT.2.2.2 p1 z17460 6 (by omega) (by omega) (by decide)) qw_661 qw_662 qw_5 qw_663 ⟨by decide +kernel, by decide +kernel, by decide +kernel⟩ ⟨Nat.le_of_ble_eq_true rfl, Nat.le_of_ble_eq_true rfl⟩ hl rfl rfl (Nat.le_of_ble_eq_true rfl) dX13_adds_84 ⟨Nat.le_of_ble_eq_true rfl, Nat.le_of_ble_eq_true rfl⟩ (fun z17482 F9 H locs hT hz17482 => ?_)
  obtain ⟨fz17482, hz17482, xz17482_0⟩ := hz17482
  rw [fz17482] at hT
  have k17483 : (6 : Int32).toInt = 6 := by decide
  refine lv_iconst (v := 0) hx hb dX13_adds_87 (by decide) ?_
  refine t_ist X hT m0 g0 rfl (by omega) (row_fv (by omega) (Or.inr (Or.inr (by omega)))) dX13_adds_88 (fun F H locs hT v17484 h1v17484 h2v17484 => ?_)
  have v17461 := (h1v17484 _ _ (Or.inr (ine (by omega) (by omega) (by omega)))).trans v17461
  have hfr : (∀ b j : Nat, fld F b j = fld Fo b j) ∧ (∀ b j : Nat, tag b ≠ 37 → elm F b j = elm Fo b j) := ⟨fun b j  => (h2v17484 b j).trans (hfr.1 b j ), fun b j a37 => (h1v17484 b j (Or.inl (at_ne g0 a37))).trans (hfr.2 b j a37)⟩
  refine lv_aload_n hx hb dX13_adds_89 rfl (lv_at hl 1 rfl) ?_
  refine lv_iload_n hx hb dX13_adds_90 rfl (lv_at hl 2 rfl) ?_
  refine lv_iload hx hb dX13_adds_91 (lv_at hl 0 rfl) ?_
  refine lv_bipush (v := 7) hx hb dX13_adds_93 (by decide) ?_
  refine t_cSi (n := 3) (As := [.int p1, .int z17460, .int 7]) (rest := [.ref p0]) X hT (km49_X13_part l G tag L F hT.2.2.2 p1 z17460 7 (by omega) (by omega) (by decide)) qw_661 qw_662 qw_5 qw_663 ⟨by decide +kernel, by decide +kernel, by decide +kernel⟩ ⟨Nat.le_of_ble_eq_true rfl, Nat.le_of_ble_eq_true rfl⟩ hl rfl rfl (Nat.le_of_ble_eq_true rfl) dX13_adds_95 ⟨Nat.le_of_ble_eq_true rfl, Nat.le_of_ble_eq_true rfl⟩ (fun z17485 F9 H locs hT hz17485 => ?_)
  obtain ⟨fz17485, hz17485, xz17485_0⟩ := hz17485
  rw [fz17485] at hT
  have k17486 : (7 : Int32).toInt = 7 := by decide
  refine lv_iload hx hb dX13_adds_98 (lv_at hl 7 rfl) ?_
  refine t_ist X hT m0 g0 rfl (by omega) (row_fv (by omega) (Or.inr (Or.inr (by omega)))) dX13_adds_100 (fun F H locs hT v17487 h1v17487 h2v17487 => ?_)
  have v17461 := (h1v17487 _ _ (Or.inr (ine (by omega) (by omega) (by omega)))).trans v17461
  have hfr : (∀ b j : Nat, fld F b j = fld Fo b j) ∧ (∀ b j : Nat, tag b ≠ 37 → elm F b j = elm Fo b j) := ⟨fun b j  => (h2v17487 b j).trans (hfr.1 b j ), fun b j a37 => (h1v17487 b j (Or.inl (at_ne g0 a37))).trans (hfr.2 b j a37)⟩
  exact t_vret hQ X hT ⟨hfr, ⟨_, v17461, by omega⟩⟩ (Nat.le_of_ble_eq_true rfl) (Nat.le_of_ble_eq_true rfl) dX13_adds_101
set_option maxHeartbeats 4000000 in
set_option maxRecDepth 100000 in
theorem km51_X13_readSkin (l : Launch) (G : KG) (tag : Nat → Nat) (L : List Nat) (Fo : Nat → va_E) (ho : okT G ttC tag L Fo) (p0 : Nat) (x0 : Nat) (x1 : Nat) (x2 : Nat) (x3 : Int32) (x4 : Int32) (x5 : Int32) (m0 : p0 ∈ L) (g0 : tag p0 = 46) (mx0 : x0 ∈ L) (gx0 : tag x0 = 44) (pf0 : fld Fo p0 4 = .ref x0) (mx1 : x1 ∈ L) (gx1 : tag x1 = 35) (pf1 : fld Fo x0 28 = .ref x1) (mx2 : x2 ∈ L) (gx2 : tag x2 = 36) (pf2 : fld Fo x0 29 = .ref x2) (hx3 : 0 ≤ x3.toInt ∧ x3.toInt ≤ 5) (pf3 : fld Fo p0 9 = .int x3) (hx4 : 0 ≤ x4.toInt ∧ x4.toInt ≤ 1000) (pf4 : fld Fo p0 8 = .int x4) (hx5 : 0 ≤ x5.toInt ∧ x5.toInt ≤ 7) (pf5 : fld Fo p0 13 = .int x5) (hrel : MSR Fo x1 x2) (hkf : KF x3 x5) : TMv l yX13_readSkin cX13_readSkin 6 { frames := 9, cells := 0, slots := 0, locals := 193 } G ttC tag L Fo [.ref p0] (fun F1 => ((∀ b j : Nat, (tag b ≠ 46 ∨ j ≠ 8) → (tag b ≠ 46 ∨ j ≠ 9) → (tag b ≠ 46 ∨ j ≠ 10) → (tag b ≠ 46 ∨ j ≠ 11) → (tag b ≠ 46 ∨ j ≠ 12) → (tag b ≠ 46 ∨ j ≠ 13) → (tag b ≠ 46 ∨ j ≠ 14) → (tag b ≠ 46 ∨ j ≠ 15) → fld F1 b j = fld Fo b j) ∧ (∀ b j : Nat, tag b ≠ 37 → elm F1 b j = elm Fo b j)) ∧ (MSR F1 x1 x2) ∧ (∃ so sp fa : Int32, fld F1 p0 9 = .int so ∧ fld F1 p0 8 = .int sp ∧ fld F1 p0 13 = .int fa ∧ (0 ≤ so.toInt ∧ so.toInt ≤ 5) ∧ (0 ≤ sp.toInt ∧ sp.toInt ≤ 1000) ∧ (0 ≤ fa.toInt ∧ fa.toInt ≤ 7) ∧ STK x3 so ∧ SPT x3 x4 so sp ∧ KF so fa)) := by
  refine t_bodyv (y := yX13_readSkin) (cd := cX13_readSkin) (mL := 6) (rm := { frames := 9, cells := 0, slots := 0, locals := 193 }) (av := [.ref p0]) (by decide) (Nat.le_of_ble_eq_true rfl) ho ?_
  intro p e s m args below meth c ls A Q hQ X hT hl
  have hx := X.1.1
  have hb := X.1.2.1
  have hl : lv_has ls 6 [(0, .ref p0)] := hl
  obtain ⟨F, hFo⟩ : ∃ F : Nat → va_E, F = Fo := ⟨_, rfl⟩
  rw [← hFo] at hT pf0 pf1 pf2 pf3 pf4 pf5 hrel
  have hfr : (∀ b j : Nat, (tag b ≠ 46 ∨ j ≠ 8) → (tag b ≠ 46 ∨ j ≠ 9) → (tag b ≠ 46 ∨ j ≠ 10) → (tag b ≠ 46 ∨ j ≠ 11) → (tag b ≠ 46 ∨ j ≠ 12) → (tag b ≠ 46 ∨ j ≠ 13) → (tag b ≠ 46 ∨ j ≠ 14) → (tag b ≠ 46 ∨ j ≠ 15) → fld F b j = fld Fo b j) ∧ (∀ b j : Nat, tag b ≠ 37 → elm F b j = elm Fo b j) := by
    rw [hFo]
    exact ⟨by intros; rfl, by intros; rfl⟩
  have hstk : STK x3 x3 := STK.rf
  have hspt : SPT x3 x4 x3 x4 := SPT.rf
  refine lv_aload_n hx hb dX13_readSkin_0 rfl (lv_at hl 0 rfl) ?_
  refine lv_iconst (v := 0) hx hb dX13_readSkin_1 (by decide) ?_
  refine lv_iconst (v := 1) hx hb dX13_readSkin_2 (by decide) ?_
  obtain ⟨z18631, qz18631, rz18631⟩ := t_fld hT mx0 gx0 rfl 0 rfl
  have rz18631 : 0 ≤ z18631.toInt ∧ z18631.toInt ≤ 12 := rz18631
  refine t_cVv (n := 2) (C := RX13) (T := TX13) (N := 37) (As := [.int 0, .int 1]) (rest := []) X hT (km15_X13_begins l G tag L F hT.2.2.2 p0 0 1 x0 x1 x2 x3 x4 x5 z18631 m0 g0 mx0 gx0 pf0 mx1 gx1 pf1 mx2 gx2 pf2 (by omega) pf3 (by omega) pf4 (by omega) pf5 (by omega) qz18631 hkf) m0 g0 rfl rfl qw_575 qw_576 qw_577 qw_5 qw_578 ⟨rfl, by decide +kernel, by decide +kernel, by decide +kernel⟩ ⟨Nat.le_of_ble_eq_true rfl, Nat.le_of_ble_eq_true rfl⟩ hl rfl rfl (Nat.le_of_ble_eq_true rfl) dX13_readSkin_3 ⟨Nat.le_of_ble_eq_true rfl, Nat.le_of_ble_eq_true rfl⟩ (fun F H locs hT hz18632 => ?_)
  obtain ⟨yz18632, ⟨soz18632, spz18632, faz18632, qsoz18632, qspz18632, qfaz18632, rsoz18632, rspz18632, rfaz18632, stz18632, ptz18632, hkf, pxz18632_0⟩⟩ := hz18632
  have pf0 := (yz18632.1 _ 4 (Or.inr (by decide)) (Or.inr (by decide)) (Or.inr (by decide)) (Or.inr (by decide)) (Or.inr (by decide)) (Or.inr (by decide)) (Or.inr (by decide)) (Or.inr (by decide))).trans pf0
  have pf1 := (yz18632.1 _ 28 (Or.inr (by decide)) (Or.inr (by decide)) (Or.inr (by decide)) (Or.inr (by decide)) (Or.inr (by decide)) (Or.inr (by decide)) (Or.inr (by decide)) (Or.inr (by decide))).trans pf1
  have pf2 := (yz18632.1 _ 29 (Or.inr (by decide)) (Or.inr (by decide)) (Or.inr (by decide)) (Or.inr (by decide)) (Or.inr (by decide)) (Or.inr (by decide)) (Or.inr (by decide)) (Or.inr (by decide))).trans pf2
  have qz18631 := (yz18632.1 _ 0 (Or.inr (by decide)) (Or.inr (by decide)) (Or.inr (by decide)) (Or.inr (by decide)) (Or.inr (by decide)) (Or.inr (by decide)) (Or.inr (by decide)) (Or.inr (by decide))).trans qz18631
  have hfr : (∀ b j : Nat, (tag b ≠ 46 ∨ j ≠ 8) → (tag b ≠ 46 ∨ j ≠ 9) → (tag b ≠ 46 ∨ j ≠ 10) → (tag b ≠ 46 ∨ j ≠ 11) → (tag b ≠ 46 ∨ j ≠ 12) → (tag b ≠ 46 ∨ j ≠ 13) → (tag b ≠ 46 ∨ j ≠ 14) → (tag b ≠ 46 ∨ j ≠ 15) → fld F b j = fld Fo b j) ∧ (∀ b j : Nat, tag b ≠ 37 → elm F b j = elm Fo b j) := ⟨fun b j n46_8 n46_9 n46_10 n46_11 n46_12 n46_13 n46_14 n46_15 => (yz18632.1 b j n46_8 n46_9 n46_10 n46_11 n46_12 n46_13 n46_14 n46_15).trans (hfr.1 b j n46_8 n46_9 n46_10 n46_11 n46_12 n46_13 n46_14 n46_15), fun b j a37 => (yz18632.2 b j ).trans (hfr.2 b j a37)⟩
  have hrel := msr_of (fun j => yz18632.2 _ j ) (fun j => yz18632.2 _ j ) hrel
  have hstk := STK.tr hstk stz18632
  have hspt := SPT.tr hspt ptz18632
  have k18633 : (0 : Int32).toInt = 0 := by decide
  have k18634 : (1 : Int32).toInt = 1 := by decide
  refine lv_aload_n hx hb dX13_readSkin_6 rfl (lv_at hl 0 rfl) ?_
  refine lv_iconst (v := 1) hx hb dX13_readSkin_7 (by decide) ?_
  refine t_cVi (n := 1) (C := RX13) (T := TX13) (N := 37) (As := [.int 1]) (rest := []) X hT (km29_X13_known l G tag L F hT.2.2.2 p0 1 x0 x1 x2 soz18632 spz18632 faz18632 m0 g0 (by decide) mx0 gx0 pf0 mx1 gx1 pf1 mx2 gx2 pf2 (by omega) qsoz18632 (by omega) qspz18632 (by omega) qfaz18632 hrel hkf) m0 g0 rfl rfl qw_636 qw_637 qw_638 qw_5 qw_639 ⟨rfl, by decide +kernel, by decide +kernel, by decide +kernel⟩ ⟨Nat.le_of_ble_eq_true rfl, Nat.le_of_ble_eq_true rfl⟩ hl rfl rfl (Nat.le_of_ble_eq_true rfl) dX13_readSkin_8 ⟨Nat.le_of_ble_eq_true rfl, Nat.le_of_ble_eq_true rfl⟩ (fun z18635 F H locs hT hz18635 => ?_)
  obtain ⟨hz18635, yz18635, hrel, ⟨soz18635, spz18635, faz18635, qsoz18635, qspz18635, qfaz18635, rsoz18635, rspz18635, rfaz18635, stz18635, ptz18635, hkf⟩⟩ := hz18635
  have pf0 := (yz18635.1 _ 4 (Or.inr (by decide)) (Or.inr (by decide)) (Or.inr (by decide))).trans pf0
  have pf1 := (yz18635.1 _ 28 (Or.inr (by decide)) (Or.inr (by decide)) (Or.inr (by decide))).trans pf1
  have pf2 := (yz18635.1 _ 29 (Or.inr (by decide)) (Or.inr (by decide)) (Or.inr (by decide))).trans pf2
  have qz18631 := (yz18635.1 _ 0 (Or.inr (by decide)) (Or.inr (by decide)) (Or.inr (by decide))).trans qz18631
  have qspz18632 := (yz18635.1 _ 8 (Or.inr (by decide)) (Or.inr (by decide)) (Or.inr (by decide))).trans qspz18632
  have hfr : (∀ b j : Nat, (tag b ≠ 46 ∨ j ≠ 8) → (tag b ≠ 46 ∨ j ≠ 9) → (tag b ≠ 46 ∨ j ≠ 10) → (tag b ≠ 46 ∨ j ≠ 11) → (tag b ≠ 46 ∨ j ≠ 12) → (tag b ≠ 46 ∨ j ≠ 13) → (tag b ≠ 46 ∨ j ≠ 14) → (tag b ≠ 46 ∨ j ≠ 15) → fld F b j = fld Fo b j) ∧ (∀ b j : Nat, tag b ≠ 37 → elm F b j = elm Fo b j) := ⟨fun b j n46_8 n46_9 n46_10 n46_11 n46_12 n46_13 n46_14 n46_15 => (yz18635.1 b j n46_9 n46_13 n46_14).trans (hfr.1 b j n46_8 n46_9 n46_10 n46_11 n46_12 n46_13 n46_14 n46_15), fun b j a37 => (yz18635.2 b j ).trans (hfr.2 b j a37)⟩
  have hstk := STK.tr hstk stz18635
  have hspt := SPT.tr hspt ptz18635
  refine lv_istore_n (lv' := [(1, .int z18635), (0, .ref p0)]) hx hb dX13_readSkin_11 rfl hl (by decide) rfl (fun ls hl => ?_)
  refine lv_aload_n hx hb dX13_readSkin_12 rfl (lv_at hl 1 rfl) ?_
  refine t_get (C := RX13) (T := TX13) (N := 37) X hT m0 g0 rfl rfl 9 (by decide) qw_478 inlX13 rfl dX13_readSkin_13 (fun v18636 hv18636 ov18636 => ?_)
  obtain rfl : v18636 = .int soz18635 := hv18636.symm.trans qsoz18635
  refine lv_iconst (v := 5) hx hb dX13_readSkin_16 (by decide) ?_
  refine lv_icmp_eq (tgt := 41) hx hb dX13_readSkin_17 (by decide) (fun c18637 => ?_) (fun c18637 => ?_)
  · have w18638 := cv_eq (rfl : soz18635.toInt = soz18635.toInt) (by decide : (5 : Int32).toInt = 5) c18637
    refine lv_aload_n hx hb dX13_readSkin_41 rfl (lv_at hl 1 rfl) ?_
    refine t_get (C := RX13) (T := TX13) (N := 37) X hT m0 g0 rfl rfl 9 (by decide) qw_478 inlX13 rfl dX13_readSkin_42 (fun v18639 hv18639 ov18639 => ?_)
    obtain rfl : v18639 = .int soz18635 := hv18639.symm.trans qsoz18635
    refine lv_iconst (v := 5) hx hb dX13_readSkin_45 (by decide) ?_
    refine lv_icmp_eq (tgt := 73) hx hb dX13_readSkin_46 (by decide) (fun c18640 => ?_) (fun c18640 => ?_)
    · have w18641 := cv_eq (rfl : soz18635.toInt = soz18635.toInt) (by decide : (5 : Int32).toInt = 5) c18640
      refine lv_aload_n hx hb dX13_readSkin_73 rfl (lv_at hl 1 rfl) ?_
      refine t_cVv (n := 0) (C := RX13) (T := TX13) (N := 37) (As := []) (rest := []) X hT (km14_X13_goesOn l G tag L F hT.2.2.2 p0 x0 x1 x2 soz18635 spz18635 faz18635 m0 g0 mx0 gx0 pf0 mx1 gx1 pf1 mx2 gx2 pf2 (by omega) qsoz18635 (by omega) qspz18635 (by omega) qfaz18635 hkf) m0 g0 rfl rfl qw_508 qw_509 qw_510 qw_5 qw_511 ⟨rfl, by decide +kernel, by decide +kernel, by decide +kernel⟩ ⟨Nat.le_of_ble_eq_true rfl, Nat.le_of_ble_eq_true rfl⟩ hl rfl rfl (Nat.le_of_ble_eq_true rfl) dX13_readSkin_74 ⟨Nat.le_of_ble_eq_true rfl, Nat.le_of_ble_eq_true rfl⟩ (fun F H locs hT hz18642 => ?_)
      obtain ⟨yz18642, ⟨soz18642, spz18642, faz18642, qsoz18642, qspz18642, qfaz18642, rsoz18642, rspz18642, rfaz18642, stz18642, ptz18642, hkf⟩⟩ := hz18642
      have pf0 := (yz18642.1 _ 4 (Or.inr (by decide)) (Or.inr (by decide)) (Or.inr (by decide)) (Or.inr (by decide)) (Or.inr (by decide)) (Or.inr (by decide))).trans pf0
      have pf1 := (yz18642.1 _ 28 (Or.inr (by decide)) (Or.inr (by decide)) (Or.inr (by decide)) (Or.inr (by decide)) (Or.inr (by decide)) (Or.inr (by decide))).trans pf1
      have pf2 := (yz18642.1 _ 29 (Or.inr (by decide)) (Or.inr (by decide)) (Or.inr (by decide)) (Or.inr (by decide)) (Or.inr (by decide)) (Or.inr (by decide))).trans pf2
      have qz18631 := (yz18642.1 _ 0 (Or.inr (by decide)) (Or.inr (by decide)) (Or.inr (by decide)) (Or.inr (by decide)) (Or.inr (by decide)) (Or.inr (by decide))).trans qz18631
      have qfaz18635 := (yz18642.1 _ 13 (Or.inr (by decide)) (Or.inr (by decide)) (Or.inr (by decide)) (Or.inr (by decide)) (Or.inr (by decide)) (Or.inr (by decide))).trans qfaz18635
      have hfr : (∀ b j : Nat, (tag b ≠ 46 ∨ j ≠ 8) → (tag b ≠ 46 ∨ j ≠ 9) → (tag b ≠ 46 ∨ j ≠ 10) → (tag b ≠ 46 ∨ j ≠ 11) → (tag b ≠ 46 ∨ j ≠ 12) → (tag b ≠ 46 ∨ j ≠ 13) → (tag b ≠ 46 ∨ j ≠ 14) → (tag b ≠ 46 ∨ j ≠ 15) → fld F b j = fld Fo b j) ∧ (∀ b j : Nat, tag b ≠ 37 → elm F b j = elm Fo b j) := ⟨fun b j n46_8 n46_9 n46_10 n46_11 n46_12 n46_13 n46_14 n46_15 => (yz18642.1 b j n46_8 n46_9 n46_10 n46_11 n46_12 n46_15).trans (hfr.1 b j n46_8 n46_9 n46_10 n46_11 n46_12 n46_13 n46_14 n46_15), fun b j a37 => (yz18642.2 b j ).trans (hfr.2 b j a37)⟩
      have hrel := msr_of (fun j => yz18642.2 _ j ) (fun j => yz18642.2 _ j ) hrel
      have hstk := STK.tr hstk stz18642
      have hspt := SPT.tr hspt ptz18642
      have k5z18642 : soz18642.toInt = 5 := stz18642 (by omega)
      refine lv_aload_n hx hb dX13_readSkin_77 rfl (lv_at hl 1 rfl) ?_
      refine lv_iconst (v := 0) hx hb dX13_readSkin_78 (by decide) ?_
      refine t_cVi (n := 1) (C := RX13) (T := TX13) (N := 37) (As := [.int 0]) (rest := []) X hT (km36_X13_readKnown l G tag L F hT.2.2.2 p0 0 x0 x1 x2 soz18642 spz18642 faz18642 m0 g0 (by decide) mx0 gx0 pf0 mx1 gx1 pf1 mx2 gx2 pf2 (by omega) qsoz18642 (by omega) qspz18642 (by omega) qfaz18642 hrel hkf) m0 g0 rfl rfl qw_632 qw_633 qw_634 qw_5 qw_635 ⟨rfl, by decide +kernel, by decide +kernel, by decide +kernel⟩ ⟨Nat.le_of_ble_eq_true rfl, Nat.le_of_ble_eq_true rfl⟩ hl rfl rfl (Nat.le_of_ble_eq_true rfl) dX13_readSkin_79 ⟨Nat.le_of_ble_eq_true rfl, Nat.le_of_ble_eq_true rfl⟩ (fun z18643 F H locs hT hz18643 => ?_)
      obtain ⟨hz18643, yz18643, hrel, ⟨soz18643, spz18643, faz18643, qsoz18643, qspz18643, qfaz18643, rsoz18643, rspz18643, rfaz18643, stz18643, ptz18643, hkf⟩⟩ := hz18643
      have pf0 := (yz18643.1 _ 4 (Or.inr (by decide)) (Or.inr (by decide)) (Or.inr (by decide)) (Or.inr (by decide)) (Or.inr (by decide)) (Or.inr (by decide)) (Or.inr (by decide)) (Or.inr (by decide))).trans pf0
      have pf1 := (yz18643.1 _ 28 (Or.inr (by decide)) (Or.inr (by decide)) (Or.inr (by decide)) (Or.inr (by decide)) (Or.inr (by decide)) (Or.inr (by decide)) (Or.inr (by decide)) (Or.inr (by decide))).trans pf1
      have pf2 := (yz18643.1 _ 29 (Or.inr (by decide)) (Or.inr (by decide)) (Or.inr (by decide)) (Or.inr (by decide)) (Or.inr (by decide)) (Or.inr (by decide)) (Or.inr (by decide)) (Or.inr (by decide))).trans pf2
      have qz18631 := (yz18643.1 _ 0 (Or.inr (by decide)) (Or.inr (by decide)) (Or.inr (by decide)) (Or.inr (by decide)) (Or.inr (by decide)) (Or.inr (by decide)) (Or.inr (by decide)) (Or.inr (by decide))).trans qz18631
      have hfr : (∀ b j : Nat, (tag b ≠ 46 ∨ j ≠ 8) → (tag b ≠ 46 ∨ j ≠ 9) → (tag b ≠ 46 ∨ j ≠ 10) → (tag b ≠ 46 ∨ j ≠ 11) → (tag b ≠ 46 ∨ j ≠ 12) → (tag b ≠ 46 ∨ j ≠ 13) → (tag b ≠ 46 ∨ j ≠ 14) → (tag b ≠ 46 ∨ j ≠ 15) → fld F b j = fld Fo b j) ∧ (∀ b j : Nat, tag b ≠ 37 → elm F b j = elm Fo b j) := ⟨fun b j n46_8 n46_9 n46_10 n46_11 n46_12 n46_13 n46_14 n46_15 => (yz18643.1 b j n46_8 n46_9 n46_10 n46_11 n46_12 n46_13 n46_14 n46_15).trans (hfr.1 b j n46_8 n46_9 n46_10 n46_11 n46_12 n46_13 n46_14 n46_15), fun b j a37 => (yz18643.2 b j ).trans (hfr.2 b j a37)⟩
      have hstk := STK.tr hstk stz18643
      have hspt := SPT.tr hspt ptz18643
      have k5z18643 : soz18643.toInt = 5 := stz18643 (by omega)
      refine lv_istore_n (lv' := [(2, .int z18643), (1, .int z18635), (0, .ref p0)]) hx hb dX13_readSkin_82 rfl hl (by decide) rfl (fun ls hl => ?_)
      refine lv_aload_n hx hb dX13_readSkin_83 rfl (lv_at hl 2 rfl) ?_
      refine t_cVi (n := 0) (C := RX13) (T := TX13) (N := 37) (As := []) (rest := []) X hT (km37_X13_readSide l G tag L F hT.2.2.2 p0 x0 x1 x2 soz18643 spz18643 faz18643 m0 g0 mx0 gx0 pf0 mx1 gx1 pf1 mx2 gx2 pf2 (by omega) qsoz18643 (by omega) qspz18643 (by omega) qfaz18643 hkf) m0 g0 rfl rfl qw_654 qw_655 qw_656 qw_5 qw_657 ⟨rfl, by decide +kernel, by decide +kernel, by decide +kernel⟩ ⟨Nat.le_of_ble_eq_true rfl, Nat.le_of_ble_eq_true rfl⟩ hl rfl rfl (Nat.le_of_ble_eq_true rfl) dX13_readSkin_84 ⟨Nat.le_of_ble_eq_true rfl, Nat.le_of_ble_eq_true rfl⟩ (fun z18644 F H locs hT hz18644 => ?_)
      obtain ⟨hz18644, yz18644, ⟨soz18644, spz18644, faz18644, qsoz18644, qspz18644, qfaz18644, rsoz18644, rspz18644, rfaz18644, stz18644, ptz18644, hkf⟩⟩ := hz18644
      have pf0 := (yz18644.1 _ 4 (Or.inr (by decide)) (Or.inr (by decide)) (Or.inr (by decide)) (Or.inr (by decide)) (Or.inr (by decide)) (Or.inr (by decide)) (Or.inr (by decide)) (Or.inr (by decide))).trans pf0
      have pf1 := (yz18644.1 _ 28 (Or.inr (by decide)) (Or.inr (by decide)) (Or.inr (by decide)) (Or.inr (by decide)) (Or.inr (by decide)) (Or.inr (by decide)) (Or.inr (by decide)) (Or.inr (by decide))).trans pf1
      have pf2 := (yz18644.1 _ 29 (Or.inr (by decide)) (Or.inr (by decide)) (Or.inr (by decide)) (Or.inr (by decide)) (Or.inr (by decide)) (Or.inr (by decide)) (Or.inr (by decide)) (Or.inr (by decide))).trans pf2
      have qz18631 := (yz18644.1 _ 0 (Or.inr (by decide)) (Or.inr (by decide)) (Or.inr (by decide)) (Or.inr (by decide)) (Or.inr (by decide)) (Or.inr (by decide)) (Or.inr (by decide)) (Or.inr (by decide))).trans qz18631
      have hfr : (∀ b j : Nat, (tag b ≠ 46 ∨ j ≠ 8) → (tag b ≠ 46 ∨ j ≠ 9) → (tag b ≠ 46 ∨ j ≠ 10) → (tag b ≠ 46 ∨ j ≠ 11) → (tag b ≠ 46 ∨ j ≠ 12) → (tag b ≠ 46 ∨ j ≠ 13) → (tag b ≠ 46 ∨ j ≠ 14) → (tag b ≠ 46 ∨ j ≠ 15) → fld F b j = fld Fo b j) ∧ (∀ b j : Nat, tag b ≠ 37 → elm F b j = elm Fo b j) := ⟨fun b j n46_8 n46_9 n46_10 n46_11 n46_12 n46_13 n46_14 n46_15 => (yz18644.1 b j n46_8 n46_9 n46_10 n46_11 n46_12 n46_13 n46_14 n46_15).trans (hfr.1 b j n46_8 n46_9 n46_10 n46_11 n46_12 n46_13 n46_14 n46_15), fun b j a37 => (yz18644.2 b j ).trans (hfr.2 b j a37)⟩
      have hrel := msr_of (fun j => yz18644.2 _ j ) (fun j => yz18644.2 _ j ) hrel
      have hstk := STK.tr hstk stz18644
      have hspt := SPT.tr hspt ptz18644
      have k5z18644 : soz18644.toInt = 5 := stz18644 (by omega)
      refine lv_istore_n (lv' := [(3, .int z18644), (2, .int z18643), (1, .int z18635), (0, .ref p0)]) hx hb dX13_readSkin_87 rfl hl (by decide) rfl (fun ls hl => ?_)
      refine lv_aload_n hx hb dX13_readSkin_88 rfl (lv_at hl 3 rfl) ?_
      refine lv_iconst (v := 0) hx hb dX13_readSkin_89 (by decide) ?_
      refine lv_iconst (v := 2) hx hb dX13_readSkin_90 (by decide) ?_
      refine lv_aload_n hx hb dX13_readSkin_91 rfl (lv_at hl 3 rfl) ?_
      refine t_get (C := RX13) (T := TX13) (N := 37) X hT m0 g0 rfl rfl 4 (by decide) qw_477 inlX13 rfl dX13_readSkin_92 (fun v18645 hv18645 ov18645 => ?_)
      obtain rfl : v18645 = .ref x0 := hv18645.symm.trans pf0
      refine t_getN (C := RX12) (T := TX12) (N := 31) X hT mx0 gx0 rfl rfl 30 (by decide) (List.mem_of_getElem? (i := 34) rfl) inlX12 rfl dX13_readSkin_95 (fun v18646 hv18646 ov18646 => ?_)
      obtain ⟨b18647, rfl, mb18647, gb18647⟩ := okV_r ov18646
      have gb18647 : tag b18647 = 37 := tg_of gb18647
      refine lv_iconst (v := 0) hx hb dX13_readSkin_98 (by decide) ?_
      refine lv_iload_n hx hb dX13_readSkin_99 rfl (lv_at hl 2 rfl) ?_
      refine lv_iadd hx hb dX13_readSkin_100 ?_
      refine lv_topi (fun z18648 ez18648 => ?_)
      obtain rfl : z18635 = z18648 := (ar_zadd ez18648).symm
      refine t_ild X hT mb18647 gb18647 rfl (by omega) dX13_readSkin_101 (fun z18649 vz18649 rz18649 => ?_)
      have rz18649 := row_ml (by omega) rz18649
      refine lv_iconst (v := 1) hx hb dX13_readSkin_102 (by decide) ?_
      refine lv_iadd hx hb dX13_readSkin_103 ?_
      refine lv_topi (fun z18650 ez18650 => ?_)
      have hz18650 : z18650.toInt = z18649.toInt + 1 := ar_add ez18650 (rfl : z18649.toInt = z18649.toInt) (by decide : (1 : Int32).toInt = 1) (by omega) (by omega)
      have rz18650 : 1 ≤ z18650.toInt ∧ z18650.toInt ≤ 7 := by omega
      refine lv_imul hx hb dX13_readSkin_104 ?_
      refine lv_topi (fun z18651 ez18651 => ?_)
      have hz18651 : z18651.toInt = 2 * z18650.toInt := ar_mul ez18651 (by decide : (2 : Int32).toInt = 2) (rfl : z18650.toInt = z18650.toInt) (by omega) (by omega)
      have rz18651 : 2 ≤ z18651.toInt ∧ z18651.toInt ≤ 14 := by omega
      refine lv_iconst (v := 2) hx hb dX13_readSkin_105 (by decide) ?_
      refine lv_isub hx hb dX13_readSkin_106 ?_
      refine lv_topi (fun z18652 ez18652 => ?_)
      have hz18652 : z18652.toInt = z18651.toInt - 2 := ar_sub ez18652 (rfl : z18651.toInt = z18651.toInt) (by decide : (2 : Int32).toInt = 2) (by omega) (by omega)
      have rz18652 : 0 ≤ z18652.toInt ∧ z18652.toInt ≤ 12 := by omega
      refine t_cVi (n := 2) (C := RX13) (T := TX13) (N := 37) (As := [.int 0, .int z18652]) (rest := []) X hT (km39_X13_readWhole l G tag L F hT.2.2.2 p0 0 z18652 x0 x1 x2 soz18644 spz18644 faz18644 m0 g0 (by decide) (by omega) mx0 gx0 pf0 mx1 gx1 pf1 mx2 gx2 pf2 (by omega) qsoz18644 (by omega) qspz18644 (by omega) qfaz18644 hkf) m0 g0 rfl rfl qw_560 qw_561 qw_562 qw_5 qw_563 ⟨rfl, by decide +kernel, by decide +kernel, by decide +kernel⟩ ⟨Nat.le_of_ble_eq_true rfl, Nat.le_of_ble_eq_true rfl⟩ hl rfl rfl (Nat.le_of_ble_eq_true rfl) dX13_readSkin_107 ⟨Nat.le_of_ble_eq_true rfl, Nat.le_of_ble_eq_true rfl⟩ (fun z18653 F H locs hT hz18653 => ?_)
      obtain ⟨hz18653, yz18653, ⟨soz18653, spz18653, faz18653, qsoz18653, qspz18653, qfaz18653, rsoz18653, rspz18653, rfaz18653, stz18653, ptz18653, hkf⟩⟩ := hz18653
      have pf0 := (yz18653.1 _ 4 (Or.inr (by decide)) (Or.inr (by decide)) (Or.inr (by decide)) (Or.inr (by decide)) (Or.inr (by decide)) (Or.inr (by decide)) (Or.inr (by decide)) (Or.inr (by decide))).trans pf0
      have pf1 := (yz18653.1 _ 28 (Or.inr (by decide)) (Or.inr (by decide)) (Or.inr (by decide)) (Or.inr (by decide)) (Or.inr (by decide)) (Or.inr (by decide)) (Or.inr (by decide)) (Or.inr (by decide))).trans pf1
      have pf2 := (yz18653.1 _ 29 (Or.inr (by decide)) (Or.inr (by decide)) (Or.inr (by decide)) (Or.inr (by decide)) (Or.inr (by decide)) (Or.inr (by decide)) (Or.inr (by decide)) (Or.inr (by decide))).trans pf2
      have qz18631 := (yz18653.1 _ 0 (Or.inr (by decide)) (Or.inr (by decide)) (Or.inr (by decide)) (Or.inr (by decide)) (Or.inr (by decide)) (Or.inr (by decide)) (Or.inr (by decide)) (Or.inr (by decide))).trans qz18631
      have hv18646 := (yz18653.1 _ 30 (Or.inr (by decide)) (Or.inr (by decide)) (Or.inr (by decide)) (Or.inr (by decide)) (Or.inr (by decide)) (Or.inr (by decide)) (Or.inr (by decide)) (Or.inr (by decide))).trans hv18646
      have vz18649 := (yz18653.2 _ _ ).trans vz18649
      have hfr : (∀ b j : Nat, (tag b ≠ 46 ∨ j ≠ 8) → (tag b ≠ 46 ∨ j ≠ 9) → (tag b ≠ 46 ∨ j ≠ 10) → (tag b ≠ 46 ∨ j ≠ 11) → (tag b ≠ 46 ∨ j ≠ 12) → (tag b ≠ 46 ∨ j ≠ 13) → (tag b ≠ 46 ∨ j ≠ 14) → (tag b ≠ 46 ∨ j ≠ 15) → fld F b j = fld Fo b j) ∧ (∀ b j : Nat, tag b ≠ 37 → elm F b j = elm Fo b j) := ⟨fun b j n46_8 n46_9 n46_10 n46_11 n46_12 n46_13 n46_14 n46_15 => (yz18653.1 b j n46_8 n46_9 n46_10 n46_11 n46_12 n46_13 n46_14 n46_15).trans (hfr.1 b j n46_8 n46_9 n46_10 n46_11 n46_12 n46_13 n46_14 n46_15), fun b j a37 => (yz18653.2 b j ).trans (hfr.2 b j a37)⟩
      have hrel := msr_of (fun j => yz18653.2 _ j ) (fun j => yz18653.2 _ j ) hrel
      have hstk := STK.tr hstk stz18653
      have hspt := SPT.tr hspt ptz18653
      have k5z18653 : soz18653.toInt = 5 := stz18653 (by omega)
      refine lv_istore (lv' := [(4, .int z18653), (3, .int z18644), (2, .int z18643), (1, .int z18635), (0, .ref p0)]) hx hb dX13_readSkin_110 hl (by decide) rfl (fun ls hl => ?_)
      refine lv_aload_n hx hb dX13_readSkin_112 rfl (lv_at hl 4 rfl) ?_
      refine m_ldcKw X 76 rfl dX13_readSkin_113 ?_
      refine lv_iconst (v := 0) hx hb dX13_readSkin_116 (by decide) ?_
      refine lv_bipush (v := 99) hx hb dX13_readSkin_117 (by decide) ?_
      refine t_cVi (n := 3) (C := RX13) (T := TX13) (N := 37) (As := [.ref (G.2 (100 + 76)), .int 0, .int 99]) (rest := []) X hT (km43_X13_readPart l G tag L F hT.2.2.2 p0 76 0 99 x0 x1 x2 soz18653 spz18653 faz18653 m0 g0 (by decide) (by decide) (by decide) mx0 gx0 pf0 mx1 gx1 pf1 mx2 gx2 pf2 (by omega) qsoz18653 (by omega) qspz18653 (by omega) qfaz18653 hkf) m0 g0 rfl rfl qw_552 qw_553 qw_554 qw_5 qw_555 ⟨rfl, by decide +kernel, by decide +kernel, by decide +kernel⟩ ⟨Nat.le_of_ble_eq_true rfl, Nat.le_of_ble_eq_true rfl⟩ hl rfl rfl (Nat.le_of_ble_eq_true rfl) dX13_readSkin_119 ⟨Nat.le_of_ble_eq_true rfl, Nat.le_of_ble_eq_true rfl⟩ (fun z18654 F H locs hT hz18654 => ?_)
      obtain ⟨hz18654, yz18654, ⟨soz18654, spz18654, faz18654, qsoz18654, qspz18654, qfaz18654, rsoz18654, rspz18654, rfaz18654, stz18654, ptz18654, hkf⟩⟩ := hz18654
      have pf0 := (yz18654.1 _ 4 (Or.inr (by decide)) (Or.inr (by decide)) (Or.inr (by decide)) (Or.inr (by decide)) (Or.inr (by decide)) (Or.inr (by decide)) (Or.inr (by decide)) (Or.inr (by decide))).trans pf0
      have pf1 := (yz18654.1 _ 28 (Or.inr (by decide)) (Or.inr (by decide)) (Or.inr (by decide)) (Or.inr (by decide)) (Or.inr (by decide)) (Or.inr (by decide)) (Or.inr (by decide)) (Or.inr (by decide))).trans pf1
      have pf2 := (yz18654.1 _ 29 (Or.inr (by decide)) (Or.inr (by decide)) (Or.inr (by decide)) (Or.inr (by decide)) (Or.inr (by decide)) (Or.inr (by decide)) (Or.inr (by decide)) (Or.inr (by decide))).trans pf2
      have qz18631 := (yz18654.1 _ 0 (Or.inr (by decide)) (Or.inr (by decide)) (Or.inr (by decide)) (Or.inr (by decide)) (Or.inr (by decide)) (Or.inr (by decide)) (Or.inr (by decide)) (Or.inr (by decide))).trans qz18631
      have hv18646 := (yz18654.1 _ 30 (Or.inr (by decide)) (Or.inr (by decide)) (Or.inr (by decide)) (Or.inr (by decide)) (Or.inr (by decide)) (Or.inr (by decide)) (Or.inr (by decide)) (Or.inr (by decide))).trans hv18646
      have vz18649 := (yz18654.2 _ _ ).trans vz18649
      have hfr : (∀ b j : Nat, (tag b ≠ 46 ∨ j ≠ 8) → (tag b ≠ 46 ∨ j ≠ 9) → (tag b ≠ 46 ∨ j ≠ 10) → (tag b ≠ 46 ∨ j ≠ 11) → (tag b ≠ 46 ∨ j ≠ 12) → (tag b ≠ 46 ∨ j ≠ 13) → (tag b ≠ 46 ∨ j ≠ 14) → (tag b ≠ 46 ∨ j ≠ 15) → fld F b j = fld Fo b j) ∧ (∀ b j : Nat, tag b ≠ 37 → elm F b j = elm Fo b j) := ⟨fun b j n46_8 n46_9 n46_10 n46_11 n46_12 n46_13 n46_14 n46_15 => (yz18654.1 b j n46_8 n46_9 n46_10 n46_11 n46_12 n46_13 n46_14 n46_15).trans (hfr.1 b j n46_8 n46_9 n46_10 n46_11 n46_12 n46_13 n46_14 n46_15), fun b j a37 => (yz18654.2 b j ).trans (hfr.2 b j a37)⟩
      have hrel := msr_of (fun j => yz18654.2 _ j ) (fun j => yz18654.2 _ j ) hrel
      have hstk := STK.tr hstk stz18654
      have hspt := SPT.tr hspt ptz18654
      have k5z18654 : soz18654.toInt = 5 := stz18654 (by omega)
      refine lv_istore (lv' := [(5, .int z18654), (4, .int z18653), (3, .int z18644), (2, .int z18643), (1, .int z18635), (0, .ref p0)]) hx hb dX13_readSkin_122 hl (by decide) rfl (fun ls hl => ?_)
      refine lv_aload_n hx hb dX13_readSkin_124 rfl (lv_at hl 5 rfl) ?_
      refine t_get (C := RX13) (T := TX13) (N := 37) X hT m0 g0 rfl rfl 9 (by decide) qw_478 inlX13 rfl dX13_readSkin_125 (fun v18655 hv18655 ov18655 => ?_)
      obtain rfl : v18655 = .int soz18654 := hv18655.symm.trans qsoz18654
      refine lv_iconst (v := 5) hx hb dX13_readSkin_128 (by decide) ?_
      refine lv_icmp_ne (tgt := 133) hx hb dX13_readSkin_129 (by decide) (fun c18656 => ?_) (fun c18656 => ?_)
      · have w18657 := cv_ne (rfl : soz18654.toInt = soz18654.toInt) (by decide : (5 : Int32).toInt = 5) c18656
        exfalso
        omega
      · have w18658 := cv_eq (rfl : soz18654.toInt = soz18654.toInt) (by decide : (5 : Int32).toInt = 5) c18656
        exact t_vret hQ X hT ⟨hfr, hrel, ⟨soz18654, spz18654, faz18654, qsoz18654, qspz18654, qfaz18654, (by omega), (by omega), (by omega), hstk, hspt, hkf⟩⟩ (Nat.le_of_ble_eq_true rfl) (Nat.le_of_ble_eq_true rfl) dX13_readSkin_132
    · have w18659 := cv_ne (rfl : soz18635.toInt = soz18635.toInt) (by decide : (5 : Int32).toInt = 5) c18640
      exfalso
      omega
  · have w18660 := cv_ne (rfl : soz18635.toInt = soz18635.toInt) (by decide : (5 : Int32).toInt = 5) c18637
    have w18661 := (fun h9 => pxz18632_0 (fun e9 => h9 (stz18635 e9))) (by omega)
    refine lv_aload_n hx hb dX13_readSkin_20 rfl (lv_at hl 1 rfl) ?_
    refine t_get (C := RX13) (T := TX13) (N := 37) X hT m0 g0 rfl rfl 4 (by decide) qw_477 inlX13 rfl dX13_readSkin_21 (fun v18662 hv18662 ov18662 => ?_)
    obtain rfl : v18662 = .ref x0 := hv18662.symm.trans pf0
    refine t_getN (C := RX12) (T := TX12) (N := 31) X hT mx0 gx0 rfl rfl 30 (by decide) (List.mem_of_getElem? (i := 34) rfl) inlX12 rfl dX13_readSkin_24 (fun v18663 hv18663 ov18663 => ?_)
    obtain ⟨b18664, rfl, mb18664, gb18664⟩ := okV_r ov18663
    have gb18664 : tag b18664 = 37 := tg_of gb18664
    refine lv_iconst (v := 0) hx hb dX13_readSkin_27 (by decide) ?_
    refine lv_iload_n hx hb dX13_readSkin_28 rfl (lv_at hl 0 rfl) ?_
    refine lv_iadd hx hb dX13_readSkin_29 ?_
    refine lv_topi (fun z18665 ez18665 => ?_)
    obtain rfl : z18635 = z18665 := (ar_zadd ez18665).symm
    refine t_ild X hT mb18664 gb18664 rfl (by omega) dX13_readSkin_30 (fun z18666 vz18666 rz18666 => ?_)
    have rz18666 := row_ml (by omega) rz18666
    refine lv_bipush (v := 6) hx hb dX13_readSkin_31 (by decide) ?_
    refine lv_icmp_ne (tgt := 41) hx hb dX13_readSkin_33 (by decide) (fun c18667 => ?_) (fun c18667 => ?_)
    · have w18668 := cv_ne (rfl : z18666.toInt = z18666.toInt) (by decide : (6 : Int32).toInt = 6) c18667
      refine lv_aload_n hx hb dX13_readSkin_41 rfl (lv_at hl 1 rfl) ?_
      refine t_get (C := RX13) (T := TX13) (N := 37) X hT m0 g0 rfl rfl 9 (by decide) qw_478 inlX13 rfl dX13_readSkin_42 (fun v18669 hv18669 ov18669 => ?_)
      obtain rfl : v18669 = .int soz18635 := hv18669.symm.trans qsoz18635
      refine lv_iconst (v := 5) hx hb dX13_readSkin_45 (by decide) ?_
      refine lv_icmp_eq (tgt := 73) hx hb dX13_readSkin_46 (by decide) (fun c18670 => ?_) (fun c18670 => ?_)
      · have w18671 := cv_eq (rfl : soz18635.toInt = soz18635.toInt) (by decide : (5 : Int32).toInt = 5) c18670
        exfalso
        omega
      · have w18672 := cv_ne (rfl : soz18635.toInt = soz18635.toInt) (by decide : (5 : Int32).toInt = 5) c18670
        have w18673 := (fun h9 => pxz18632_0 (fun e9 => h9 (stz18635 e9))) (by omega)
        refine lv_aload_n hx hb dX13_readSkin_49 rfl (lv_at hl 1 rfl) ?_
        refine t_get (C := RX13) (T := TX13) (N := 37) X hT m0 g0 rfl rfl 4 (by decide) qw_477 inlX13 rfl dX13_readSkin_50 (fun v18674 hv18674 ov18674 => ?_)
        obtain rfl : v18674 = .ref x0 := hv18674.symm.trans pf0
        refine lv_aload_n hx hb dX13_readSkin_53 rfl (lv_at hl 1 rfl) ?_
        refine t_get (C := RX13) (T := TX13) (N := 37) X hT m0 g0 rfl rfl 4 (by decide) qw_477 inlX13 rfl dX13_readSkin_54 (fun v18675 hv18675 ov18675 => ?_)
        obtain rfl : v18675 = .ref x0 := hv18675.symm.trans pf0
        refine t_getN (C := RX12) (T := TX12) (N := 31) X hT mx0 gx0 rfl rfl 30 (by decide) (List.mem_of_getElem? (i := 34) rfl) inlX12 rfl dX13_readSkin_57 (fun v18676 hv18676 ov18676 => ?_)
        obtain rfl : v18676 = .ref b18664 := hv18676.symm.trans hv18663
        refine lv_iload_n hx hb dX13_readSkin_60 rfl (lv_at hl 0 rfl) ?_
        refine t_cSi (n := 3) (As := [.ref x0, .ref b18664, .int z18635]) (rest := []) X hT (km48_X13_fitsIn l G tag L F hT.2.2.2 x0 b18664 z18635 z18631 mx0 gx0 mb18664 gb18664 (by omega) (by omega) qz18631) qw_644 qw_645 qw_5 qw_646 ⟨by decide +kernel, by decide +kernel, by decide +kernel⟩ ⟨Nat.le_of_ble_eq_true rfl, Nat.le_of_ble_eq_true rfl⟩ hl rfl rfl (Nat.le_of_ble_eq_true rfl) dX13_readSkin_61 ⟨Nat.le_of_ble_eq_true rfl, Nat.le_of_ble_eq_true rfl⟩ (fun z18677 F9 H locs hT hz18677 => ?_)
        obtain ⟨fz18677, hz18677⟩ := hz18677
        rw [fz18677] at hT
        refine lv_if_ne (tgt := 73) hx hb dX13_readSkin_64 (by decide) (fun c18678 => ?_) (fun c18678 => ?_)
        · have w18679 := cv_ne (rfl : z18677.toInt = z18677.toInt) (by decide : (0 : Int32).toInt = 0) c18678
          refine lv_aload_n hx hb dX13_readSkin_73 rfl (lv_at hl 1 rfl) ?_
          refine t_cVv (n := 0) (C := RX13) (T := TX13) (N := 37) (As := []) (rest := []) X hT (km14_X13_goesOn l G tag L F hT.2.2.2 p0 x0 x1 x2 soz18635 spz18635 faz18635 m0 g0 mx0 gx0 pf0 mx1 gx1 pf1 mx2 gx2 pf2 (by omega) qsoz18635 (by omega) qspz18635 (by omega) qfaz18635 hkf) m0 g0 rfl rfl qw_508 qw_509 qw_510 qw_5 qw_511 ⟨rfl, by decide +kernel, by decide +kernel, by decide +kernel⟩ ⟨Nat.le_of_ble_eq_true rfl, Nat.le_of_ble_eq_true rfl⟩ hl rfl rfl (Nat.le_of_ble_eq_true rfl) dX13_readSkin_74 ⟨Nat.le_of_ble_eq_true rfl, Nat.le_of_ble_eq_true rfl⟩ (fun F H locs hT hz18680 => ?_)
          obtain ⟨yz18680, ⟨soz18680, spz18680, faz18680, qsoz18680, qspz18680, qfaz18680, rsoz18680, rspz18680, rfaz18680, stz18680, ptz18680, hkf⟩⟩ := hz18680
          have pf0 := (yz18680.1 _ 4 (Or.inr (by decide)) (Or.inr (by decide)) (Or.inr (by decide)) (Or.inr (by decide)) (Or.inr (by decide)) (Or.inr (by decide))).trans pf0
          have pf1 := (yz18680.1 _ 28 (Or.inr (by decide)) (Or.inr (by decide)) (Or.inr (by decide)) (Or.inr (by decide)) (Or.inr (by decide)) (Or.inr (by decide))).trans pf1
          have pf2 := (yz18680.1 _ 29 (Or.inr (by decide)) (Or.inr (by decide)) (Or.inr (by decide)) (Or.inr (by decide)) (Or.inr (by decide)) (Or.inr (by decide))).trans pf2
          have qz18631 := (yz18680.1 _ 0 (Or.inr (by decide)) (Or.inr (by decide)) (Or.inr (by decide)) (Or.inr (by decide)) (Or.inr (by decide)) (Or.inr (by decide))).trans qz18631
          have qfaz18635 := (yz18680.1 _ 13 (Or.inr (by decide)) (Or.inr (by decide)) (Or.inr (by decide)) (Or.inr (by decide)) (Or.inr (by decide)) (Or.inr (by decide))).trans qfaz18635
          have hv18663 := (yz18680.1 _ 30 (Or.inr (by decide)) (Or.inr (by decide)) (Or.inr (by decide)) (Or.inr (by decide)) (Or.inr (by decide)) (Or.inr (by decide))).trans hv18663
          have vz18666 := (yz18680.2 _ _ ).trans vz18666
          have hfr : (∀ b j : Nat, (tag b ≠ 46 ∨ j ≠ 8) → (tag b ≠ 46 ∨ j ≠ 9) → (tag b ≠ 46 ∨ j ≠ 10) → (tag b ≠ 46 ∨ j ≠ 11) → (tag b ≠ 46 ∨ j ≠ 12) → (tag b ≠ 46 ∨ j ≠ 13) → (tag b ≠ 46 ∨ j ≠ 14) → (tag b ≠ 46 ∨ j ≠ 15) → fld F b j = fld Fo b j) ∧ (∀ b j : Nat, tag b ≠ 37 → elm F b j = elm Fo b j) := ⟨fun b j n46_8 n46_9 n46_10 n46_11 n46_12 n46_13 n46_14 n46_15 => (yz18680.1 b j n46_8 n46_9 n46_10 n46_11 n46_12 n46_15).trans (hfr.1 b j n46_8 n46_9 n46_10 n46_11 n46_12 n46_13 n46_14 n46_15), fun b j a37 => (yz18680.2 b j ).trans (hfr.2 b j a37)⟩
          have hrel := msr_of (fun j => yz18680.2 _ j ) (fun j => yz18680.2 _ j ) hrel
          have hstk := STK.tr hstk stz18680
          have hspt := SPT.tr hspt ptz18680
          refine lv_aload_n hx hb dX13_readSkin_77 rfl (lv_at hl 1 rfl) ?_
          refine lv_iconst (v := 0) hx hb dX13_readSkin_78 (by decide) ?_
          refine t_cVi (n := 1) (C := RX13) (T := TX13) (N := 37) (As := [.int 0]) (rest := []) X hT (km36_X13_readKnown l G tag L F hT.2.2.2 p0 0 x0 x1 x2 soz18680 spz18680 faz18680 m0 g0 (by decide) mx0 gx0 pf0 mx1 gx1 pf1 mx2 gx2 pf2 (by omega) qsoz18680 (by omega) qspz18680 (by omega) qfaz18680 hrel hkf) m0 g0 rfl rfl qw_632 qw_633 qw_634 qw_5 qw_635 ⟨rfl, by decide +kernel, by decide +kernel, by decide +kernel⟩ ⟨Nat.le_of_ble_eq_true rfl, Nat.le_of_ble_eq_true rfl⟩ hl rfl rfl (Nat.le_of_ble_eq_true rfl) dX13_readSkin_79 ⟨Nat.le_of_ble_eq_true rfl, Nat.le_of_ble_eq_true rfl⟩ (fun z18681 F H locs hT hz18681 => ?_)
          obtain ⟨hz18681, yz18681, hrel, ⟨soz18681, spz18681, faz18681, qsoz18681, qspz18681, qfaz18681, rsoz18681, rspz18681, rfaz18681, stz18681, ptz18681, hkf⟩⟩ := hz18681
          have pf0 := (yz18681.1 _ 4 (Or.inr (by decide)) (Or.inr (by decide)) (Or.inr (by decide)) (Or.inr (by decide)) (Or.inr (by decide)) (Or.inr (by decide)) (Or.inr (by decide)) (Or.inr (by decide))).trans pf0
          have pf1 := (yz18681.1 _ 28 (Or.inr (by decide)) (Or.inr (by decide)) (Or.inr (by decide)) (Or.inr (by decide)) (Or.inr (by decide)) (Or.inr (by decide)) (Or.inr (by decide)) (Or.inr (by decide))).trans pf1
          have pf2 := (yz18681.1 _ 29 (Or.inr (by decide)) (Or.inr (by decide)) (Or.inr (by decide)) (Or.inr (by decide)) (Or.inr (by decide)) (Or.inr (by decide)) (Or.inr (by decide)) (Or.inr (by decide))).trans pf2
          have qz18631 := (yz18681.1 _ 0 (Or.inr (by decide)) (Or.inr (by decide)) (Or.inr (by decide)) (Or.inr (by decide)) (Or.inr (by decide)) (Or.inr (by decide)) (Or.inr (by decide)) (Or.inr (by decide))).trans qz18631
          have hv18663 := (yz18681.1 _ 30 (Or.inr (by decide)) (Or.inr (by decide)) (Or.inr (by decide)) (Or.inr (by decide)) (Or.inr (by decide)) (Or.inr (by decide)) (Or.inr (by decide)) (Or.inr (by decide))).trans hv18663
          have vz18666 := (yz18681.2 _ _ ).trans vz18666
          have hfr : (∀ b j : Nat, (tag b ≠ 46 ∨ j ≠ 8) → (tag b ≠ 46 ∨ j ≠ 9) → (tag b ≠ 46 ∨ j ≠ 10) → (tag b ≠ 46 ∨ j ≠ 11) → (tag b ≠ 46 ∨ j ≠ 12) → (tag b ≠ 46 ∨ j ≠ 13) → (tag b ≠ 46 ∨ j ≠ 14) → (tag b ≠ 46 ∨ j ≠ 15) → fld F b j = fld Fo b j) ∧ (∀ b j : Nat, tag b ≠ 37 → elm F b j = elm Fo b j) := ⟨fun b j n46_8 n46_9 n46_10 n46_11 n46_12 n46_13 n46_14 n46_15 => (yz18681.1 b j n46_8 n46_9 n46_10 n46_11 n46_12 n46_13 n46_14 n46_15).trans (hfr.1 b j n46_8 n46_9 n46_10 n46_11 n46_12 n46_13 n46_14 n46_15), fun b j a37 => (yz18681.2 b j ).trans (hfr.2 b j a37)⟩
          have hstk := STK.tr hstk stz18681
          have hspt := SPT.tr hspt ptz18681
          refine lv_istore_n (lv' := [(2, .int z18681), (1, .int z18635), (0, .ref p0)]) hx hb dX13_readSkin_82 rfl hl (by decide) rfl (fun ls hl => ?_)
          refine lv_aload_n hx hb dX13_readSkin_83 rfl (lv_at hl 2 rfl) ?_
          refine t_cVi (n := 0) (C := RX13) (T := TX13) (N := 37) (As := []) (rest := []) X hT (km37_X13_readSide l G tag L F hT.2.2.2 p0 x0 x1 x2 soz18681 spz18681 faz18681 m0 g0 mx0 gx0 pf0 mx1 gx1 pf1 mx2 gx2 pf2 (by omega) qsoz18681 (by omega) qspz18681 (by omega) qfaz18681 hkf) m0 g0 rfl rfl qw_654 qw_655 qw_656 qw_5 qw_657 ⟨rfl, by decide +kernel, by decide +kernel, by decide +kernel⟩ ⟨Nat.le_of_ble_eq_true rfl, Nat.le_of_ble_eq_true rfl⟩ hl rfl rfl (Nat.le_of_ble_eq_true rfl) dX13_readSkin_84 ⟨Nat.le_of_ble_eq_true rfl, Nat.le_of_ble_eq_true rfl⟩ (fun z18682 F H locs hT hz18682 => ?_)
          obtain ⟨hz18682, yz18682, ⟨soz18682, spz18682, faz18682, qsoz18682, qspz18682, qfaz18682, rsoz18682, rspz18682, rfaz18682, stz18682, ptz18682, hkf⟩⟩ := hz18682
          have pf0 := (yz18682.1 _ 4 (Or.inr (by decide)) (Or.inr (by decide)) (Or.inr (by decide)) (Or.inr (by decide)) (Or.inr (by decide)) (Or.inr (by decide)) (Or.inr (by decide)) (Or.inr (by decide))).trans pf0
          have pf1 := (yz18682.1 _ 28 (Or.inr (by decide)) (Or.inr (by decide)) (Or.inr (by decide)) (Or.inr (by decide)) (Or.inr (by decide)) (Or.inr (by decide)) (Or.inr (by decide)) (Or.inr (by decide))).trans pf1
          have pf2 := (yz18682.1 _ 29 (Or.inr (by decide)) (Or.inr (by decide)) (Or.inr (by decide)) (Or.inr (by decide)) (Or.inr (by decide)) (Or.inr (by decide)) (Or.inr (by decide)) (Or.inr (by decide))).trans pf2
          have qz18631 := (yz18682.1 _ 0 (Or.inr (by decide)) (Or.inr (by decide)) (Or.inr (by decide)) (Or.inr (by decide)) (Or.inr (by decide)) (Or.inr (by decide)) (Or.inr (by decide)) (Or.inr (by decide))).trans qz18631
          have hv18663 := (yz18682.1 _ 30 (Or.inr (by decide)) (Or.inr (by decide)) (Or.inr (by decide)) (Or.inr (by decide)) (Or.inr (by decide)) (Or.inr (by decide)) (Or.inr (by decide)) (Or.inr (by decide))).trans hv18663
          have vz18666 := (yz18682.2 _ _ ).trans vz18666
          have hfr : (∀ b j : Nat, (tag b ≠ 46 ∨ j ≠ 8) → (tag b ≠ 46 ∨ j ≠ 9) → (tag b ≠ 46 ∨ j ≠ 10) → (tag b ≠ 46 ∨ j ≠ 11) → (tag b ≠ 46 ∨ j ≠ 12) → (tag b ≠ 46 ∨ j ≠ 13) → (tag b ≠ 46 ∨ j ≠ 14) → (tag b ≠ 46 ∨ j ≠ 15) → fld F b j = fld Fo b j) ∧ (∀ b j : Nat, tag b ≠ 37 → elm F b j = elm Fo b j) := ⟨fun b j n46_8 n46_9 n46_10 n46_11 n46_12 n46_13 n46_14 n46_15 => (yz18682.1 b j n46_8 n46_9 n46_10 n46_11 n46_12 n46_13 n46_14 n46_15).trans (hfr.1 b j n46_8 n46_9 n46_10 n46_11 n46_12 n46_13 n46_14 n46_15), fun b j a37 => (yz18682.2 b j ).trans (hfr.2 b j a37)⟩
          have hrel := msr_of (fun j => yz18682.2 _ j ) (fun j => yz18682.2 _ j ) hrel
          have hstk := STK.tr hstk stz18682
          have hspt := SPT.tr hspt ptz18682
          refine lv_istore_n (lv' := [(3, .int z18682), (2, .int z18681), (1, .int z18635), (0, .ref p0)]) hx hb dX13_readSkin_87 rfl hl (by decide) rfl (fun ls hl => ?_)
          refine lv_aload_n hx hb dX13_readSkin_88 rfl (lv_at hl 3 rfl) ?_
          refine lv_iconst (v := 0) hx hb dX13_readSkin_89 (by decide) ?_
          refine lv_iconst (v := 2) hx hb dX13_readSkin_90 (by decide) ?_
          refine lv_aload_n hx hb dX13_readSkin_91 rfl (lv_at hl 3 rfl) ?_
          refine t_get (C := RX13) (T := TX13) (N := 37) X hT m0 g0 rfl rfl 4 (by decide) qw_477 inlX13 rfl dX13_readSkin_92 (fun v18683 hv18683 ov18683 => ?_)
          obtain rfl : v18683 = .ref x0 := hv18683.symm.trans pf0
          refine t_getN (C := RX12) (T := TX12) (N := 31) X hT mx0 gx0 rfl rfl 30 (by decide) (List.mem_of_getElem? (i := 34) rfl) inlX12 rfl dX13_readSkin_95 (fun v18684 hv18684 ov18684 => ?_)
          obtain rfl : v18684 = .ref b18664 := hv18684.symm.trans hv18663
          refine lv_iconst (v := 0) hx hb dX13_readSkin_98 (by decide) ?_
          refine lv_iload_n hx hb dX13_readSkin_99 rfl (lv_at hl 2 rfl) ?_
          refine lv_iadd hx hb dX13_readSkin_100 ?_
          refine lv_topi (fun z18685 ez18685 => ?_)
          obtain rfl : z18635 = z18685 := (ar_zadd ez18685).symm
          refine t_ild X hT mb18664 gb18664 rfl (by omega) dX13_readSkin_101 (fun z18686 vz18686 rz18686 => ?_)
          obtain rfl : z18666 = z18686 := vz18666.symm.trans vz18686
          refine lv_iconst (v := 1) hx hb dX13_readSkin_102 (by decide) ?_
          refine lv_iadd hx hb dX13_readSkin_103 ?_
          refine lv_topi (fun z18687 ez18687 => ?_)
          have hz18687 : z18687.toInt = z18666.toInt + 1 := ar_add ez18687 (rfl : z18666.toInt = z18666.toInt) (by decide : (1 : Int32).toInt = 1) (by omega) (by omega)
          have rz18687 : 1 ≤ z18687.toInt ∧ z18687.toInt ≤ 6 := by omega
          refine lv_imul hx hb dX13_readSkin_104 ?_
          refine lv_topi (fun z18688 ez18688 => ?_)
          have hz18688 : z18688.toInt = 2 * z18687.toInt := ar_mul ez18688 (by decide : (2 : Int32).toInt = 2) (rfl : z18687.toInt = z18687.toInt) (by omega) (by omega)
          have rz18688 : 2 ≤ z18688.toInt ∧ z18688.toInt ≤ 12 := by omega
          refine lv_iconst (v := 2) hx hb dX13_readSkin_105 (by decide) ?_
          refine lv_isub hx hb dX13_readSkin_106 ?_
          refine lv_topi (fun z18689 ez18689 => ?_)
          have hz18689 : z18689.toInt = z18688.toInt - 2 := ar_sub ez18689 (rfl : z18688.toInt = z18688.toInt) (by decide : (2 : Int32).toInt = 2) (by omega) (by omega)
          have rz18689 : 0 ≤ z18689.toInt ∧ z18689.toInt ≤ 10 := by omega
          refine t_cVi (n := 2) (C := RX13) (T := TX13) (N := 37) (As := [.int 0, .int z18689]) (rest := []) X hT (km39_X13_readWhole l G tag L F hT.2.2.2 p0 0 z18689 x0 x1 x2 soz18682 spz18682 faz18682 m0 g0 (by decide) (by omega) mx0 gx0 pf0 mx1 gx1 pf1 mx2 gx2 pf2 (by omega) qsoz18682 (by omega) qspz18682 (by omega) qfaz18682 hkf) m0 g0 rfl rfl qw_560 qw_561 qw_562 qw_5 qw_563 ⟨rfl, by decide +kernel, by decide +kernel, by decide +kernel⟩ ⟨Nat.le_of_ble_eq_true rfl, Nat.le_of_ble_eq_true rfl⟩ hl rfl rfl (Nat.le_of_ble_eq_true rfl) dX13_readSkin_107 ⟨Nat.le_of_ble_eq_true rfl, Nat.le_of_ble_eq_true rfl⟩ (fun z18690 F H locs hT hz18690 => ?_)
          obtain ⟨hz18690, yz18690, ⟨soz18690, spz18690, faz18690, qsoz18690, qspz18690, qfaz18690, rsoz18690, rspz18690, rfaz18690, stz18690, ptz18690, hkf⟩⟩ := hz18690
          have pf0 := (yz18690.1 _ 4 (Or.inr (by decide)) (Or.inr (by decide)) (Or.inr (by decide)) (Or.inr (by decide)) (Or.inr (by decide)) (Or.inr (by decide)) (Or.inr (by decide)) (Or.inr (by decide))).trans pf0
          have pf1 := (yz18690.1 _ 28 (Or.inr (by decide)) (Or.inr (by decide)) (Or.inr (by decide)) (Or.inr (by decide)) (Or.inr (by decide)) (Or.inr (by decide)) (Or.inr (by decide)) (Or.inr (by decide))).trans pf1
          have pf2 := (yz18690.1 _ 29 (Or.inr (by decide)) (Or.inr (by decide)) (Or.inr (by decide)) (Or.inr (by decide)) (Or.inr (by decide)) (Or.inr (by decide)) (Or.inr (by decide)) (Or.inr (by decide))).trans pf2
          have qz18631 := (yz18690.1 _ 0 (Or.inr (by decide)) (Or.inr (by decide)) (Or.inr (by decide)) (Or.inr (by decide)) (Or.inr (by decide)) (Or.inr (by decide)) (Or.inr (by decide)) (Or.inr (by decide))).trans qz18631
          have hv18663 := (yz18690.1 _ 30 (Or.inr (by decide)) (Or.inr (by decide)) (Or.inr (by decide)) (Or.inr (by decide)) (Or.inr (by decide)) (Or.inr (by decide)) (Or.inr (by decide)) (Or.inr (by decide))).trans hv18663
          have vz18666 := (yz18690.2 _ _ ).trans vz18666
          have hfr : (∀ b j : Nat, (tag b ≠ 46 ∨ j ≠ 8) → (tag b ≠ 46 ∨ j ≠ 9) → (tag b ≠ 46 ∨ j ≠ 10) → (tag b ≠ 46 ∨ j ≠ 11) → (tag b ≠ 46 ∨ j ≠ 12) → (tag b ≠ 46 ∨ j ≠ 13) → (tag b ≠ 46 ∨ j ≠ 14) → (tag b ≠ 46 ∨ j ≠ 15) → fld F b j = fld Fo b j) ∧ (∀ b j : Nat, tag b ≠ 37 → elm F b j = elm Fo b j) := ⟨fun b j n46_8 n46_9 n46_10 n46_11 n46_12 n46_13 n46_14 n46_15 => (yz18690.1 b j n46_8 n46_9 n46_10 n46_11 n46_12 n46_13 n46_14 n46_15).trans (hfr.1 b j n46_8 n46_9 n46_10 n46_11 n46_12 n46_13 n46_14 n46_15), fun b j a37 => (yz18690.2 b j ).trans (hfr.2 b j a37)⟩
          have hrel := msr_of (fun j => yz18690.2 _ j ) (fun j => yz18690.2 _ j ) hrel
          have hstk := STK.tr hstk stz18690
          have hspt := SPT.tr hspt ptz18690
          refine lv_istore (lv' := [(4, .int z18690), (3, .int z18682), (2, .int z18681), (1, .int z18635), (0, .ref p0)]) hx hb dX13_readSkin_110 hl (by decide) rfl (fun ls hl => ?_)
          refine lv_aload_n hx hb dX13_readSkin_112 rfl (lv_at hl 4 rfl) ?_
          refine m_ldcKw X 76 rfl dX13_readSkin_113 ?_
          refine lv_iconst (v := 0) hx hb dX13_readSkin_116 (by decide) ?_
          refine lv_bipush (v := 99) hx hb dX13_readSkin_117 (by decide) ?_
          refine t_cVi (n := 3) (C := RX13) (T := TX13) (N := 37) (As := [.ref (G.2 (100 + 76)), .int 0, .int 99]) (rest := []) X hT (km43_X13_readPart l G tag L F hT.2.2.2 p0 76 0 99 x0 x1 x2 soz18690 spz18690 faz18690 m0 g0 (by decide) (by decide) (by decide) mx0 gx0 pf0 mx1 gx1 pf1 mx2 gx2 pf2 (by omega) qsoz18690 (by omega) qspz18690 (by omega) qfaz18690 hkf) m0 g0 rfl rfl qw_552 qw_553 qw_554 qw_5 qw_555 ⟨rfl, by decide +kernel, by decide +kernel, by decide +kernel⟩ ⟨Nat.le_of_ble_eq_true rfl, Nat.le_of_ble_eq_true rfl⟩ hl rfl rfl (Nat.le_of_ble_eq_true rfl) dX13_readSkin_119 ⟨Nat.le_of_ble_eq_true rfl, Nat.le_of_ble_eq_true rfl⟩ (fun z18691 F H locs hT hz18691 => ?_)
          obtain ⟨hz18691, yz18691, ⟨soz18691, spz18691, faz18691, qsoz18691, qspz18691, qfaz18691, rsoz18691, rspz18691, rfaz18691, stz18691, ptz18691, hkf⟩⟩ := hz18691
          have pf0 := (yz18691.1 _ 4 (Or.inr (by decide)) (Or.inr (by decide)) (Or.inr (by decide)) (Or.inr (by decide)) (Or.inr (by decide)) (Or.inr (by decide)) (Or.inr (by decide)) (Or.inr (by decide))).trans pf0
          have pf1 := (yz18691.1 _ 28 (Or.inr (by decide)) (Or.inr (by decide)) (Or.inr (by decide)) (Or.inr (by decide)) (Or.inr (by decide)) (Or.inr (by decide)) (Or.inr (by decide)) (Or.inr (by decide))).trans pf1
          have pf2 := (yz18691.1 _ 29 (Or.inr (by decide)) (Or.inr (by decide)) (Or.inr (by decide)) (Or.inr (by decide)) (Or.inr (by decide)) (Or.inr (by decide)) (Or.inr (by decide)) (Or.inr (by decide))).trans pf2
          have qz18631 := (yz18691.1 _ 0 (Or.inr (by decide)) (Or.inr (by decide)) (Or.inr (by decide)) (Or.inr (by decide)) (Or.inr (by decide)) (Or.inr (by decide)) (Or.inr (by decide)) (Or.inr (by decide))).trans qz18631
          have hv18663 := (yz18691.1 _ 30 (Or.inr (by decide)) (Or.inr (by decide)) (Or.inr (by decide)) (Or.inr (by decide)) (Or.inr (by decide)) (Or.inr (by decide)) (Or.inr (by decide)) (Or.inr (by decide))).trans hv18663
          have vz18666 := (yz18691.2 _ _ ).trans vz18666
          have hfr : (∀ b j : Nat, (tag b ≠ 46 ∨ j ≠ 8) → (tag b ≠ 46 ∨ j ≠ 9) → (tag b ≠ 46 ∨ j ≠ 10) → (tag b ≠ 46 ∨ j ≠ 11) → (tag b ≠ 46 ∨ j ≠ 12) → (tag b ≠ 46 ∨ j ≠ 13) → (tag b ≠ 46 ∨ j ≠ 14) → (tag b ≠ 46 ∨ j ≠ 15) → fld F b j = fld Fo b j) ∧ (∀ b j : Nat, tag b ≠ 37 → elm F b j = elm Fo b j) := ⟨fun b j n46_8 n46_9 n46_10 n46_11 n46_12 n46_13 n46_14 n46_15 => (yz18691.1 b j n46_8 n46_9 n46_10 n46_11 n46_12 n46_13 n46_14 n46_15).trans (hfr.1 b j n46_8 n46_9 n46_10 n46_11 n46_12 n46_13 n46_14 n46_15), fun b j a37 => (yz18691.2 b j ).trans (hfr.2 b j a37)⟩
          have hrel := msr_of (fun j => yz18691.2 _ j ) (fun j => yz18691.2 _ j ) hrel
          have hstk := STK.tr hstk stz18691
          have hspt := SPT.tr hspt ptz18691
          refine lv_istore (lv' := [(5, .int z18691), (4, .int z18690), (3, .int z18682), (2, .int z18681), (1, .int z18635), (0, .ref p0)]) hx hb dX13_readSkin_122 hl (by decide) rfl (fun ls hl => ?_)
          refine lv_aload_n hx hb dX13_readSkin_124 rfl (lv_at hl 5 rfl) ?_
          refine t_get (C := RX13) (T := TX13) (N := 37) X hT m0 g0 rfl rfl 9 (by decide) qw_478 inlX13 rfl dX13_readSkin_125 (fun v18692 hv18692 ov18692 => ?_)
          obtain rfl : v18692 = .int soz18691 := hv18692.symm.trans qsoz18691
          refine lv_iconst (v := 5) hx hb dX13_readSkin_128 (by decide) ?_
          refine lv_icmp_ne (tgt := 133) hx hb dX13_readSkin_129 (by decide) (fun c18693 => ?_) (fun c18693 => ?_)
          · have w18694 := cv_ne (rfl : soz18691.toInt = soz18691.toInt) (by decide : (5 : Int32).toInt = 5) c18693
            have w18695 := (fun h9 => (fun h9 => (fun h9 => (fun h9 => (fun h9 => (fun h9 => pxz18632_0 (fun e9 => h9 (stz18635 e9))) (fun e9 => h9 (stz18680 e9))) (fun e9 => h9 (stz18681 e9))) (fun e9 => h9 (stz18682 e9))) (fun e9 => h9 (stz18690 e9))) (fun e9 => h9 (stz18691 e9))) (by omega)
            refine lv_aload_n hx hb dX13_readSkin_133 rfl (lv_at hl 5 rfl) ?_
            refine t_get (C := RX13) (T := TX13) (N := 37) X hT m0 g0 rfl rfl 4 (by decide) qw_477 inlX13 rfl dX13_readSkin_134 (fun v18696 hv18696 ov18696 => ?_)
            obtain rfl : v18696 = .ref x0 := hv18696.symm.trans pf0
            refine t_getN (C := RX12) (T := TX12) (N := 31) X hT mx0 gx0 rfl rfl 30 (by decide) (List.mem_of_getElem? (i := 34) rfl) inlX12 rfl dX13_readSkin_137 (fun v18697 hv18697 ov18697 => ?_)
            obtain rfl : v18697 = .ref b18664 := hv18697.symm.trans hv18663
            refine lv_iload_n hx hb dX13_readSkin_140 rfl (lv_at hl 4 rfl) ?_
            refine lv_iload_n hx hb dX13_readSkin_141 rfl (lv_at hl 3 rfl) ?_
            refine lv_iload_n hx hb dX13_readSkin_142 rfl (lv_at hl 2 rfl) ?_
            refine lv_iload hx hb dX13_readSkin_143 (lv_at hl 1 rfl) ?_
            refine lv_iload hx hb dX13_readSkin_145 (lv_at hl 0 rfl) ?_
            refine lv_bipush (v := (-2)) hx hb dX13_readSkin_147 (by decide) ?_
            refine t_cSv (n := 7) (As := [.ref b18664, .int z18635, .int z18681, .int z18682, .int z18690, .int z18691, .int (-2)]) (rest := []) X hT (km50_X13_adds l G tag L F hT.2.2.2 b18664 z18635 z18681 z18682 z18690 z18691 (-2) z18666 mb18664 gb18664 (by omega) (by omega) (by omega) vz18666) qw_658 qw_659 qw_5 qw_660 ⟨by decide +kernel, by decide +kernel, by decide +kernel⟩ ⟨Nat.le_of_ble_eq_true rfl, Nat.le_of_ble_eq_true rfl⟩ hl rfl rfl (Nat.le_of_ble_eq_true rfl) dX13_readSkin_149 ⟨Nat.le_of_ble_eq_true rfl, Nat.le_of_ble_eq_true rfl⟩ (fun F H locs hT hz18698 => ?_)
            obtain ⟨yz18698, xz18698_0⟩ := hz18698
            have pf0 := (yz18698.1 _ 4 ).trans pf0
            have pf1 := (yz18698.1 _ 28 ).trans pf1
            have pf2 := (yz18698.1 _ 29 ).trans pf2
            have qz18631 := (yz18698.1 _ 0 ).trans qz18631
            have hv18663 := (yz18698.1 _ 30 ).trans hv18663
            have qsoz18691 := (yz18698.1 _ 9 ).trans qsoz18691
            have qspz18691 := (yz18698.1 _ 8 ).trans qspz18691
            have qfaz18691 := (yz18698.1 _ 13 ).trans qfaz18691
            have hfr : (∀ b j : Nat, (tag b ≠ 46 ∨ j ≠ 8) → (tag b ≠ 46 ∨ j ≠ 9) → (tag b ≠ 46 ∨ j ≠ 10) → (tag b ≠ 46 ∨ j ≠ 11) → (tag b ≠ 46 ∨ j ≠ 12) → (tag b ≠ 46 ∨ j ≠ 13) → (tag b ≠ 46 ∨ j ≠ 14) → (tag b ≠ 46 ∨ j ≠ 15) → fld F b j = fld Fo b j) ∧ (∀ b j : Nat, tag b ≠ 37 → elm F b j = elm Fo b j) := ⟨fun b j n46_8 n46_9 n46_10 n46_11 n46_12 n46_13 n46_14 n46_15 => (yz18698.1 b j ).trans (hfr.1 b j n46_8 n46_9 n46_10 n46_11 n46_12 n46_13 n46_14 n46_15), fun b j a37 => (yz18698.2 b j a37).trans (hfr.2 b j a37)⟩
            have hrel := msr_of (fun j => yz18698.2 _ j (by rw [gx1]; decide)) (fun j => yz18698.2 _ j (by rw [gx2]; decide)) hrel
            obtain ⟨z18699, qz18699, hz18699⟩ := xz18698_0
            have rz18699 : 1 ≤ z18699.toInt ∧ z18699.toInt ≤ 6 := by omega
            exact t_vret hQ X hT ⟨hfr, hrel, ⟨soz18691, spz18691, faz18691, qsoz18691, qspz18691, qfaz18691, (by omega), (by omega), (by omega), hstk, hspt, hkf⟩⟩ (Nat.le_of_ble_eq_true rfl) (Nat.le_of_ble_eq_true rfl) dX13_readSkin_152
          · have w18700 := cv_eq (rfl : soz18691.toInt = soz18691.toInt) (by decide : (5 : Int32).toInt = 5) c18693
            exact t_vret hQ X hT ⟨hfr, hrel, ⟨soz18691, spz18691, faz18691, qsoz18691, qspz18691, qfaz18691, (by omega), (by omega), (by omega), hstk, hspt, hkf⟩⟩ (Nat.le_of_ble_eq_true rfl) (Nat.le_of_ble_eq_true rfl) dX13_readSkin_132
        · have w18701 := cv_eq (rfl : z18677.toInt = z18677.toInt) (by decide : (0 : Int32).toInt = 0) c18678
          refine lv_aload_n hx hb dX13_readSkin_67 rfl (lv_at hl 1 rfl) ?_
          refine lv_bipush (v := 7) hx hb dX13_readSkin_68 (by decide) ?_
          refine t_cVv (n := 1) (C := RX13) (T := TX13) (N := 37) (As := [.int 7]) (rest := []) X hT (km10_X13_flaw l G tag L F hT.2.2.2 p0 7 x0 x1 x2 soz18635 spz18635 faz18635 m0 g0 (by decide) mx0 gx0 pf0 mx1 gx1 pf1 mx2 gx2 pf2 (by omega) qsoz18635 (by omega) qspz18635 (by omega) qfaz18635 hkf) m0 g0 rfl rfl qw_548 qw_549 qw_550 qw_5 qw_551 ⟨rfl, by decide +kernel, by decide +kernel, by decide +kernel⟩ ⟨Nat.le_of_ble_eq_true rfl, Nat.le_of_ble_eq_true rfl⟩ hl rfl rfl (Nat.le_of_ble_eq_true rfl) dX13_readSkin_70 ⟨Nat.le_of_ble_eq_true rfl, Nat.le_of_ble_eq_true rfl⟩ (fun F H locs hT hz18702 => ?_)
          obtain ⟨yz18702, ⟨soz18702, spz18702, faz18702, qsoz18702, qspz18702, qfaz18702, rsoz18702, rspz18702, rfaz18702, stz18702, ptz18702, hkf, pxz18702_0⟩⟩ := hz18702
          have pf0 := (yz18702.1 _ 4 (Or.inr (by decide)) (Or.inr (by decide)) (Or.inr (by decide))).trans pf0
          have pf1 := (yz18702.1 _ 28 (Or.inr (by decide)) (Or.inr (by decide)) (Or.inr (by decide))).trans pf1
          have pf2 := (yz18702.1 _ 29 (Or.inr (by decide)) (Or.inr (by decide)) (Or.inr (by decide))).trans pf2
          have qz18631 := (yz18702.1 _ 0 (Or.inr (by decide)) (Or.inr (by decide)) (Or.inr (by decide))).trans qz18631
          have qspz18635 := (yz18702.1 _ 8 (Or.inr (by decide)) (Or.inr (by decide)) (Or.inr (by decide))).trans qspz18635
          have hv18663 := (yz18702.1 _ 30 (Or.inr (by decide)) (Or.inr (by decide)) (Or.inr (by decide))).trans hv18663
          have vz18666 := (yz18702.2 _ _ ).trans vz18666
          have hfr : (∀ b j : Nat, (tag b ≠ 46 ∨ j ≠ 8) → (tag b ≠ 46 ∨ j ≠ 9) → (tag b ≠ 46 ∨ j ≠ 10) → (tag b ≠ 46 ∨ j ≠ 11) → (tag b ≠ 46 ∨ j ≠ 12) → (tag b ≠ 46 ∨ j ≠ 13) → (tag b ≠ 46 ∨ j ≠ 14) → (tag b ≠ 46 ∨ j ≠ 15) → fld F b j = fld Fo b j) ∧ (∀ b j : Nat, tag b ≠ 37 → elm F b j = elm Fo b j) := ⟨fun b j n46_8 n46_9 n46_10 n46_11 n46_12 n46_13 n46_14 n46_15 => (yz18702.1 b j n46_9 n46_13 n46_14).trans (hfr.1 b j n46_8 n46_9 n46_10 n46_11 n46_12 n46_13 n46_14 n46_15), fun b j a37 => (yz18702.2 b j ).trans (hfr.2 b j a37)⟩
          have hrel := msr_of (fun j => yz18702.2 _ j ) (fun j => yz18702.2 _ j ) hrel
          have hstk := STK.tr hstk stz18702
          have hspt := SPT.tr hspt ptz18702
          refine lv_aload_n hx hb dX13_readSkin_73 rfl (lv_at hl 1 rfl) ?_
          refine t_cVv (n := 0) (C := RX13) (T := TX13) (N := 37) (As := []) (rest := []) X hT (km14_X13_goesOn l G tag L F hT.2.2.2 p0 x0 x1 x2 soz18702 spz18702 faz18702 m0 g0 mx0 gx0 pf0 mx1 gx1 pf1 mx2 gx2 pf2 (by omega) qsoz18702 (by omega) qspz18702 (by omega) qfaz18702 hkf) m0 g0 rfl rfl qw_508 qw_509 qw_510 qw_5 qw_511 ⟨rfl, by decide +kernel, by decide +kernel, by decide +kernel⟩ ⟨Nat.le_of_ble_eq_true rfl, Nat.le_of_ble_eq_true rfl⟩ hl rfl rfl (Nat.le_of_ble_eq_true rfl) dX13_readSkin_74 ⟨Nat.le_of_ble_eq_true rfl, Nat.le_of_ble_eq_true rfl⟩ (fun F H locs hT hz18703 => ?_)
          obtain ⟨yz18703, ⟨soz18703, spz18703, faz18703, qsoz18703, qspz18703, qfaz18703, rsoz18703, rspz18703, rfaz18703, stz18703, ptz18703, hkf⟩⟩ := hz18703
          have pf0 := (yz18703.1 _ 4 (Or.inr (by decide)) (Or.inr (by decide)) (Or.inr (by decide)) (Or.inr (by decide)) (Or.inr (by decide)) (Or.inr (by decide))).trans pf0
          have pf1 := (yz18703.1 _ 28 (Or.inr (by decide)) (Or.inr (by decide)) (Or.inr (by decide)) (Or.inr (by decide)) (Or.inr (by decide)) (Or.inr (by decide))).trans pf1
          have pf2 := (yz18703.1 _ 29 (Or.inr (by decide)) (Or.inr (by decide)) (Or.inr (by decide)) (Or.inr (by decide)) (Or.inr (by decide)) (Or.inr (by decide))).trans pf2
          have qz18631 := (yz18703.1 _ 0 (Or.inr (by decide)) (Or.inr (by decide)) (Or.inr (by decide)) (Or.inr (by decide)) (Or.inr (by decide)) (Or.inr (by decide))).trans qz18631
          have hv18663 := (yz18703.1 _ 30 (Or.inr (by decide)) (Or.inr (by decide)) (Or.inr (by decide)) (Or.inr (by decide)) (Or.inr (by decide)) (Or.inr (by decide))).trans hv18663
          have vz18666 := (yz18703.2 _ _ ).trans vz18666
          have qfaz18702 := (yz18703.1 _ 13 (Or.inr (by decide)) (Or.inr (by decide)) (Or.inr (by decide)) (Or.inr (by decide)) (Or.inr (by decide)) (Or.inr (by decide))).trans qfaz18702
          have hfr : (∀ b j : Nat, (tag b ≠ 46 ∨ j ≠ 8) → (tag b ≠ 46 ∨ j ≠ 9) → (tag b ≠ 46 ∨ j ≠ 10) → (tag b ≠ 46 ∨ j ≠ 11) → (tag b ≠ 46 ∨ j ≠ 12) → (tag b ≠ 46 ∨ j ≠ 13) → (tag b ≠ 46 ∨ j ≠ 14) → (tag b ≠ 46 ∨ j ≠ 15) → fld F b j = fld Fo b j) ∧ (∀ b j : Nat, tag b ≠ 37 → elm F b j = elm Fo b j) := ⟨fun b j n46_8 n46_9 n46_10 n46_11 n46_12 n46_13 n46_14 n46_15 => (yz18703.1 b j n46_8 n46_9 n46_10 n46_11 n46_12 n46_15).trans (hfr.1 b j n46_8 n46_9 n46_10 n46_11 n46_12 n46_13 n46_14 n46_15), fun b j a37 => (yz18703.2 b j ).trans (hfr.2 b j a37)⟩
          have hrel := msr_of (fun j => yz18703.2 _ j ) (fun j => yz18703.2 _ j ) hrel
          have hstk := STK.tr hstk stz18703
          have hspt := SPT.tr hspt ptz18703
          have k5z18703 : soz18703.toInt = 5 := stz18703 (by omega)
          refine lv_aload_n hx hb dX13_readSkin_77 rfl (lv_at hl 1 rfl) ?_
          refine lv_iconst (v := 0) hx hb dX13_readSkin_78 (by decide) ?_
          refine t_cVi (n := 1) (C := RX13) (T := TX13) (N := 37) (As := [.int 0]) (rest := []) X hT (km36_X13_readKnown l G tag L F hT.2.2.2 p0 0 x0 x1 x2 soz18703 spz18703 faz18703 m0 g0 (by decide) mx0 gx0 pf0 mx1 gx1 pf1 mx2 gx2 pf2 (by omega) qsoz18703 (by omega) qspz18703 (by omega) qfaz18703 hrel hkf) m0 g0 rfl rfl qw_632 qw_633 qw_634 qw_5 qw_635 ⟨rfl, by decide +kernel, by decide +kernel, by decide +kernel⟩ ⟨Nat.le_of_ble_eq_true rfl, Nat.le_of_ble_eq_true rfl⟩ hl rfl rfl (Nat.le_of_ble_eq_true rfl) dX13_readSkin_79 ⟨Nat.le_of_ble_eq_true rfl, Nat.le_of_ble_eq_true rfl⟩ (fun z18704 F H locs hT hz18704 => ?_)
          obtain ⟨hz18704, yz18704, hrel, ⟨soz18704, spz18704, faz18704, qsoz18704, qspz18704, qfaz18704, rsoz18704, rspz18704, rfaz18704, stz18704, ptz18704, hkf⟩⟩ := hz18704
          have pf0 := (yz18704.1 _ 4 (Or.inr (by decide)) (Or.inr (by decide)) (Or.inr (by decide)) (Or.inr (by decide)) (Or.inr (by decide)) (Or.inr (by decide)) (Or.inr (by decide)) (Or.inr (by decide))).trans pf0
          have pf1 := (yz18704.1 _ 28 (Or.inr (by decide)) (Or.inr (by decide)) (Or.inr (by decide)) (Or.inr (by decide)) (Or.inr (by decide)) (Or.inr (by decide)) (Or.inr (by decide)) (Or.inr (by decide))).trans pf1
          have pf2 := (yz18704.1 _ 29 (Or.inr (by decide)) (Or.inr (by decide)) (Or.inr (by decide)) (Or.inr (by decide)) (Or.inr (by decide)) (Or.inr (by decide)) (Or.inr (by decide)) (Or.inr (by decide))).trans pf2
          have qz18631 := (yz18704.1 _ 0 (Or.inr (by decide)) (Or.inr (by decide)) (Or.inr (by decide)) (Or.inr (by decide)) (Or.inr (by decide)) (Or.inr (by decide)) (Or.inr (by decide)) (Or.inr (by decide))).trans qz18631
          have hv18663 := (yz18704.1 _ 30 (Or.inr (by decide)) (Or.inr (by decide)) (Or.inr (by decide)) (Or.inr (by decide)) (Or.inr (by decide)) (Or.inr (by decide)) (Or.inr (by decide)) (Or.inr (by decide))).trans hv18663
          have vz18666 := (yz18704.2 _ _ ).trans vz18666
          have hfr : (∀ b j : Nat, (tag b ≠ 46 ∨ j ≠ 8) → (tag b ≠ 46 ∨ j ≠ 9) → (tag b ≠ 46 ∨ j ≠ 10) → (tag b ≠ 46 ∨ j ≠ 11) → (tag b ≠ 46 ∨ j ≠ 12) → (tag b ≠ 46 ∨ j ≠ 13) → (tag b ≠ 46 ∨ j ≠ 14) → (tag b ≠ 46 ∨ j ≠ 15) → fld F b j = fld Fo b j) ∧ (∀ b j : Nat, tag b ≠ 37 → elm F b j = elm Fo b j) := ⟨fun b j n46_8 n46_9 n46_10 n46_11 n46_12 n46_13 n46_14 n46_15 => (yz18704.1 b j n46_8 n46_9 n46_10 n46_11 n46_12 n46_13 n46_14 n46_15).trans (hfr.1 b j n46_8 n46_9 n46_10 n46_11 n46_12 n46_13 n46_14 n46_15), fun b j a37 => (yz18704.2 b j ).trans (hfr.2 b j a37)⟩
          have hstk := STK.tr hstk stz18704
          have hspt := SPT.tr hspt ptz18704
          have k5z18704 : soz18704.toInt = 5 := stz18704 (by omega)
          refine lv_istore_n (lv' := [(2, .int z18704), (1, .int z18635), (0, .ref p0)]) hx hb dX13_readSkin_82 rfl hl (by decide) rfl (fun ls hl => ?_)
          refine lv_aload_n hx hb dX13_readSkin_83 rfl (lv_at hl 2 rfl) ?_
          refine t_cVi (n := 0) (C := RX13) (T := TX13) (N := 37) (As := []) (rest := []) X hT (km37_X13_readSide l G tag L F hT.2.2.2 p0 x0 x1 x2 soz18704 spz18704 faz18704 m0 g0 mx0 gx0 pf0 mx1 gx1 pf1 mx2 gx2 pf2 (by omega) qsoz18704 (by omega) qspz18704 (by omega) qfaz18704 hkf) m0 g0 rfl rfl qw_654 qw_655 qw_656 qw_5 qw_657 ⟨rfl, by decide +kernel, by decide +kernel, by decide +kernel⟩ ⟨Nat.le_of_ble_eq_true rfl, Nat.le_of_ble_eq_true rfl⟩ hl rfl rfl (Nat.le_of_ble_eq_true rfl) dX13_readSkin_84 ⟨Nat.le_of_ble_eq_true rfl, Nat.le_of_ble_eq_true rfl⟩ (fun z18705 F H locs hT hz18705 => ?_)
          obtain ⟨hz18705, yz18705, ⟨soz18705, spz18705, faz18705, qsoz18705, qspz18705, qfaz18705, rsoz18705, rspz18705, rfaz18705, stz18705, ptz18705, hkf⟩⟩ := hz18705
          have pf0 := (yz18705.1 _ 4 (Or.inr (by decide)) (Or.inr (by decide)) (Or.inr (by decide)) (Or.inr (by decide)) (Or.inr (by decide)) (Or.inr (by decide)) (Or.inr (by decide)) (Or.inr (by decide))).trans pf0
          have pf1 := (yz18705.1 _ 28 (Or.inr (by decide)) (Or.inr (by decide)) (Or.inr (by decide)) (Or.inr (by decide)) (Or.inr (by decide)) (Or.inr (by decide)) (Or.inr (by decide)) (Or.inr (by decide))).trans pf1
          have pf2 := (yz18705.1 _ 29 (Or.inr (by decide)) (Or.inr (by decide)) (Or.inr (by decide)) (Or.inr (by decide)) (Or.inr (by decide)) (Or.inr (by decide)) (Or.inr (by decide)) (Or.inr (by decide))).trans pf2
          have qz18631 := (yz18705.1 _ 0 (Or.inr (by decide)) (Or.inr (by decide)) (Or.inr (by decide)) (Or.inr (by decide)) (Or.inr (by decide)) (Or.inr (by decide)) (Or.inr (by decide)) (Or.inr (by decide))).trans qz18631
          have hv18663 := (yz18705.1 _ 30 (Or.inr (by decide)) (Or.inr (by decide)) (Or.inr (by decide)) (Or.inr (by decide)) (Or.inr (by decide)) (Or.inr (by decide)) (Or.inr (by decide)) (Or.inr (by decide))).trans hv18663
          have vz18666 := (yz18705.2 _ _ ).trans vz18666
          have hfr : (∀ b j : Nat, (tag b ≠ 46 ∨ j ≠ 8) → (tag b ≠ 46 ∨ j ≠ 9) → (tag b ≠ 46 ∨ j ≠ 10) → (tag b ≠ 46 ∨ j ≠ 11) → (tag b ≠ 46 ∨ j ≠ 12) → (tag b ≠ 46 ∨ j ≠ 13) → (tag b ≠ 46 ∨ j ≠ 14) → (tag b ≠ 46 ∨ j ≠ 15) → fld F b j = fld Fo b j) ∧ (∀ b j : Nat, tag b ≠ 37 → elm F b j = elm Fo b j) := ⟨fun b j n46_8 n46_9 n46_10 n46_11 n46_12 n46_13 n46_14 n46_15 => (yz18705.1 b j n46_8 n46_9 n46_10 n46_11 n46_12 n46_13 n46_14 n46_15).trans (hfr.1 b j n46_8 n46_9 n46_10 n46_11 n46_12 n46_13 n46_14 n46_15), fun b j a37 => (yz18705.2 b j ).trans (hfr.2 b j a37)⟩
          have hrel := msr_of (fun j => yz18705.2 _ j ) (fun j => yz18705.2 _ j ) hrel
          have hstk := STK.tr hstk stz18705
          have hspt := SPT.tr hspt ptz18705
          have k5z18705 : soz18705.toInt = 5 := stz18705 (by omega)
          refine lv_istore_n (lv' := [(3, .int z18705), (2, .int z18704), (1, .int z18635), (0, .ref p0)]) hx hb dX13_readSkin_87 rfl hl (by decide) rfl (fun ls hl => ?_)
          refine lv_aload_n hx hb dX13_readSkin_88 rfl (lv_at hl 3 rfl) ?_
          refine lv_iconst (v := 0) hx hb dX13_readSkin_89 (by decide) ?_
          refine lv_iconst (v := 2) hx hb dX13_readSkin_90 (by decide) ?_
          refine lv_aload_n hx hb dX13_readSkin_91 rfl (lv_at hl 3 rfl) ?_
          refine t_get (C := RX13) (T := TX13) (N := 37) X hT m0 g0 rfl rfl 4 (by decide) qw_477 inlX13 rfl dX13_readSkin_92 (fun v18706 hv18706 ov18706 => ?_)
          obtain rfl : v18706 = .ref x0 := hv18706.symm.trans pf0
          refine t_getN (C := RX12) (T := TX12) (N := 31) X hT mx0 gx0 rfl rfl 30 (by decide) (List.mem_of_getElem? (i := 34) rfl) inlX12 rfl dX13_readSkin_95 (fun v18707 hv18707 ov18707 => ?_)
          obtain rfl : v18707 = .ref b18664 := hv18707.symm.trans hv18663
          refine lv_iconst (v := 0) hx hb dX13_readSkin_98 (by decide) ?_
          refine lv_iload_n hx hb dX13_readSkin_99 rfl (lv_at hl 2 rfl) ?_
          refine lv_iadd hx hb dX13_readSkin_100 ?_
          refine lv_topi (fun z18708 ez18708 => ?_)
          obtain rfl : z18635 = z18708 := (ar_zadd ez18708).symm
          refine t_ild X hT mb18664 gb18664 rfl (by omega) dX13_readSkin_101 (fun z18709 vz18709 rz18709 => ?_)
          obtain rfl : z18666 = z18709 := vz18666.symm.trans vz18709
          refine lv_iconst (v := 1) hx hb dX13_readSkin_102 (by decide) ?_
          refine lv_iadd hx hb dX13_readSkin_103 ?_
          refine lv_topi (fun z18710 ez18710 => ?_)
          have hz18710 : z18710.toInt = z18666.toInt + 1 := ar_add ez18710 (rfl : z18666.toInt = z18666.toInt) (by decide : (1 : Int32).toInt = 1) (by omega) (by omega)
          have rz18710 : 1 ≤ z18710.toInt ∧ z18710.toInt ≤ 6 := by omega
          refine lv_imul hx hb dX13_readSkin_104 ?_
          refine lv_topi (fun z18711 ez18711 => ?_)
          have hz18711 : z18711.toInt = 2 * z18710.toInt := ar_mul ez18711 (by decide : (2 : Int32).toInt = 2) (rfl : z18710.toInt = z18710.toInt) (by omega) (by omega)
          have rz18711 : 2 ≤ z18711.toInt ∧ z18711.toInt ≤ 12 := by omega
          refine lv_iconst (v := 2) hx hb dX13_readSkin_105 (by decide) ?_
          refine lv_isub hx hb dX13_readSkin_106 ?_
          refine lv_topi (fun z18712 ez18712 => ?_)
          have hz18712 : z18712.toInt = z18711.toInt - 2 := ar_sub ez18712 (rfl : z18711.toInt = z18711.toInt) (by decide : (2 : Int32).toInt = 2) (by omega) (by omega)
          have rz18712 : 0 ≤ z18712.toInt ∧ z18712.toInt ≤ 10 := by omega
          refine t_cVi (n := 2) (C := RX13) (T := TX13) (N := 37) (As := [.int 0, .int z18712]) (rest := []) X hT (km39_X13_readWhole l G tag L F hT.2.2.2 p0 0 z18712 x0 x1 x2 soz18705 spz18705 faz18705 m0 g0 (by decide) (by omega) mx0 gx0 pf0 mx1 gx1 pf1 mx2 gx2 pf2 (by omega) qsoz18705 (by omega) qspz18705 (by omega) qfaz18705 hkf) m0 g0 rfl rfl qw_560 qw_561 qw_562 qw_5 qw_563 ⟨rfl, by decide +kernel, by decide +kernel, by decide +kernel⟩ ⟨Nat.le_of_ble_eq_true rfl, Nat.le_of_ble_eq_true rfl⟩ hl rfl rfl (Nat.le_of_ble_eq_true rfl) dX13_readSkin_107 ⟨Nat.le_of_ble_eq_true rfl, Nat.le_of_ble_eq_true rfl⟩ (fun z18713 F H locs hT hz18713 => ?_)
          obtain ⟨hz18713, yz18713, ⟨soz18713, spz18713, faz18713, qsoz18713, qspz18713, qfaz18713, rsoz18713, rspz18713, rfaz18713, stz18713, ptz18713, hkf⟩⟩ := hz18713
          have pf0 := (yz18713.1 _ 4 (Or.inr (by decide)) (Or.inr (by decide)) (Or.inr (by decide)) (Or.inr (by decide)) (Or.inr (by decide)) (Or.inr (by decide)) (Or.inr (by decide)) (Or.inr (by decide))).trans pf0
          have pf1 := (yz18713.1 _ 28 (Or.inr (by decide)) (Or.inr (by decide)) (Or.inr (by decide)) (Or.inr (by decide)) (Or.inr (by decide)) (Or.inr (by decide)) (Or.inr (by decide)) (Or.inr (by decide))).trans pf1
          have pf2 := (yz18713.1 _ 29 (Or.inr (by decide)) (Or.inr (by decide)) (Or.inr (by decide)) (Or.inr (by decide)) (Or.inr (by decide)) (Or.inr (by decide)) (Or.inr (by decide)) (Or.inr (by decide))).trans pf2
          have qz18631 := (yz18713.1 _ 0 (Or.inr (by decide)) (Or.inr (by decide)) (Or.inr (by decide)) (Or.inr (by decide)) (Or.inr (by decide)) (Or.inr (by decide)) (Or.inr (by decide)) (Or.inr (by decide))).trans qz18631
          have hv18663 := (yz18713.1 _ 30 (Or.inr (by decide)) (Or.inr (by decide)) (Or.inr (by decide)) (Or.inr (by decide)) (Or.inr (by decide)) (Or.inr (by decide)) (Or.inr (by decide)) (Or.inr (by decide))).trans hv18663
          have vz18666 := (yz18713.2 _ _ ).trans vz18666
          have hfr : (∀ b j : Nat, (tag b ≠ 46 ∨ j ≠ 8) → (tag b ≠ 46 ∨ j ≠ 9) → (tag b ≠ 46 ∨ j ≠ 10) → (tag b ≠ 46 ∨ j ≠ 11) → (tag b ≠ 46 ∨ j ≠ 12) → (tag b ≠ 46 ∨ j ≠ 13) → (tag b ≠ 46 ∨ j ≠ 14) → (tag b ≠ 46 ∨ j ≠ 15) → fld F b j = fld Fo b j) ∧ (∀ b j : Nat, tag b ≠ 37 → elm F b j = elm Fo b j) := ⟨fun b j n46_8 n46_9 n46_10 n46_11 n46_12 n46_13 n46_14 n46_15 => (yz18713.1 b j n46_8 n46_9 n46_10 n46_11 n46_12 n46_13 n46_14 n46_15).trans (hfr.1 b j n46_8 n46_9 n46_10 n46_11 n46_12 n46_13 n46_14 n46_15), fun b j a37 => (yz18713.2 b j ).trans (hfr.2 b j a37)⟩
          have hrel := msr_of (fun j => yz18713.2 _ j ) (fun j => yz18713.2 _ j ) hrel
          have hstk := STK.tr hstk stz18713
          have hspt := SPT.tr hspt ptz18713
          have k5z18713 : soz18713.toInt = 5 := stz18713 (by omega)
          refine lv_istore (lv' := [(4, .int z18713), (3, .int z18705), (2, .int z18704), (1, .int z18635), (0, .ref p0)]) hx hb dX13_readSkin_110 hl (by decide) rfl (fun ls hl => ?_)
          refine lv_aload_n hx hb dX13_readSkin_112 rfl (lv_at hl 4 rfl) ?_
          refine m_ldcKw X 76 rfl dX13_readSkin_113 ?_
          refine lv_iconst (v := 0) hx hb dX13_readSkin_116 (by decide) ?_
          refine lv_bipush (v := 99) hx hb dX13_readSkin_117 (by decide) ?_
          refine t_cVi (n := 3) (C := RX13) (T := TX13) (N := 37) (As := [.ref (G.2 (100 + 76)), .int 0, .int 99]) (rest := []) X hT (km43_X13_readPart l G tag L F hT.2.2.2 p0 76 0 99 x0 x1 x2 soz18713 spz18713 faz18713 m0 g0 (by decide) (by decide) (by decide) mx0 gx0 pf0 mx1 gx1 pf1 mx2 gx2 pf2 (by omega) qsoz18713 (by omega) qspz18713 (by omega) qfaz18713 hkf) m0 g0 rfl rfl qw_552 qw_553 qw_554 qw_5 qw_555 ⟨rfl, by decide +kernel, by decide +kernel, by decide +kernel⟩ ⟨Nat.le_of_ble_eq_true rfl, Nat.le_of_ble_eq_true rfl⟩ hl rfl rfl (Nat.le_of_ble_eq_true rfl) dX13_readSkin_119 ⟨Nat.le_of_ble_eq_true rfl, Nat.le_of_ble_eq_true rfl⟩ (fun z18714 F H locs hT hz18714 => ?_)
          obtain ⟨hz18714, yz18714, ⟨soz18714, spz18714, faz18714, qsoz18714, qspz18714, qfaz18714, rsoz18714, rspz18714, rfaz18714, stz18714, ptz18714, hkf⟩⟩ := hz18714
          have pf0 := (yz18714.1 _ 4 (Or.inr (by decide)) (Or.inr (by decide)) (Or.inr (by decide)) (Or.inr (by decide)) (Or.inr (by decide)) (Or.inr (by decide)) (Or.inr (by decide)) (Or.inr (by decide))).trans pf0
          have pf1 := (yz18714.1 _ 28 (Or.inr (by decide)) (Or.inr (by decide)) (Or.inr (by decide)) (Or.inr (by decide)) (Or.inr (by decide)) (Or.inr (by decide)) (Or.inr (by decide)) (Or.inr (by decide))).trans pf1
          have pf2 := (yz18714.1 _ 29 (Or.inr (by decide)) (Or.inr (by decide)) (Or.inr (by decide)) (Or.inr (by decide)) (Or.inr (by decide)) (Or.inr (by decide)) (Or.inr (by decide)) (Or.inr (by decide))).trans pf2
          have qz18631 := (yz18714.1 _ 0 (Or.inr (by decide)) (Or.inr (by decide)) (Or.inr (by decide)) (Or.inr (by decide)) (Or.inr (by decide)) (Or.inr (by decide)) (Or.inr (by decide)) (Or.inr (by decide))).trans qz18631
          have hv18663 := (yz18714.1 _ 30 (Or.inr (by decide)) (Or.inr (by decide)) (Or.inr (by decide)) (Or.inr (by decide)) (Or.inr (by decide)) (Or.inr (by decide)) (Or.inr (by decide)) (Or.inr (by decide))).trans hv18663
          have vz18666 := (yz18714.2 _ _ ).trans vz18666
          have hfr : (∀ b j : Nat, (tag b ≠ 46 ∨ j ≠ 8) → (tag b ≠ 46 ∨ j ≠ 9) → (tag b ≠ 46 ∨ j ≠ 10) → (tag b ≠ 46 ∨ j ≠ 11) → (tag b ≠ 46 ∨ j ≠ 12) → (tag b ≠ 46 ∨ j ≠ 13) → (tag b ≠ 46 ∨ j ≠ 14) → (tag b ≠ 46 ∨ j ≠ 15) → fld F b j = fld Fo b j) ∧ (∀ b j : Nat, tag b ≠ 37 → elm F b j = elm Fo b j) := ⟨fun b j n46_8 n46_9 n46_10 n46_11 n46_12 n46_13 n46_14 n46_15 => (yz18714.1 b j n46_8 n46_9 n46_10 n46_11 n46_12 n46_13 n46_14 n46_15).trans (hfr.1 b j n46_8 n46_9 n46_10 n46_11 n46_12 n46_13 n46_14 n46_15), fun b j a37 => (yz18714.2 b j ).trans (hfr.2 b j a37)⟩
          have hrel := msr_of (fun j => yz18714.2 _ j ) (fun j => yz18714.2 _ j ) hrel
          have hstk := STK.tr hstk stz18714
          have hspt := SPT.tr hspt ptz18714
          have k5z18714 : soz18714.toInt = 5 := stz18714 (by omega)
          refine lv_istore (lv' := [(5, .int z18714), (4, .int z18713), (3, .int z18705), (2, .int z18704), (1, .int z18635), (0, .ref p0)]) hx hb dX13_readSkin_122 hl (by decide) rfl (fun ls hl => ?_)
          refine lv_aload_n hx hb dX13_readSkin_124 rfl (lv_at hl 5 rfl) ?_
          refine t_get (C := RX13) (T := TX13) (N := 37) X hT m0 g0 rfl rfl 9 (by decide) qw_478 inlX13 rfl dX13_readSkin_125 (fun v18715 hv18715 ov18715 => ?_)
          obtain rfl : v18715 = .int soz18714 := hv18715.symm.trans qsoz18714
          refine lv_iconst (v := 5) hx hb dX13_readSkin_128 (by decide) ?_
          refine lv_icmp_ne (tgt := 133) hx hb dX13_readSkin_129 (by decide) (fun c18716 => ?_) (fun c18716 => ?_)
          · have w18717 := cv_ne (rfl : soz18714.toInt = soz18714.toInt) (by decide : (5 : Int32).toInt = 5) c18716
            exfalso
            omega
          · have w18718 := cv_eq (rfl : soz18714.toInt = soz18714.toInt) (by decide : (5 : Int32).toInt = 5) c18716
            exact t_vret hQ X hT ⟨hfr, hrel, ⟨soz18714, spz18714, faz18714, qsoz18714, qspz18714, qfaz18714, (by omega), (by omega), (by omega), hstk, hspt, hkf⟩⟩ (Nat.le_of_ble_eq_true rfl) (Nat.le_of_ble_eq_true rfl) dX13_readSkin_132
    · have w18719 := cv_eq (rfl : z18666.toInt = z18666.toInt) (by decide : (6 : Int32).toInt = 6) c18667
      refine lv_aload_n hx hb dX13_readSkin_36 rfl (lv_at hl 1 rfl) ?_
      refine lv_iconst (v := 5) hx hb dX13_readSkin_37 (by decide) ?_
      refine t_cVv (n := 1) (C := RX13) (T := TX13) (N := 37) (As := [.int 5]) (rest := []) X hT (km10_X13_flaw l G tag L F hT.2.2.2 p0 5 x0 x1 x2 soz18635 spz18635 faz18635 m0 g0 (by decide) mx0 gx0 pf0 mx1 gx1 pf1 mx2 gx2 pf2 (by omega) qsoz18635 (by omega) qspz18635 (by omega) qfaz18635 hkf) m0 g0 rfl rfl qw_548 qw_549 qw_550 qw_5 qw_551 ⟨rfl, by decide +kernel, by decide +kernel, by decide +kernel⟩ ⟨Nat.le_of_ble_eq_true rfl, Nat.le_of_ble_eq_true rfl⟩ hl rfl rfl (Nat.le_of_ble_eq_true rfl) dX13_readSkin_38 ⟨Nat.le_of_ble_eq_true rfl, Nat.le_of_ble_eq_true rfl⟩ (fun F H locs hT hz18720 => ?_)
      obtain ⟨yz18720, ⟨soz18720, spz18720, faz18720, qsoz18720, qspz18720, qfaz18720, rsoz18720, rspz18720, rfaz18720, stz18720, ptz18720, hkf, pxz18720_0⟩⟩ := hz18720
      have pf0 := (yz18720.1 _ 4 (Or.inr (by decide)) (Or.inr (by decide)) (Or.inr (by decide))).trans pf0
      have pf1 := (yz18720.1 _ 28 (Or.inr (by decide)) (Or.inr (by decide)) (Or.inr (by decide))).trans pf1
      have pf2 := (yz18720.1 _ 29 (Or.inr (by decide)) (Or.inr (by decide)) (Or.inr (by decide))).trans pf2
      have qz18631 := (yz18720.1 _ 0 (Or.inr (by decide)) (Or.inr (by decide)) (Or.inr (by decide))).trans qz18631
      have qspz18635 := (yz18720.1 _ 8 (Or.inr (by decide)) (Or.inr (by decide)) (Or.inr (by decide))).trans qspz18635
      have hv18663 := (yz18720.1 _ 30 (Or.inr (by decide)) (Or.inr (by decide)) (Or.inr (by decide))).trans hv18663
      have vz18666 := (yz18720.2 _ _ ).trans vz18666
      have hfr : (∀ b j : Nat, (tag b ≠ 46 ∨ j ≠ 8) → (tag b ≠ 46 ∨ j ≠ 9) → (tag b ≠ 46 ∨ j ≠ 10) → (tag b ≠ 46 ∨ j ≠ 11) → (tag b ≠ 46 ∨ j ≠ 12) → (tag b ≠ 46 ∨ j ≠ 13) → (tag b ≠ 46 ∨ j ≠ 14) → (tag b ≠ 46 ∨ j ≠ 15) → fld F b j = fld Fo b j) ∧ (∀ b j : Nat, tag b ≠ 37 → elm F b j = elm Fo b j) := ⟨fun b j n46_8 n46_9 n46_10 n46_11 n46_12 n46_13 n46_14 n46_15 => (yz18720.1 b j n46_9 n46_13 n46_14).trans (hfr.1 b j n46_8 n46_9 n46_10 n46_11 n46_12 n46_13 n46_14 n46_15), fun b j a37 => (yz18720.2 b j ).trans (hfr.2 b j a37)⟩
      have hrel := msr_of (fun j => yz18720.2 _ j ) (fun j => yz18720.2 _ j ) hrel
      have hstk := STK.tr hstk stz18720
      have hspt := SPT.tr hspt ptz18720
      refine lv_aload_n hx hb dX13_readSkin_41 rfl (lv_at hl 1 rfl) ?_
      refine t_get (C := RX13) (T := TX13) (N := 37) X hT m0 g0 rfl rfl 9 (by decide) qw_478 inlX13 rfl dX13_readSkin_42 (fun v18721 hv18721 ov18721 => ?_)
      obtain rfl : v18721 = .int soz18720 := hv18721.symm.trans qsoz18720
      refine lv_iconst (v := 5) hx hb dX13_readSkin_45 (by decide) ?_
      refine lv_icmp_eq (tgt := 73) hx hb dX13_readSkin_46 (by decide) (fun c18722 => ?_) (fun c18722 => ?_)
      · have w18723 := cv_eq (rfl : soz18720.toInt = soz18720.toInt) (by decide : (5 : Int32).toInt = 5) c18722
        refine lv_aload_n hx hb dX13_readSkin_73 rfl (lv_at hl 1 rfl) ?_
        refine t_cVv (n := 0) (C := RX13) (T := TX13) (N := 37) (As := []) (rest := []) X hT (km14_X13_goesOn l G tag L F hT.2.2.2 p0 x0 x1 x2 soz18720 spz18720 faz18720 m0 g0 mx0 gx0 pf0 mx1 gx1 pf1 mx2 gx2 pf2 (by omega) qsoz18720 (by omega) qspz18720 (by omega) qfaz18720 hkf) m0 g0 rfl rfl qw_508 qw_509 qw_510 qw_5 qw_511 ⟨rfl, by decide +kernel, by decide +kernel, by decide +kernel⟩ ⟨Nat.le_of_ble_eq_true rfl, Nat.le_of_ble_eq_true rfl⟩ hl rfl rfl (Nat.le_of_ble_eq_true rfl) dX13_readSkin_74 ⟨Nat.le_of_ble_eq_true rfl, Nat.le_of_ble_eq_true rfl⟩ (fun F H locs hT hz18724 => ?_)
        obtain ⟨yz18724, ⟨soz18724, spz18724, faz18724, qsoz18724, qspz18724, qfaz18724, rsoz18724, rspz18724, rfaz18724, stz18724, ptz18724, hkf⟩⟩ := hz18724
        have pf0 := (yz18724.1 _ 4 (Or.inr (by decide)) (Or.inr (by decide)) (Or.inr (by decide)) (Or.inr (by decide)) (Or.inr (by decide)) (Or.inr (by decide))).trans pf0
        have pf1 := (yz18724.1 _ 28 (Or.inr (by decide)) (Or.inr (by decide)) (Or.inr (by decide)) (Or.inr (by decide)) (Or.inr (by decide)) (Or.inr (by decide))).trans pf1
        have pf2 := (yz18724.1 _ 29 (Or.inr (by decide)) (Or.inr (by decide)) (Or.inr (by decide)) (Or.inr (by decide)) (Or.inr (by decide)) (Or.inr (by decide))).trans pf2
        have qz18631 := (yz18724.1 _ 0 (Or.inr (by decide)) (Or.inr (by decide)) (Or.inr (by decide)) (Or.inr (by decide)) (Or.inr (by decide)) (Or.inr (by decide))).trans qz18631
        have hv18663 := (yz18724.1 _ 30 (Or.inr (by decide)) (Or.inr (by decide)) (Or.inr (by decide)) (Or.inr (by decide)) (Or.inr (by decide)) (Or.inr (by decide))).trans hv18663
        have vz18666 := (yz18724.2 _ _ ).trans vz18666
        have qfaz18720 := (yz18724.1 _ 13 (Or.inr (by decide)) (Or.inr (by decide)) (Or.inr (by decide)) (Or.inr (by decide)) (Or.inr (by decide)) (Or.inr (by decide))).trans qfaz18720
        have hfr : (∀ b j : Nat, (tag b ≠ 46 ∨ j ≠ 8) → (tag b ≠ 46 ∨ j ≠ 9) → (tag b ≠ 46 ∨ j ≠ 10) → (tag b ≠ 46 ∨ j ≠ 11) → (tag b ≠ 46 ∨ j ≠ 12) → (tag b ≠ 46 ∨ j ≠ 13) → (tag b ≠ 46 ∨ j ≠ 14) → (tag b ≠ 46 ∨ j ≠ 15) → fld F b j = fld Fo b j) ∧ (∀ b j : Nat, tag b ≠ 37 → elm F b j = elm Fo b j) := ⟨fun b j n46_8 n46_9 n46_10 n46_11 n46_12 n46_13 n46_14 n46_15 => (yz18724.1 b j n46_8 n46_9 n46_10 n46_11 n46_12 n46_15).trans (hfr.1 b j n46_8 n46_9 n46_10 n46_11 n46_12 n46_13 n46_14 n46_15), fun b j a37 => (yz18724.2 b j ).trans (hfr.2 b j a37)⟩
        have hrel := msr_of (fun j => yz18724.2 _ j ) (fun j => yz18724.2 _ j ) hrel
        have hstk := STK.tr hstk stz18724
        have hspt := SPT.tr hspt ptz18724
        have k5z18724 : soz18724.toInt = 5 := stz18724 (by omega)
        refine lv_aload_n hx hb dX13_readSkin_77 rfl (lv_at hl 1 rfl) ?_
        refine lv_iconst (v := 0) hx hb dX13_readSkin_78 (by decide) ?_
        refine t_cVi (n := 1) (C := RX13) (T := TX13) (N := 37) (As := [.int 0]) (rest := []) X hT (km36_X13_readKnown l G tag L F hT.2.2.2 p0 0 x0 x1 x2 soz18724 spz18724 faz18724 m0 g0 (by decide) mx0 gx0 pf0 mx1 gx1 pf1 mx2 gx2 pf2 (by omega) qsoz18724 (by omega) qspz18724 (by omega) qfaz18724 hrel hkf) m0 g0 rfl rfl qw_632 qw_633 qw_634 qw_5 qw_635 ⟨rfl, by decide +kernel, by decide +kernel, by decide +kernel⟩ ⟨Nat.le_of_ble_eq_true rfl, Nat.le_of_ble_eq_true rfl⟩ hl rfl rfl (Nat.le_of_ble_eq_true rfl) dX13_readSkin_79 ⟨Nat.le_of_ble_eq_true rfl, Nat.le_of_ble_eq_true rfl⟩ (fun z18725 F H locs hT hz18725 => ?_)
        obtain ⟨hz18725, yz18725, hrel, ⟨soz18725, spz18725, faz18725, qsoz18725, qspz18725, qfaz18725, rsoz18725, rspz18725, rfaz18725, stz18725, ptz18725, hkf⟩⟩ := hz18725
        have pf0 := (yz18725.1 _ 4 (Or.inr (by decide)) (Or.inr (by decide)) (Or.inr (by decide)) (Or.inr (by decide)) (Or.inr (by decide)) (Or.inr (by decide)) (Or.inr (by decide)) (Or.inr (by decide))).trans pf0
        have pf1 := (yz18725.1 _ 28 (Or.inr (by decide)) (Or.inr (by decide)) (Or.inr (by decide)) (Or.inr (by decide)) (Or.inr (by decide)) (Or.inr (by decide)) (Or.inr (by decide)) (Or.inr (by decide))).trans pf1
        have pf2 := (yz18725.1 _ 29 (Or.inr (by decide)) (Or.inr (by decide)) (Or.inr (by decide)) (Or.inr (by decide)) (Or.inr (by decide)) (Or.inr (by decide)) (Or.inr (by decide)) (Or.inr (by decide))).trans pf2
        have qz18631 := (yz18725.1 _ 0 (Or.inr (by decide)) (Or.inr (by decide)) (Or.inr (by decide)) (Or.inr (by decide)) (Or.inr (by decide)) (Or.inr (by decide)) (Or.inr (by decide)) (Or.inr (by decide))).trans qz18631
        have hv18663 := (yz18725.1 _ 30 (Or.inr (by decide)) (Or.inr (by decide)) (Or.inr (by decide)) (Or.inr (by decide)) (Or.inr (by decide)) (Or.inr (by decide)) (Or.inr (by decide)) (Or.inr (by decide))).trans hv18663
        have vz18666 := (yz18725.2 _ _ ).trans vz18666
        have hfr : (∀ b j : Nat, (tag b ≠ 46 ∨ j ≠ 8) → (tag b ≠ 46 ∨ j ≠ 9) → (tag b ≠ 46 ∨ j ≠ 10) → (tag b ≠ 46 ∨ j ≠ 11) → (tag b ≠ 46 ∨ j ≠ 12) → (tag b ≠ 46 ∨ j ≠ 13) → (tag b ≠ 46 ∨ j ≠ 14) → (tag b ≠ 46 ∨ j ≠ 15) → fld F b j = fld Fo b j) ∧ (∀ b j : Nat, tag b ≠ 37 → elm F b j = elm Fo b j) := ⟨fun b j n46_8 n46_9 n46_10 n46_11 n46_12 n46_13 n46_14 n46_15 => (yz18725.1 b j n46_8 n46_9 n46_10 n46_11 n46_12 n46_13 n46_14 n46_15).trans (hfr.1 b j n46_8 n46_9 n46_10 n46_11 n46_12 n46_13 n46_14 n46_15), fun b j a37 => (yz18725.2 b j ).trans (hfr.2 b j a37)⟩
        have hstk := STK.tr hstk stz18725
        have hspt := SPT.tr hspt ptz18725
        have k5z18725 : soz18725.toInt = 5 := stz18725 (by omega)
        refine lv_istore_n (lv' := [(2, .int z18725), (1, .int z18635), (0, .ref p0)]) hx hb dX13_readSkin_82 rfl hl (by decide) rfl (fun ls hl => ?_)
        refine lv_aload_n hx hb dX13_readSkin_83 rfl (lv_at hl 2 rfl) ?_
        refine t_cVi (n := 0) (C := RX13) (T := TX13) (N := 37) (As := []) (rest := []) X hT (km37_X13_readSide l G tag L F hT.2.2.2 p0 x0 x1 x2 soz18725 spz18725 faz18725 m0 g0 mx0 gx0 pf0 mx1 gx1 pf1 mx2 gx2 pf2 (by omega) qsoz18725 (by omega) qspz18725 (by omega) qfaz18725 hkf) m0 g0 rfl rfl qw_654 qw_655 qw_656 qw_5 qw_657 ⟨rfl, by decide +kernel, by decide +kernel, by decide +kernel⟩ ⟨Nat.le_of_ble_eq_true rfl, Nat.le_of_ble_eq_true rfl⟩ hl rfl rfl (Nat.le_of_ble_eq_true rfl) dX13_readSkin_84 ⟨Nat.le_of_ble_eq_true rfl, Nat.le_of_ble_eq_true rfl⟩ (fun z18726 F H locs hT hz18726 => ?_)
        obtain ⟨hz18726, yz18726, ⟨soz18726, spz18726, faz18726, qsoz18726, qspz18726, qfaz18726, rsoz18726, rspz18726, rfaz18726, stz18726, ptz18726, hkf⟩⟩ := hz18726
        have pf0 := (yz18726.1 _ 4 (Or.inr (by decide)) (Or.inr (by decide)) (Or.inr (by decide)) (Or.inr (by decide)) (Or.inr (by decide)) (Or.inr (by decide)) (Or.inr (by decide)) (Or.inr (by decide))).trans pf0
        have pf1 := (yz18726.1 _ 28 (Or.inr (by decide)) (Or.inr (by decide)) (Or.inr (by decide)) (Or.inr (by decide)) (Or.inr (by decide)) (Or.inr (by decide)) (Or.inr (by decide)) (Or.inr (by decide))).trans pf1
        have pf2 := (yz18726.1 _ 29 (Or.inr (by decide)) (Or.inr (by decide)) (Or.inr (by decide)) (Or.inr (by decide)) (Or.inr (by decide)) (Or.inr (by decide)) (Or.inr (by decide)) (Or.inr (by decide))).trans pf2
        have qz18631 := (yz18726.1 _ 0 (Or.inr (by decide)) (Or.inr (by decide)) (Or.inr (by decide)) (Or.inr (by decide)) (Or.inr (by decide)) (Or.inr (by decide)) (Or.inr (by decide)) (Or.inr (by decide))).trans qz18631
        have hv18663 := (yz18726.1 _ 30 (Or.inr (by decide)) (Or.inr (by decide)) (Or.inr (by decide)) (Or.inr (by decide)) (Or.inr (by decide)) (Or.inr (by decide)) (Or.inr (by decide)) (Or.inr (by decide))).trans hv18663
        have vz18666 := (yz18726.2 _ _ ).trans vz18666
        have hfr : (∀ b j : Nat, (tag b ≠ 46 ∨ j ≠ 8) → (tag b ≠ 46 ∨ j ≠ 9) → (tag b ≠ 46 ∨ j ≠ 10) → (tag b ≠ 46 ∨ j ≠ 11) → (tag b ≠ 46 ∨ j ≠ 12) → (tag b ≠ 46 ∨ j ≠ 13) → (tag b ≠ 46 ∨ j ≠ 14) → (tag b ≠ 46 ∨ j ≠ 15) → fld F b j = fld Fo b j) ∧ (∀ b j : Nat, tag b ≠ 37 → elm F b j = elm Fo b j) := ⟨fun b j n46_8 n46_9 n46_10 n46_11 n46_12 n46_13 n46_14 n46_15 => (yz18726.1 b j n46_8 n46_9 n46_10 n46_11 n46_12 n46_13 n46_14 n46_15).trans (hfr.1 b j n46_8 n46_9 n46_10 n46_11 n46_12 n46_13 n46_14 n46_15), fun b j a37 => (yz18726.2 b j ).trans (hfr.2 b j a37)⟩
        have hrel := msr_of (fun j => yz18726.2 _ j ) (fun j => yz18726.2 _ j ) hrel
        have hstk := STK.tr hstk stz18726
        have hspt := SPT.tr hspt ptz18726
        have k5z18726 : soz18726.toInt = 5 := stz18726 (by omega)
        refine lv_istore_n (lv' := [(3, .int z18726), (2, .int z18725), (1, .int z18635), (0, .ref p0)]) hx hb dX13_readSkin_87 rfl hl (by decide) rfl (fun ls hl => ?_)
        refine lv_aload_n hx hb dX13_readSkin_88 rfl (lv_at hl 3 rfl) ?_
        refine lv_iconst (v := 0) hx hb dX13_readSkin_89 (by decide) ?_
        refine lv_iconst (v := 2) hx hb dX13_readSkin_90 (by decide) ?_
        refine lv_aload_n hx hb dX13_readSkin_91 rfl (lv_at hl 3 rfl) ?_
        refine t_get (C := RX13) (T := TX13) (N := 37) X hT m0 g0 rfl rfl 4 (by decide) qw_477 inlX13 rfl dX13_readSkin_92 (fun v18727 hv18727 ov18727 => ?_)
        obtain rfl : v18727 = .ref x0 := hv18727.symm.trans pf0
        refine t_getN (C := RX12) (T := TX12) (N := 31) X hT mx0 gx0 rfl rfl 30 (by decide) (List.mem_of_getElem? (i := 34) rfl) inlX12 rfl dX13_readSkin_95 (fun v18728 hv18728 ov18728 => ?_)
        obtain rfl : v18728 = .ref b18664 := hv18728.symm.trans hv18663
        refine lv_iconst (v := 0) hx hb dX13_readSkin_98 (by decide) ?_
        refine lv_iload_n hx hb dX13_readSkin_99 rfl (lv_at hl 2 rfl) ?_
        refine lv_iadd hx hb dX13_readSkin_100 ?_
        refine lv_topi (fun z18729 ez18729 => ?_)
        obtain rfl : z18635 = z18729 := (ar_zadd ez18729).symm
        refine t_ild X hT mb18664 gb18664 rfl (by omega) dX13_readSkin_101 (fun z18730 vz18730 rz18730 => ?_)
        obtain rfl : z18666 = z18730 := vz18666.symm.trans vz18730
        refine lv_iconst (v := 1) hx hb dX13_readSkin_102 (by decide) ?_
        refine lv_iadd hx hb dX13_readSkin_103 ?_
        refine lv_topi (fun z18731 ez18731 => ?_)
        have hz18731 : z18731.toInt = z18666.toInt + 1 := ar_add ez18731 (rfl : z18666.toInt = z18666.toInt) (by decide : (1 : Int32).toInt = 1) (by omega) (by omega)
        have rz18731 : 7 ≤ z18731.toInt ∧ z18731.toInt ≤ 7 := by omega
        refine lv_imul hx hb dX13_readSkin_104 ?_
        refine lv_topi (fun z18732 ez18732 => ?_)
        have hz18732 : z18732.toInt = 2 * z18731.toInt := ar_mul ez18732 (by decide : (2 : Int32).toInt = 2) (rfl : z18731.toInt = z18731.toInt) (by omega) (by omega)
        have rz18732 : 14 ≤ z18732.toInt ∧ z18732.toInt ≤ 14 := by omega
        refine lv_iconst (v := 2) hx hb dX13_readSkin_105 (by decide) ?_
        refine lv_isub hx hb dX13_readSkin_106 ?_
        refine lv_topi (fun z18733 ez18733 => ?_)
        have hz18733 : z18733.toInt = z18732.toInt - 2 := ar_sub ez18733 (rfl : z18732.toInt = z18732.toInt) (by decide : (2 : Int32).toInt = 2) (by omega) (by omega)
        have rz18733 : 12 ≤ z18733.toInt ∧ z18733.toInt ≤ 12 := by omega
        refine t_cVi (n := 2) (C := RX13) (T := TX13) (N := 37) (As := [.int 0, .int z18733]) (rest := []) X hT (km39_X13_readWhole l G tag L F hT.2.2.2 p0 0 z18733 x0 x1 x2 soz18726 spz18726 faz18726 m0 g0 (by decide) (by omega) mx0 gx0 pf0 mx1 gx1 pf1 mx2 gx2 pf2 (by omega) qsoz18726 (by omega) qspz18726 (by omega) qfaz18726 hkf) m0 g0 rfl rfl qw_560 qw_561 qw_562 qw_5 qw_563 ⟨rfl, by decide +kernel, by decide +kernel, by decide +kernel⟩ ⟨Nat.le_of_ble_eq_true rfl, Nat.le_of_ble_eq_true rfl⟩ hl rfl rfl (Nat.le_of_ble_eq_true rfl) dX13_readSkin_107 ⟨Nat.le_of_ble_eq_true rfl, Nat.le_of_ble_eq_true rfl⟩ (fun z18734 F H locs hT hz18734 => ?_)
        obtain ⟨hz18734, yz18734, ⟨soz18734, spz18734, faz18734, qsoz18734, qspz18734, qfaz18734, rsoz18734, rspz18734, rfaz18734, stz18734, ptz18734, hkf⟩⟩ := hz18734
        have pf0 := (yz18734.1 _ 4 (Or.inr (by decide)) (Or.inr (by decide)) (Or.inr (by decide)) (Or.inr (by decide)) (Or.inr (by decide)) (Or.inr (by decide)) (Or.inr (by decide)) (Or.inr (by decide))).trans pf0
        have pf1 := (yz18734.1 _ 28 (Or.inr (by decide)) (Or.inr (by decide)) (Or.inr (by decide)) (Or.inr (by decide)) (Or.inr (by decide)) (Or.inr (by decide)) (Or.inr (by decide)) (Or.inr (by decide))).trans pf1
        have pf2 := (yz18734.1 _ 29 (Or.inr (by decide)) (Or.inr (by decide)) (Or.inr (by decide)) (Or.inr (by decide)) (Or.inr (by decide)) (Or.inr (by decide)) (Or.inr (by decide)) (Or.inr (by decide))).trans pf2
        have qz18631 := (yz18734.1 _ 0 (Or.inr (by decide)) (Or.inr (by decide)) (Or.inr (by decide)) (Or.inr (by decide)) (Or.inr (by decide)) (Or.inr (by decide)) (Or.inr (by decide)) (Or.inr (by decide))).trans qz18631
        have hv18663 := (yz18734.1 _ 30 (Or.inr (by decide)) (Or.inr (by decide)) (Or.inr (by decide)) (Or.inr (by decide)) (Or.inr (by decide)) (Or.inr (by decide)) (Or.inr (by decide)) (Or.inr (by decide))).trans hv18663
        have vz18666 := (yz18734.2 _ _ ).trans vz18666
        have hfr : (∀ b j : Nat, (tag b ≠ 46 ∨ j ≠ 8) → (tag b ≠ 46 ∨ j ≠ 9) → (tag b ≠ 46 ∨ j ≠ 10) → (tag b ≠ 46 ∨ j ≠ 11) → (tag b ≠ 46 ∨ j ≠ 12) → (tag b ≠ 46 ∨ j ≠ 13) → (tag b ≠ 46 ∨ j ≠ 14) → (tag b ≠ 46 ∨ j ≠ 15) → fld F b j = fld Fo b j) ∧ (∀ b j : Nat, tag b ≠ 37 → elm F b j = elm Fo b j) := ⟨fun b j n46_8 n46_9 n46_10 n46_11 n46_12 n46_13 n46_14 n46_15 => (yz18734.1 b j n46_8 n46_9 n46_10 n46_11 n46_12 n46_13 n46_14 n46_15).trans (hfr.1 b j n46_8 n46_9 n46_10 n46_11 n46_12 n46_13 n46_14 n46_15), fun b j a37 => (yz18734.2 b j ).trans (hfr.2 b j a37)⟩
        have hrel := msr_of (fun j => yz18734.2 _ j ) (fun j => yz18734.2 _ j ) hrel
        have hstk := STK.tr hstk stz18734
        have hspt := SPT.tr hspt ptz18734
        have k5z18734 : soz18734.toInt = 5 := stz18734 (by omega)
        refine lv_istore (lv' := [(4, .int z18734), (3, .int z18726), (2, .int z18725), (1, .int z18635), (0, .ref p0)]) hx hb dX13_readSkin_110 hl (by decide) rfl (fun ls hl => ?_)
        refine lv_aload_n hx hb dX13_readSkin_112 rfl (lv_at hl 4 rfl) ?_
        refine m_ldcKw X 76 rfl dX13_readSkin_113 ?_
        refine lv_iconst (v := 0) hx hb dX13_readSkin_116 (by decide) ?_
        refine lv_bipush (v := 99) hx hb dX13_readSkin_117 (by decide) ?_
        refine t_cVi (n := 3) (C := RX13) (T := TX13) (N := 37) (As := [.ref (G.2 (100 + 76)), .int 0, .int 99]) (rest := []) X hT (km43_X13_readPart l G tag L F hT.2.2.2 p0 76 0 99 x0 x1 x2 soz18734 spz18734 faz18734 m0 g0 (by decide) (by decide) (by decide) mx0 gx0 pf0 mx1 gx1 pf1 mx2 gx2 pf2 (by omega) qsoz18734 (by omega) qspz18734 (by omega) qfaz18734 hkf) m0 g0 rfl rfl qw_552 qw_553 qw_554 qw_5 qw_555 ⟨rfl, by decide +kernel, by decide +kernel, by decide +kernel⟩ ⟨Nat.le_of_ble_eq_true rfl, Nat.le_of_ble_eq_true rfl⟩ hl rfl rfl (Nat.le_of_ble_eq_true rfl) dX13_readSkin_119 ⟨Nat.le_of_ble_eq_true rfl, Nat.le_of_ble_eq_true rfl⟩ (fun z18735 F H locs hT hz18735 => ?_)
        obtain ⟨hz18735, yz18735, ⟨soz18735, spz18735, faz18735, qsoz18735, qspz18735, qfaz18735, rsoz18735, rspz18735, rfaz18735, stz18735, ptz18735, hkf⟩⟩ := hz18735
        have pf0 := (yz18735.1 _ 4 (Or.inr (by decide)) (Or.inr (by decide)) (Or.inr (by decide)) (Or.inr (by decide)) (Or.inr (by decide)) (Or.inr (by decide)) (Or.inr (by decide)) (Or.inr (by decide))).trans pf0
        have pf1 := (yz18735.1 _ 28 (Or.inr (by decide)) (Or.inr (by decide)) (Or.inr (by decide)) (Or.inr (by decide)) (Or.inr (by decide)) (Or.inr (by decide)) (Or.inr (by decide)) (Or.inr (by decide))).trans pf1
        have pf2 := (yz18735.1 _ 29 (Or.inr (by decide)) (Or.inr (by decide)) (Or.inr (by decide)) (Or.inr (by decide)) (Or.inr (by decide)) (Or.inr (by decide)) (Or.inr (by decide)) (Or.inr (by decide))).trans pf2
        have qz18631 := (yz18735.1 _ 0 (Or.inr (by decide)) (Or.inr (by decide)) (Or.inr (by decide)) (Or.inr (by decide)) (Or.inr (by decide)) (Or.inr (by decide)) (Or.inr (by decide)) (Or.inr (by decide))).trans qz18631
        have hv18663 := (yz18735.1 _ 30 (Or.inr (by decide)) (Or.inr (by decide)) (Or.inr (by decide)) (Or.inr (by decide)) (Or.inr (by decide)) (Or.inr (by decide)) (Or.inr (by decide)) (Or.inr (by decide))).trans hv18663
        have vz18666 := (yz18735.2 _ _ ).trans vz18666
        have hfr : (∀ b j : Nat, (tag b ≠ 46 ∨ j ≠ 8) → (tag b ≠ 46 ∨ j ≠ 9) → (tag b ≠ 46 ∨ j ≠ 10) → (tag b ≠ 46 ∨ j ≠ 11) → (tag b ≠ 46 ∨ j ≠ 12) → (tag b ≠ 46 ∨ j ≠ 13) → (tag b ≠ 46 ∨ j ≠ 14) → (tag b ≠ 46 ∨ j ≠ 15) → fld F b j = fld Fo b j) ∧ (∀ b j : Nat, tag b ≠ 37 → elm F b j = elm Fo b j) := ⟨fun b j n46_8 n46_9 n46_10 n46_11 n46_12 n46_13 n46_14 n46_15 => (yz18735.1 b j n46_8 n46_9 n46_10 n46_11 n46_12 n46_13 n46_14 n46_15).trans (hfr.1 b j n46_8 n46_9 n46_10 n46_11 n46_12 n46_13 n46_14 n46_15), fun b j a37 => (yz18735.2 b j ).trans (hfr.2 b j a37)⟩
        have hrel := msr_of (fun j => yz18735.2 _ j ) (fun j => yz18735.2 _ j ) hrel
        have hstk := STK.tr hstk stz18735
        have hspt := SPT.tr hspt ptz18735
        have k5z18735 : soz18735.toInt = 5 := stz18735 (by omega)
        refine lv_istore (lv' := [(5, .int z18735), (4, .int z18734), (3, .int z18726), (2, .int z18725), (1, .int z18635), (0, .ref p0)]) hx hb dX13_readSkin_122 hl (by decide) rfl (fun ls hl => ?_)
        refine lv_aload_n hx hb dX13_readSkin_124 rfl (lv_at hl 5 rfl) ?_
        refine t_get (C := RX13) (T := TX13) (N := 37) X hT m0 g0 rfl rfl 9 (by decide) qw_478 inlX13 rfl dX13_readSkin_125 (fun v18736 hv18736 ov18736 => ?_)
        obtain rfl : v18736 = .int soz18735 := hv18736.symm.trans qsoz18735
        refine lv_iconst (v := 5) hx hb dX13_readSkin_128 (by decide) ?_
        refine lv_icmp_ne (tgt := 133) hx hb dX13_readSkin_129 (by decide) (fun c18737 => ?_) (fun c18737 => ?_)
        · have w18738 := cv_ne (rfl : soz18735.toInt = soz18735.toInt) (by decide : (5 : Int32).toInt = 5) c18737
          exfalso
          omega
        · have w18739 := cv_eq (rfl : soz18735.toInt = soz18735.toInt) (by decide : (5 : Int32).toInt = 5) c18737
          exact t_vret hQ X hT ⟨hfr, hrel, ⟨soz18735, spz18735, faz18735, qsoz18735, qspz18735, qfaz18735, (by omega), (by omega), (by omega), hstk, hspt, hkf⟩⟩ (Nat.le_of_ble_eq_true rfl) (Nat.le_of_ble_eq_true rfl) dX13_readSkin_132
      · have w18740 := cv_ne (rfl : soz18720.toInt = soz18720.toInt) (by decide : (5 : Int32).toInt = 5) c18722
        exfalso
        omega
