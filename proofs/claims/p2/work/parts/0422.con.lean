set_option maxHeartbeats 4000000 in
set_option maxRecDepth 100000 in
theorem km140_X13_fits (l : Launch) (G : KG) (tag : Nat → Nat) (L : List Nat) (Fo : Nat → va_E) (ho : okT G ttC tag L Fo) (p0 : Nat) (p1 : Int32) (m0 : p0 ∈ L) (g0 : tag p0 = 46) (pf0 : fld Fo p0 3 = .null) : TMi l yX13_fits cX13_fits 2 (some .int) { frames := 3, cells := 0, slots := 0, locals := 72 } G ttC tag L Fo [.ref p0, .int p1] (fun r F1 => ((-2147483648) ≤ r.toInt ∧ r.toInt ≤ 2147483647) ∧ ((∀ b j : Nat, (tag b ≠ 46 ∨ j ≠ 0) → (tag b ≠ 46 ∨ j ≠ 1) → (tag b ≠ 46 ∨ j ≠ 2) → fld F1 b j = fld Fo b j) ∧ (∀ b j : Nat, elm F1 b j = elm Fo b j))) := by
  refine t_bodyi (y := yX13_fits) (cd := cX13_fits) (mL := 2) (rt := (some .int)) (rm := { frames := 3, cells := 0, slots := 0, locals := 72 }) (av := [.ref p0, .int p1]) (by decide) (Nat.le_of_ble_eq_true rfl) ho ?_
  intro p e s m args below meth c ls A Q hQ X hT hl
  have hx := X.1.1
  have hb := X.1.2.1
  have hl : lv_has ls 2 [(0, .ref p0), (1, .int p1)] := hl
  have rp1 := rg_all p1
  obtain ⟨F, hFo⟩ : ∃ F : Nat → va_E, F = Fo := ⟨_, rfl⟩
  rw [← hFo] at hT pf0
  have hfr : (∀ b j : Nat, (tag b ≠ 46 ∨ j ≠ 0) → (tag b ≠ 46 ∨ j ≠ 1) → (tag b ≠ 46 ∨ j ≠ 2) → fld F b j = fld Fo b j) ∧ (∀ b j : Nat, elm F b j = elm Fo b j) := by
    rw [hFo]
    exact ⟨by intros; rfl, by intros; rfl⟩
  refine lv_aload_n hx hb dX13_fits_0 rfl (lv_at hl 0 rfl) ?_
  refine lv_iconst (v := 0) hx hb dX13_fits_1 (by decide) ?_
  refine t_put (C := RX13) (T := TX13) (N := 37) (v := .int 0) X hT m0 g0 rfl tyX13 tyX13_ok nmX13 rfl 0 (by decide) qw_140 inlX13 rfl (by first | rfl | decide) (by first | rfl | decide) rfl (⟨_, rfl, (show (-2147483648) ≤ (0 : Int32).toInt from (by decide)), (show (0 : Int32).toInt ≤ 2147483647 from (by decide))⟩) dX13_fits_2 (fun F H locs hT v38395 h1v38395 h2v38395 => ?_)
  have pf0 := (h1v38395 _ _ (Or.inr (by decide))).trans pf0
  have hfr : (∀ b j : Nat, (tag b ≠ 46 ∨ j ≠ 0) → (tag b ≠ 46 ∨ j ≠ 1) → (tag b ≠ 46 ∨ j ≠ 2) → fld F b j = fld Fo b j) ∧ (∀ b j : Nat, elm F b j = elm Fo b j) := ⟨fun b j n46_0 n46_1 n46_2 => (h1v38395 b j (fr_ne g0 n46_0)).trans (hfr.1 b j n46_0 n46_1 n46_2), fun b j  => (h2v38395 b j).trans (hfr.2 b j )⟩
  refine lv_aload_n hx hb dX13_fits_5 rfl (lv_at hl 0 rfl) ?_
  refine lv_iload_n hx hb dX13_fits_6 rfl (lv_at hl 1 rfl) ?_
  refine t_cVi (n := 1) (C := RX13) (T := TX13) (N := 37) (As := [.int p1]) (rest := []) X hT (km116_X13_isHouse l G tag L F hT.2.2.2 p0 p1 m0 g0 pf0) m0 g0 rfl rfl qw_796 qw_797 qw_798 qw_5 qw_799 ⟨rfl, by decide +kernel, by decide +kernel, by decide +kernel⟩ ⟨Nat.le_of_ble_eq_true rfl, Nat.le_of_ble_eq_true rfl⟩ hl rfl rfl (Nat.le_of_ble_eq_true rfl) dX13_fits_7 ⟨Nat.le_of_ble_eq_true rfl, Nat.le_of_ble_eq_true rfl⟩ (fun z38396 F9 H locs hT hz38396 => ?_)
  obtain ⟨fz38396, hz38396⟩ := hz38396
  rw [fz38396] at hT
  refine lv_if_eq (tgt := 53) hx hb dX13_fits_10 (by decide) (fun c38397 => ?_) (fun c38397 => ?_)
  · have w38398 := cv_eq (rfl : z38396.toInt = z38396.toInt) (by decide : (0 : Int32).toInt = 0) c38397
    refine lv_aload_n hx hb dX13_fits_53 rfl (lv_at hl 0 rfl) ?_
    refine lv_iconst (v := 1) hx hb dX13_fits_54 (by decide) ?_
    refine t_cVi (n := 1) (C := RX13) (T := TX13) (N := 37) (As := [.int 1]) (rest := []) X hT (km88_X13_refused l G tag L F hT.2.2.2 p0 1 m0 g0) m0 g0 rfl rfl qw_484 qw_485 qw_486 qw_5 qw_487 ⟨rfl, by decide +kernel, by decide +kernel, by decide +kernel⟩ ⟨Nat.le_of_ble_eq_true rfl, Nat.le_of_ble_eq_true rfl⟩ hl rfl rfl (Nat.le_of_ble_eq_true rfl) dX13_fits_55 ⟨Nat.le_of_ble_eq_true rfl, Nat.le_of_ble_eq_true rfl⟩ (fun z38399 F H locs hT hz38399 => ?_)
    obtain ⟨hz38399, yz38399⟩ := hz38399
    have pf0 := (yz38399.1 _ 3 (Or.inr (by decide)) (Or.inr (by decide))).trans pf0
    have v38395 := (yz38399.1 _ 0 (Or.inr (by decide)) (Or.inr (by decide))).trans v38395
    have hfr : (∀ b j : Nat, (tag b ≠ 46 ∨ j ≠ 0) → (tag b ≠ 46 ∨ j ≠ 1) → (tag b ≠ 46 ∨ j ≠ 2) → fld F b j = fld Fo b j) ∧ (∀ b j : Nat, elm F b j = elm Fo b j) := ⟨fun b j n46_0 n46_1 n46_2 => (yz38399.1 b j n46_1 n46_2).trans (hfr.1 b j n46_0 n46_1 n46_2), fun b j  => (yz38399.2 b j ).trans (hfr.2 b j )⟩
    exact t_iret hQ X hT (⟨rg_all _, hfr⟩) (Nat.le_of_ble_eq_true rfl) (Nat.le_of_ble_eq_true rfl) dX13_fits_58
  · have w38400 := cv_ne (rfl : z38396.toInt = z38396.toInt) (by decide : (0 : Int32).toInt = 0) c38397
    exfalso
    omega
theorem kp_X13_fits (l : Launch) (G : KG) (tag : Nat → Nat) (L : List Nat) (Fo : Nat → va_E) (ho : okT G ttC tag L Fo) (p0 : Nat) (p1 : Int32) (m0 : p0 ∈ L) (g0 : tag p0 = 46) : TMi l yX13_fits cX13_fits 2 (some .int) { frames := 3, cells := 0, slots := 0, locals := 72 } G ttC tag L Fo [.ref p0, .int p1] (fun r F1 => ((-2147483648) ≤ r.toInt ∧ r.toInt ≤ 2147483647) ∧ ((∀ b j : Nat, (tag b ≠ 46 ∨ j ≠ 0) → (tag b ≠ 46 ∨ j ≠ 1) → (tag b ≠ 46 ∨ j ≠ 2) → fld F1 b j = fld Fo b j) ∧ (∀ b j : Nat, elm F1 b j = elm Fo b j))) := by
  rcases t_fldn ho m0 g0 rfl 3 rfl with h9 | ⟨b9, h9, m9, t9⟩
  · exact km140_X13_fits l G tag L Fo ho p0 p1  m0 g0 h9 
  · exact km139_X13_fits l G tag L Fo ho p0 p1 b9  m0 g0 m9 (tg_of t9) h9 
set_option maxHeartbeats 4000000 in
set_option maxRecDepth 100000 in
theorem km142_X13_placeOf (l : Launch) (G : KG) (tag : Nat → Nat) (L : List Nat) (F : Nat → va_E) (ho : okT G ttC tag L F) (p0 : Int32) (p1 : Int32) (p2 : Int32)  : TMi l yX13_placeOf cX13_placeOf 3 (some .int) { frames := 0, cells := 0, slots := 0, locals := 0 } G ttC tag L F [.int p0, .int p1, .int p2] (fun r F1 => F1 = F ∧ ((-2147483648) ≤ r.toInt ∧ r.toInt ≤ 2147483647)) := by
  refine t_bodyi (y := yX13_placeOf) (cd := cX13_placeOf) (mL := 3) (rt := (some .int)) (rm := { frames := 0, cells := 0, slots := 0, locals := 0 }) (av := [.int p0, .int p1, .int p2]) (by decide) (Nat.le_of_ble_eq_true rfl) ho ?_
  intro p e s m args below meth c ls A Q hQ X hT hl
  have hx := X.1.1
  have hb := X.1.2.1
  have hl : lv_has ls 3 [(0, .int p0), (1, .int p1), (2, .int p2)] := hl
  have rp0 := rg_all p0
  have rp1 := rg_all p1
  have rp2 := rg_all p2
  refine lv_iload_n hx hb dX13_placeOf_0 rfl (lv_at hl 2 rfl) ?_
  refine lv_iload_n hx hb dX13_placeOf_1 rfl (lv_at hl 0 rfl) ?_
  refine lv_ineg hx hb dX13_placeOf_2 ?_
  refine lv_topi (fun z38660 ez38660 => ?_)
  have rz38660 := rg_all z38660
  refine lv_icmp_ne (tgt := 10) hx hb dX13_placeOf_3 (by decide) (fun c38661 => ?_) (fun c38661 => ?_)
  · have w38662 := cv_ne (rfl : p2.toInt = p2.toInt) (rfl : z38660.toInt = z38660.toInt) c38661
    refine lv_iload_n hx hb dX13_placeOf_10 rfl (lv_at hl 1 rfl) ?_
    refine lv_iload_n hx hb dX13_placeOf_11 rfl (lv_at hl 0 rfl) ?_
    refine lv_icmp_ne (tgt := 23) hx hb dX13_placeOf_12 (by decide) (fun c38663 => ?_) (fun c38663 => ?_)
    · have w38664 := cv_ne (rfl : p1.toInt = p1.toInt) (rfl : p0.toInt = p0.toInt) c38663
      refine lv_iload_n hx hb dX13_placeOf_23 rfl (lv_at hl 2 rfl) ?_
      refine lv_iload_n hx hb dX13_placeOf_24 rfl (lv_at hl 0 rfl) ?_
      refine lv_icmp_ne (tgt := 38) hx hb dX13_placeOf_25 (by decide) (fun c38665 => ?_) (fun c38665 => ?_)
      · have w38666 := cv_ne (rfl : p2.toInt = p2.toInt) (rfl : p0.toInt = p0.toInt) c38665
        refine lv_bipush (v := 6) hx hb dX13_placeOf_38 (by decide) ?_
        refine lv_iload_n hx hb dX13_placeOf_40 rfl (lv_at hl 0 rfl) ?_
        refine lv_imul hx hb dX13_placeOf_41 ?_
        refine lv_topi (fun z38667 ez38667 => ?_)
        have rz38667 := rg_all z38667
        refine lv_iload_n hx hb dX13_placeOf_42 rfl (lv_at hl 0 rfl) ?_
        refine lv_iadd hx hb dX13_placeOf_43 ?_
        refine lv_topi (fun z38668 ez38668 => ?_)
        have rz38668 := rg_all z38668
        refine lv_iload_n hx hb dX13_placeOf_44 rfl (lv_at hl 2 rfl) ?_
        refine lv_isub hx hb dX13_placeOf_45 ?_
        refine lv_topi (fun z38669 ez38669 => ?_)
        have rz38669 := rg_all z38669
        exact t_iret hQ X hT (⟨rfl, rg_all _⟩) (Nat.le_of_ble_eq_true rfl) (Nat.le_of_ble_eq_true rfl) dX13_placeOf_46
      · have w38670 := cv_eq (rfl : p2.toInt = p2.toInt) (rfl : p0.toInt = p0.toInt) c38665
        refine lv_iconst (v := 4) hx hb dX13_placeOf_28 (by decide) ?_
        refine lv_iload_n hx hb dX13_placeOf_29 rfl (lv_at hl 0 rfl) ?_
        refine lv_imul hx hb dX13_placeOf_30 ?_
        refine lv_topi (fun z38671 ez38671 => ?_)
        have rz38671 := rg_all z38671
        refine lv_iload_n hx hb dX13_placeOf_31 rfl (lv_at hl 0 rfl) ?_
        refine lv_iadd hx hb dX13_placeOf_32 ?_
        refine lv_topi (fun z38672 ez38672 => ?_)
        have rz38672 := rg_all z38672
        refine lv_iload_n hx hb dX13_placeOf_33 rfl (lv_at hl 1 rfl) ?_
        refine lv_isub hx hb dX13_placeOf_34 ?_
        refine lv_topi (fun z38673 ez38673 => ?_)
        have rz38673 := rg_all z38673
        refine lv_goto (tgt := 46) hx hb dX13_placeOf_35 (by decide) ?_
        exact t_iret hQ X hT (⟨rfl, rg_all _⟩) (Nat.le_of_ble_eq_true rfl) (Nat.le_of_ble_eq_true rfl) dX13_placeOf_46
    · have w38674 := cv_eq (rfl : p1.toInt = p1.toInt) (rfl : p0.toInt = p0.toInt) c38663
      refine lv_iconst (v := 2) hx hb dX13_placeOf_15 (by decide) ?_
      refine lv_iload_n hx hb dX13_placeOf_16 rfl (lv_at hl 0 rfl) ?_
      refine lv_imul hx hb dX13_placeOf_17 ?_
      refine lv_topi (fun z38675 ez38675 => ?_)
      have rz38675 := rg_all z38675
      refine lv_iload_n hx hb dX13_placeOf_18 rfl (lv_at hl 2 rfl) ?_
      refine lv_iadd hx hb dX13_placeOf_19 ?_
      refine lv_topi (fun z38676 ez38676 => ?_)
      have rz38676 := rg_all z38676
      refine lv_iload_n hx hb dX13_placeOf_20 rfl (lv_at hl 0 rfl) ?_
      refine lv_iadd hx hb dX13_placeOf_21 ?_
      refine lv_topi (fun z38677 ez38677 => ?_)
      have rz38677 := rg_all z38677
      exact t_iret hQ X hT (⟨rfl, rg_all _⟩) (Nat.le_of_ble_eq_true rfl) (Nat.le_of_ble_eq_true rfl) dX13_placeOf_22
  · have w38678 := cv_eq (rfl : p2.toInt = p2.toInt) (rfl : z38660.toInt = z38660.toInt) c38661
    refine lv_iload_n hx hb dX13_placeOf_6 rfl (lv_at hl 1 rfl) ?_
    refine lv_iload_n hx hb dX13_placeOf_7 rfl (lv_at hl 0 rfl) ?_
    refine lv_iadd hx hb dX13_placeOf_8 ?_
    refine lv_topi (fun z38679 ez38679 => ?_)
    have rz38679 := rg_all z38679
    exact t_iret hQ X hT (⟨rfl, rg_all _⟩) (Nat.le_of_ble_eq_true rfl) (Nat.le_of_ble_eq_true rfl) dX13_placeOf_9
set_option maxHeartbeats 4000000 in
set_option maxRecDepth 100000 in
theorem km143_X13_doorPlace (l : Launch) (G : KG) (tag : Nat → Nat) (L : List Nat) (F : Nat → va_E) (ho : okT G ttC tag L F) (p0 : Int32) (p1 : Int32) (p2 : Int32)  : TMi l yX13_doorPlace cX13_doorPlace 3 (some .int) { frames := 1, cells := 0, slots := 0, locals := 22 } G ttC tag L F [.int p0, .int p1, .int p2] (fun r F1 => F1 = F ∧ ((-2147483648) ≤ r.toInt ∧ r.toInt ≤ 2147483647)) := by
  refine t_bodyi (y := yX13_doorPlace) (cd := cX13_doorPlace) (mL := 3) (rt := (some .int)) (rm := { frames := 1, cells := 0, slots := 0, locals := 22 }) (av := [.int p0, .int p1, .int p2]) (by decide) (Nat.le_of_ble_eq_true rfl) ho ?_
  intro p e s m args below meth c ls A Q hQ X hT hl
  have hx := X.1.1
  have hb := X.1.2.1
  have hl : lv_has ls 3 [(0, .int p0), (1, .int p1), (2, .int p2)] := hl
  have rp0 := rg_all p0
  have rp1 := rg_all p1
  have rp2 := rg_all p2
  refine lv_iload_n hx hb dX13_doorPlace_0 rfl (lv_at hl 0 rfl) ?_
  refine lv_iload_n hx hb dX13_doorPlace_1 rfl (lv_at hl 0 rfl) ?_
  refine lv_iload_n hx hb dX13_doorPlace_2 rfl (lv_at hl 1 rfl) ?_
  refine lv_iload_n hx hb dX13_doorPlace_3 rfl (lv_at hl 2 rfl) ?_
  refine t_cSi (n := 3) (As := [.int p0, .int p1, .int p2]) (rest := [.int p0]) X hT (km108_X13_doorX l G tag L F hT.2.2.2 p0 p1 p2 ) qw_807 qw_808 qw_5 qw_809 ⟨by decide +kernel, by decide +kernel, by decide +kernel⟩ ⟨Nat.le_of_ble_eq_true rfl, Nat.le_of_ble_eq_true rfl⟩ hl rfl rfl (Nat.le_of_ble_eq_true rfl) dX13_doorPlace_4 ⟨Nat.le_of_ble_eq_true rfl, Nat.le_of_ble_eq_true rfl⟩ (fun z38711 F9 H locs hT hz38711 => ?_)
  obtain ⟨fz38711, hz38711⟩ := hz38711
  rw [fz38711] at hT
  refine lv_iload_n hx hb dX13_doorPlace_7 rfl (lv_at hl 0 rfl) ?_
  refine lv_iload_n hx hb dX13_doorPlace_8 rfl (lv_at hl 1 rfl) ?_
  refine lv_iload_n hx hb dX13_doorPlace_9 rfl (lv_at hl 2 rfl) ?_
  refine t_cSi (n := 3) (As := [.int p0, .int p1, .int p2]) (rest := [.int z38711, .int p0]) X hT (km110_X13_doorY l G tag L F hT.2.2.2 p0 p1 p2 ) qw_813 qw_814 qw_5 qw_815 ⟨by decide +kernel, by decide +kernel, by decide +kernel⟩ ⟨Nat.le_of_ble_eq_true rfl, Nat.le_of_ble_eq_true rfl⟩ hl rfl rfl (Nat.le_of_ble_eq_true rfl) dX13_doorPlace_10 ⟨Nat.le_of_ble_eq_true rfl, Nat.le_of_ble_eq_true rfl⟩ (fun z38712 F9 H locs hT hz38712 => ?_)
  obtain ⟨fz38712, hz38712⟩ := hz38712
  rw [fz38712] at hT
  refine t_cSi (n := 3) (As := [.int p0, .int z38711, .int z38712]) (rest := []) X hT (km142_X13_placeOf l G tag L F hT.2.2.2 p0 z38711 z38712 ) qw_941 qw_942 qw_5 qw_943 ⟨by decide +kernel, by decide +kernel, by decide +kernel⟩ ⟨Nat.le_of_ble_eq_true rfl, Nat.le_of_ble_eq_true rfl⟩ hl rfl rfl (Nat.le_of_ble_eq_true rfl) dX13_doorPlace_13 ⟨Nat.le_of_ble_eq_true rfl, Nat.le_of_ble_eq_true rfl⟩ (fun z38713 F9 H locs hT hz38713 => ?_)
  obtain ⟨fz38713, hz38713⟩ := hz38713
  rw [fz38713] at hT
  exact t_iret hQ X hT (⟨rfl, rg_all _⟩) (Nat.le_of_ble_eq_true rfl) (Nat.le_of_ble_eq_true rfl) dX13_doorPlace_16
set_option maxHeartbeats 4000000 in
set_option maxRecDepth 100000 in
theorem km144_X13_frontPlace (l : Launch) (G : KG) (tag : Nat → Nat) (L : List Nat) (F : Nat → va_E) (ho : okT G ttC tag L F) (p0 : Int32) (p1 : Int32) (p2 : Int32)  : TMi l yX13_frontPlace cX13_frontPlace 3 (some .int) { frames := 1, cells := 0, slots := 0, locals := 22 } G ttC tag L F [.int p0, .int p1, .int p2] (fun r F1 => F1 = F ∧ ((-2147483648) ≤ r.toInt ∧ r.toInt ≤ 2147483647)) := by
  refine t_bodyi (y := yX13_frontPlace) (cd := cX13_frontPlace) (mL := 3) (rt := (some .int)) (rm := { frames := 1, cells := 0, slots := 0, locals := 22 }) (av := [.int p0, .int p1, .int p2]) (by decide) (Nat.le_of_ble_eq_true rfl) ho ?_
  intro p e s m args below meth c ls A Q hQ X hT hl
  have hx := X.1.1
  have hb := X.1.2.1
  have hl : lv_has ls 3 [(0, .int p0), (1, .int p1), (2, .int p2)] := hl
  have rp0 := rg_all p0
  have rp1 := rg_all p1
  have rp2 := rg_all p2
  refine lv_iload_n hx hb dX13_frontPlace_0 rfl (lv_at hl 0 rfl) ?_
  refine lv_iconst (v := 1) hx hb dX13_frontPlace_1 (by decide) ?_
  refine lv_iadd hx hb dX13_frontPlace_2 ?_
  refine lv_topi (fun z38812 ez38812 => ?_)
  have rz38812 := rg_all z38812
  refine lv_iload_n hx hb dX13_frontPlace_3 rfl (lv_at hl 0 rfl) ?_
  refine lv_iload_n hx hb dX13_frontPlace_4 rfl (lv_at hl 1 rfl) ?_
  refine lv_iload_n hx hb dX13_frontPlace_5 rfl (lv_at hl 2 rfl) ?_
  refine t_cSi (n := 3) (As := [.int p0, .int p1, .int p2]) (rest := [.int z38812]) X hT (km108_X13_doorX l G tag L F hT.2.2.2 p0 p1 p2 ) qw_807 qw_808 qw_5 qw_809 ⟨by decide +kernel, by decide +kernel, by decide +kernel⟩ ⟨Nat.le_of_ble_eq_true rfl, Nat.le_of_ble_eq_true rfl⟩ hl rfl rfl (Nat.le_of_ble_eq_true rfl) dX13_frontPlace_6 ⟨Nat.le_of_ble_eq_true rfl, Nat.le_of_ble_eq_true rfl⟩ (fun z38813 F9 H locs hT hz38813 => ?_)
  obtain ⟨fz38813, hz38813⟩ := hz38813
  rw [fz38813] at hT
  refine lv_iload_n hx hb dX13_frontPlace_9 rfl (lv_at hl 1 rfl) ?_
  refine t_cSi (n := 1) (As := [.int p1]) (rest := [.int z38813, .int z38812]) X hT (km109_X13_outX l G tag L F hT.2.2.2 p1 ) qw_810 qw_811 qw_5 qw_812 ⟨by decide +kernel, by decide +kernel, by decide +kernel⟩ ⟨Nat.le_of_ble_eq_true rfl, Nat.le_of_ble_eq_true rfl⟩ hl rfl rfl (Nat.le_of_ble_eq_true rfl) dX13_frontPlace_10 ⟨Nat.le_of_ble_eq_true rfl, Nat.le_of_ble_eq_true rfl⟩ (fun z38814 F9 H locs hT hz38814 => ?_)
  obtain ⟨fz38814, hz38814⟩ := hz38814
  rw [fz38814] at hT
  refine lv_iadd hx hb dX13_frontPlace_13 ?_
  refine lv_topi (fun z38815 ez38815 => ?_)
  have rz38815 := rg_all z38815
  refine lv_iload_n hx hb dX13_frontPlace_14 rfl (lv_at hl 0 rfl) ?_
  refine lv_iload_n hx hb dX13_frontPlace_15 rfl (lv_at hl 1 rfl) ?_
  refine lv_iload_n hx hb dX13_frontPlace_16 rfl (lv_at hl 2 rfl) ?_
  refine t_cSi (n := 3) (As := [.int p0, .int p1, .int p2]) (rest := [.int z38815, .int z38812]) X hT (km110_X13_doorY l G tag L F hT.2.2.2 p0 p1 p2 ) qw_813 qw_814 qw_5 qw_815 ⟨by decide +kernel, by decide +kernel, by decide +kernel⟩ ⟨Nat.le_of_ble_eq_true rfl, Nat.le_of_ble_eq_true rfl⟩ hl rfl rfl (Nat.le_of_ble_eq_true rfl) dX13_frontPlace_17 ⟨Nat.le_of_ble_eq_true rfl, Nat.le_of_ble_eq_true rfl⟩ (fun z38816 F9 H locs hT hz38816 => ?_)
  obtain ⟨fz38816, hz38816⟩ := hz38816
  rw [fz38816] at hT
  refine lv_iload_n hx hb dX13_frontPlace_20 rfl (lv_at hl 1 rfl) ?_
  refine t_cSi (n := 1) (As := [.int p1]) (rest := [.int z38816, .int z38815, .int z38812]) X hT (km111_X13_outY l G tag L F hT.2.2.2 p1 ) qw_816 qw_817 qw_5 qw_818 ⟨by decide +kernel, by decide +kernel, by decide +kernel⟩ ⟨Nat.le_of_ble_eq_true rfl, Nat.le_of_ble_eq_true rfl⟩ hl rfl rfl (Nat.le_of_ble_eq_true rfl) dX13_frontPlace_21 ⟨Nat.le_of_ble_eq_true rfl, Nat.le_of_ble_eq_true rfl⟩ (fun z38817 F9 H locs hT hz38817 => ?_)
  obtain ⟨fz38817, hz38817⟩ := hz38817
  rw [fz38817] at hT
  refine lv_iadd hx hb dX13_frontPlace_24 ?_
  refine lv_topi (fun z38818 ez38818 => ?_)
  have rz38818 := rg_all z38818
  refine t_cSi (n := 3) (As := [.int z38812, .int z38815, .int z38818]) (rest := []) X hT (km142_X13_placeOf l G tag L F hT.2.2.2 z38812 z38815 z38818 ) qw_941 qw_942 qw_5 qw_943 ⟨by decide +kernel, by decide +kernel, by decide +kernel⟩ ⟨Nat.le_of_ble_eq_true rfl, Nat.le_of_ble_eq_true rfl⟩ hl rfl rfl (Nat.le_of_ble_eq_true rfl) dX13_frontPlace_25 ⟨Nat.le_of_ble_eq_true rfl, Nat.le_of_ble_eq_true rfl⟩ (fun z38819 F9 H locs hT hz38819 => ?_)
  obtain ⟨fz38819, hz38819⟩ := hz38819
  rw [fz38819] at hT
  exact t_iret hQ X hT (⟨rfl, rg_all _⟩) (Nat.le_of_ble_eq_true rfl) (Nat.le_of_ble_eq_true rfl) dX13_frontPlace_28
set_option maxHeartbeats 4000000 in
set_option maxRecDepth 100000 in
theorem km145_X13_roundOf (l : Launch) (G : KG) (tag : Nat → Nat) (L : List Nat) (F : Nat → va_E) (ho : okT G ttC tag L F) (p0 : Int32) (p1 : Int32) (p2 : Int32)  : TMi l yX13_roundOf cX13_roundOf 4 (some .int) { frames := 0, cells := 0, slots := 0, locals := 0 } G ttC tag L F [.int p0, .int p1, .int p2] (fun r F1 => F1 = F ∧ ((-2147483648) ≤ r.toInt ∧ r.toInt ≤ 2147483647)) := by
  refine t_bodyi (y := yX13_roundOf) (cd := cX13_roundOf) (mL := 4) (rt := (some .int)) (rm := { frames := 0, cells := 0, slots := 0, locals := 0 }) (av := [.int p0, .int p1, .int p2]) (by decide) (Nat.le_of_ble_eq_true rfl) ho ?_
  intro p e s m args below meth c ls A Q hQ X hT hl
  have hx := X.1.1
  have hb := X.1.2.1
  have hl : lv_has ls 4 [(0, .int p0), (1, .int p1), (2, .int p2)] := hl
  have rp0 := rg_all p0
  have rp1 := rg_all p1
  have rp2 := rg_all p2
  have K14 : ∀ (z38953 : Int32) (H : Heap) (locs : List Loc) (ls : Array Slot), TH G ttC A s tag L F H locs → lv_has ls 4 [(0, .int p0), (1, .int p1), (2, .int p2)] → W p l e { frames := 0, cells := 0, slots := 0, locals := 0 } s m args below meth c H locs 0 0 Q (F0 m 14 ls [.int z38953]) := by
    intro z38953 H locs ls hT hl
    have rz38953 := rg_all z38953
    refine lv_istore_n (lv' := [(3, .int z38953), (0, .int p0), (1, .int p1), (2, .int p2)]) hx hb dX13_roundOf_14 rfl hl (by decide) rfl (fun ls hl => ?_)
    refine lv_iload_n hx hb dX13_roundOf_15 rfl (lv_at hl 0 rfl) ?_
    refine lv_bipush (v := 8) hx hb dX13_roundOf_16 (by decide) ?_
    refine lv_iload_n hx hb dX13_roundOf_18 rfl (lv_at hl 1 rfl) ?_
    refine lv_imul hx hb dX13_roundOf_19 ?_
    refine lv_topi (fun z38954 ez38954 => ?_)
    have rz38954 := rg_all z38954
    refine lv_iload_n hx hb dX13_roundOf_20 rfl (lv_at hl 0 rfl) ?_
    refine lv_isub hx hb dX13_roundOf_21 ?_
    refine lv_topi (fun z38955 ez38955 => ?_)
    have rz38955 := rg_all z38955
    refine lv_icmp_ge (tgt := 29) hx hb dX13_roundOf_22 (by decide) (fun c38956 => ?_) (fun c38956 => ?_)
    · have w38957 := cv_le (rfl : z38955.toInt = z38955.toInt) (rfl : z38953.toInt = z38953.toInt) c38956
      refine lv_bipush (v := 8) hx hb dX13_roundOf_29 (by decide) ?_
      refine lv_iload_n hx hb dX13_roundOf_31 rfl (lv_at hl 1 rfl) ?_
      refine lv_imul hx hb dX13_roundOf_32 ?_
      refine lv_topi (fun z38958 ez38958 => ?_)
      have rz38958 := rg_all z38958
      refine lv_iload_n hx hb dX13_roundOf_33 rfl (lv_at hl 0 rfl) ?_
      refine lv_isub hx hb dX13_roundOf_34 ?_
      refine lv_topi (fun z38959 ez38959 => ?_)
      have rz38959 := rg_all z38959
      exact t_iret hQ X hT (⟨rfl, rg_all _⟩) (Nat.le_of_ble_eq_true rfl) (Nat.le_of_ble_eq_true rfl) dX13_roundOf_35
    · have w38960 := cv_nle (rfl : z38955.toInt = z38955.toInt) (rfl : z38953.toInt = z38953.toInt) c38956
      refine lv_iload_n hx hb dX13_roundOf_25 rfl (lv_at hl 0 rfl) ?_
      refine lv_goto (tgt := 35) hx hb dX13_roundOf_26 (by decide) ?_
      exact t_iret hQ X hT (⟨rfl, rg_all _⟩) (Nat.le_of_ble_eq_true rfl) (Nat.le_of_ble_eq_true rfl) dX13_roundOf_35
  refine lv_iload_n hx hb dX13_roundOf_0 rfl (lv_at hl 1 rfl) ?_
  refine lv_iload_n hx hb dX13_roundOf_1 rfl (lv_at hl 2 rfl) ?_
  refine lv_icmp_le (tgt := 11) hx hb dX13_roundOf_2 (by decide) (fun c38961 => ?_) (fun c38961 => ?_)
  · have w38962 := cv_le (rfl : p1.toInt = p1.toInt) (rfl : p2.toInt = p2.toInt) c38961
    refine lv_iload_n hx hb dX13_roundOf_11 rfl (lv_at hl 2 rfl) ?_
    refine lv_iload_n hx hb dX13_roundOf_12 rfl (lv_at hl 1 rfl) ?_
    refine lv_isub hx hb dX13_roundOf_13 ?_
    refine lv_topi (fun z38963 ez38963 => ?_)
    have rz38963 := rg_all z38963
    exact K14 z38963 _ _ _  hT  (lv_sub hl [0, 1, 2] rfl)
  · have w38964 := cv_nle (rfl : p1.toInt = p1.toInt) (rfl : p2.toInt = p2.toInt) c38961
    refine lv_iload_n hx hb dX13_roundOf_5 rfl (lv_at hl 1 rfl) ?_
    refine lv_iload_n hx hb dX13_roundOf_6 rfl (lv_at hl 2 rfl) ?_
    refine lv_isub hx hb dX13_roundOf_7 ?_
    refine lv_topi (fun z38965 ez38965 => ?_)
    have rz38965 := rg_all z38965
    refine lv_goto (tgt := 14) hx hb dX13_roundOf_8 (by decide) ?_
    exact K14 z38965 _ _ _  hT  (lv_sub hl [0, 1, 2] rfl)
set_option maxHeartbeats 4000000 in
set_option maxRecDepth 100000 in
theorem km146_X13_findsDoor (l : Launch) (G : KG) (tag : Nat → Nat) (L : List Nat) (Fo : Nat → va_E) (ho : okT G ttC tag L Fo) (p0 : Nat) (p1 : Nat) (p2 : Int32) (x0 : Nat) (x1 : Int32) (m0 : p0 ∈ L) (g0 : tag p0 = 46) (m1 : p1 ∈ L) (g1 : tag p1 = 37) (h2 : 0 ≤ p2.toInt ∧ p2.toInt ≤ 3) (mx0 : x0 ∈ L) (gx0 : tag x0 = 45) (pf0 : fld Fo p0 3 = .ref x0) (hx1 : 0 ≤ x1.toInt ∧ x1.toInt ≤ 6) (pf1 : elm Fo p1 p2.toNatClampNeg = x1) : TMi l yX13_findsDoor cX13_findsDoor 8 (some .boolean) { frames := 4, cells := 0, slots := 0, locals := 98 } G ttC tag L Fo [.ref p0, .ref p1, .int p2] (fun r F1 => (0 ≤ r.toInt ∧ r.toInt ≤ 1) ∧ ((∀ b j : Nat, (tag b ≠ 46 ∨ j ≠ 22) → (tag b ≠ 46 ∨ j ≠ 23) → fld F1 b j = fld Fo b j) ∧ (∀ b j : Nat, elm F1 b j = elm Fo b j)) ∧ (r.toInt ≠ 0 → x1.toInt ≤ 5)) := by
  refine t_bodyi (y := yX13_findsDoor) (cd := cX13_findsDoor) (mL := 8) (rt := (some .boolean)) (rm := { frames := 4, cells := 0, slots := 0, locals := 98 }) (av := [.ref p0, .ref p1, .int p2]) (by decide) (Nat.le_of_ble_eq_true rfl) ho ?_
  intro p e s m args below meth c ls A Q hQ X hT hl
  have hx := X.1.1
  have hb := X.1.2.1
  have hl : lv_has ls 8 [(0, .ref p0), (1, .ref p1), (2, .int p2)] := hl
  obtain ⟨F, hFo⟩ : ∃ F : Nat → va_E, F = Fo := ⟨_, rfl⟩
  rw [← hFo] at hT pf0 pf1
  have hfr : (∀ b j : Nat, (tag b ≠ 46 ∨ j ≠ 22) → (tag b ≠ 46 ∨ j ≠ 23) → fld F b j = fld Fo b j) ∧ (∀ b j : Nat, elm F b j = elm Fo b j) := by
    rw [hFo]
    exact ⟨by intros; rfl, by intros; rfl⟩
  have K39 : ∀ (n : Nat) (z40157 : Int32) (z40158 : Int32) (z40159 : Int32) (z40160 : Int32) (F : Nat → va_E) (H : Heap) (locs : List Loc) (ls : Array Slot), (4 - z40159.toInt < (n : Int)) → (1 ≤ z40157.toInt ∧ z40157.toInt ≤ 6) → (0 ≤ z40159.toInt ∧ z40159.toInt ≤ 4) → (0 ≤ z40160.toInt ∧ z40160.toInt ≤ 5) → TH G ttC A s tag L F H locs → ((∀ b j : Nat, (tag b ≠ 46 ∨ j ≠ 22) → (tag b ≠ 46 ∨ j ≠ 23) → fld F b j = fld Fo b j) ∧ (∀ b j : Nat, elm F b j = elm Fo b j)) → (fld F p0 3 = .ref x0) → (elm F p1 p2.toNatClampNeg = z40160) → lv_has ls 8 [(0, .ref p0), (1, .ref p1), (2, .int p2), (3, .int z40157), (4, .int z40158), (5, .int z40159)] → W p l e { frames := 4, cells := 0, slots := 0, locals := 98 } s m args below meth c H locs 0 0 Q (F0 m 39 ls []) := by
    intro n
    induction n with
    | zero =>
      intro z40157 z40158 z40159 z40160 F H locs ls hn rz40157 rz40159 rz40160 hT hfr pf0 qz40160 hl
      have rz40158 := rg_all z40158
      exfalso
      omega
    | succ n ih39 =>
      intro z40157 z40158 z40159 z40160 F H locs ls hn rz40157 rz40159 rz40160 hT hfr pf0 qz40160 hl
      have rz40158 := rg_all z40158
      have K48 : ∀ (n : Nat) (z40161 : Int32) (z40163 : Int32) (z40164 : Int32) (F : Nat → va_E) (H : Heap) (locs : List Loc) (ls : Array Slot), (11 - z40163.toInt < (n : Int)) → (0 ≤ z40163.toInt ∧ z40163.toInt ≤ 11) → (0 ≤ z40164.toInt ∧ z40164.toInt ≤ 5) → (0 ≤ z40159.toInt ∧ z40159.toInt ≤ 3) → TH G ttC A s tag L F H locs → ((∀ b j : Nat, (tag b ≠ 46 ∨ j ≠ 22) → (tag b ≠ 46 ∨ j ≠ 23) → fld F b j = fld Fo b j) ∧ (∀ b j : Nat, elm F b j = elm Fo b j)) → (fld F p0 3 = .ref x0) → (elm F p1 p2.toNatClampNeg = z40164) → lv_has ls 8 [(0, .ref p0), (1, .ref p1), (2, .int p2), (3, .int z40157), (4, .int z40161), (5, .int z40159), (6, .int z40163)] → W p l e { frames := 4, cells := 0, slots := 0, locals := 98 } s m args below meth c H locs 0 0 Q (F0 m 48 ls []) := by
        intro n
        induction n with
        | zero =>
          intro z40161 z40163 z40164 F H locs ls hn rz40163 rz40164 r9s40162 hT hfr pf0 qz40164 hl
          have rz40161 := rg_all z40161
          exfalso
          omega
        | succ n ih48 =>
          intro z40161 z40163 z40164 F H locs ls hn rz40163 rz40164 r9s40162 hT hfr pf0 qz40164 hl
          have rz40161 := rg_all z40161
          have K180 : ∀ (z40165 : Int32) (z40167 : Int32) (F : Nat → va_E) (H : Heap) (locs : List Loc) (ls : Array Slot), (0 ≤ z40167.toInt ∧ z40167.toInt ≤ 5) → (0 ≤ z40163.toInt ∧ z40163.toInt ≤ 10) → TH G ttC A s tag L F H locs → ((∀ b j : Nat, (tag b ≠ 46 ∨ j ≠ 22) → (tag b ≠ 46 ∨ j ≠ 23) → fld F b j = fld Fo b j) ∧ (∀ b j : Nat, elm F b j = elm Fo b j)) → (fld F p0 3 = .ref x0) → (elm F p1 p2.toNatClampNeg = z40167) → lv_has ls 8 [(0, .ref p0), (1, .ref p1), (2, .int p2), (3, .int z40157), (4, .int z40165), (5, .int z40159), (6, .int z40163)] → W p l e { frames := 4, cells := 0, slots := 0, locals := 98 } s m args below meth c H locs 0 0 Q (F0 m 180 ls []) := by
            intro z40165 z40167 F H locs ls rz40167 r9s40166 hT hfr pf0 qz40167 hl
            have rz40165 := rg_all z40165
            obtain ⟨z40168, ez40168⟩ : ∃ y : Int32, y = z40163 + 1 := ⟨_, rfl⟩
            have hz40168 : z40168.toInt = z40163.toInt + 1 := ar_add ez40168 rfl (by decide : (1 : Int32).toInt = 1) (by omega) (by omega)
            refine lv_iinc (v := z40168) (lv' := [(6, .int z40168), (0, .ref p0), (1, .ref p1), (2, .int p2), (3, .int z40157), (4, .int z40165), (5, .int z40159)]) hx hb dX13_findsDoor_180 hl (k := 6) rfl (by rw [ez40168]; rfl) (by decide) rfl (fun ls hl => ?_)
            refine lv_goto (tgt := 48) hx hb dX13_findsDoor_183 (by decide) ?_
            exact ih48 z40165 z40168 z40167 _ _ _ _ (by omega) (by omega) (by omega) (by omega) hT hfr pf0 qz40167 (lv_sub hl [1, 2, 3, 4, 5, 6, 0] rfl)
          have K164 : ∀ (z40170 : Int32) (z40171 : Int32) (F : Nat → va_E) (H : Heap) (locs : List Loc) (ls : Array Slot), (0 ≤ z40171.toInt ∧ z40171.toInt ≤ 5) → (0 ≤ z40163.toInt ∧ z40163.toInt ≤ 10) → TH G ttC A s tag L F H locs → ((∀ b j : Nat, (tag b ≠ 46 ∨ j ≠ 22) → (tag b ≠ 46 ∨ j ≠ 23) → fld F b j = fld Fo b j) ∧ (∀ b j : Nat, elm F b j = elm Fo b j)) → (fld F p0 3 = .ref x0) → (elm F p1 p2.toNatClampNeg = z40171) → lv_has ls 8 [(0, .ref p0), (1, .ref p1), (2, .int p2), (3, .int z40157), (4, .int z40161), (5, .int z40159), (6, .int z40163), (7, .int z40170)] → W p l e { frames := 4, cells := 0, slots := 0, locals := 98 } s m args below meth c H locs 0 0 Q (F0 m 164 ls []) := by
            intro z40170 z40171 F H locs ls rz40171 r9s40169 hT hfr pf0 qz40171 hl
            have rz40170 := rg_all z40170
            refine lv_iload hx hb dX13_findsDoor_164 (lv_at hl 7 rfl) ?_
            refine lv_istore (lv' := [(4, .int z40170), (0, .ref p0), (1, .ref p1), (2, .int p2), (3, .int z40157), (5, .int z40159), (6, .int z40163), (7, .int z40170)]) hx hb dX13_findsDoor_166 hl (by decide) rfl (fun ls hl => ?_)
            refine lv_aload_n hx hb dX13_findsDoor_168 rfl (lv_at hl 1 rfl) ?_
            refine lv_iload hx hb dX13_findsDoor_169 (lv_at hl 5 rfl) ?_
            refine t_put (C := RX13) (T := TX13) (N := 37) (v := .int z40159) X hT m0 g0 rfl tyX13 tyX13_ok nmX13 rfl 22 (by decide) qw_932 inlX13 rfl (by first | rfl | decide) (by first | rfl | decide) rfl (⟨_, rfl, (show (-2147483648) ≤ (z40159 : Int32).toInt from (by omega)), (show (z40159 : Int32).toInt ≤ 2147483647 from (by omega))⟩) dX13_findsDoor_171 (fun F H locs hT v40172 h1v40172 h2v40172 => ?_)
            have qz40171 := (h2v40172 _ _).trans qz40171
            have pf0 := (h1v40172 _ _ (Or.inr (by decide))).trans pf0
            have hfr : (∀ b j : Nat, (tag b ≠ 46 ∨ j ≠ 22) → (tag b ≠ 46 ∨ j ≠ 23) → fld F b j = fld Fo b j) ∧ (∀ b j : Nat, elm F b j = elm Fo b j) := ⟨fun b j n46_22 n46_23 => (h1v40172 b j (fr_ne g0 n46_22)).trans (hfr.1 b j n46_22 n46_23), fun b j  => (h2v40172 b j).trans (hfr.2 b j )⟩
            refine lv_aload_n hx hb dX13_findsDoor_174 rfl (lv_at hl 1 rfl) ?_
            refine lv_iload hx hb dX13_findsDoor_175 (lv_at hl 6 rfl) ?_
            refine t_put (C := RX13) (T := TX13) (N := 37) (v := .int z40163) X hT m0 g0 rfl tyX13 tyX13_ok nmX13 rfl 23 (by decide) qw_933 inlX13 rfl (by first | rfl | decide) (by first | rfl | decide) rfl (⟨_, rfl, (show (-2147483648) ≤ (z40163 : Int32).toInt from (by omega)), (show (z40163 : Int32).toInt ≤ 2147483647 from (by omega))⟩) dX13_findsDoor_177 (fun F H locs hT v40173 h1v40173 h2v40173 => ?_)
            have qz40171 := (h2v40173 _ _).trans qz40171
            have pf0 := (h1v40173 _ _ (Or.inr (by decide))).trans pf0
            have v40172 := (h1v40173 _ _ (Or.inr (by decide))).trans v40172
            have hfr : (∀ b j : Nat, (tag b ≠ 46 ∨ j ≠ 22) → (tag b ≠ 46 ∨ j ≠ 23) → fld F b j = fld Fo b j) ∧ (∀ b j : Nat, elm F b j = elm Fo b j) := ⟨fun b j n46_22 n46_23 => (h1v40173 b j (fr_ne g0 n46_23)).trans (hfr.1 b j n46_22 n46_23), fun b j  => (h2v40173 b j).trans (hfr.2 b j )⟩
            exact K180 z40170 z40171 _ _ _ _ (by omega) (by omega) hT hfr pf0 qz40171 (lv_sub hl [1, 2, 3, 4, 0, 5, 6] rfl)
          have K125 : ∀ (z40175 : Int32) (z40176 : Int32) (F : Nat → va_E) (H : Heap) (locs : List Loc) (ls : Array Slot), (0 ≤ z40176.toInt ∧ z40176.toInt ≤ 5) → (0 ≤ z40163.toInt ∧ z40163.toInt ≤ 10) → TH G ttC A s tag L F H locs → ((∀ b j : Nat, (tag b ≠ 46 ∨ j ≠ 22) → (tag b ≠ 46 ∨ j ≠ 23) → fld F b j = fld Fo b j) ∧ (∀ b j : Nat, elm F b j = elm Fo b j)) → (fld F p0 3 = .ref x0) → (elm F p1 p2.toNatClampNeg = z40176) → lv_has ls 8 [(0, .ref p0), (1, .ref p1), (2, .int p2), (3, .int z40157), (4, .int z40161), (5, .int z40159), (6, .int z40163)] → W p l e { frames := 4, cells := 0, slots := 0, locals := 98 } s m args below meth c H locs 0 0 Q (F0 m 125 ls [.int z40175]) := by
            intro z40175 z40176 F H locs ls rz40176 r9s40174 hT hfr pf0 qz40176 hl
            have rz40175 := rg_all z40175
            refine lv_istore (lv' := [(7, .int z40175), (0, .ref p0), (1, .ref p1), (2, .int p2), (3, .int z40157), (4, .int z40161), (5, .int z40159), (6, .int z40163)]) hx hb dX13_findsDoor_125 hl (by decide) rfl (fun ls hl => ?_)
            refine lv_iload hx hb dX13_findsDoor_127 (lv_at hl 5 rfl) ?_
            refine lv_bipush (v := (-2)) hx hb dX13_findsDoor_129 (by decide) ?_
            refine lv_icmp_eq (tgt := 164) hx hb dX13_findsDoor_131 (by decide) (fun c40177 => ?_) (fun c40177 => ?_)
            · have w40178 := cv_eq (rfl : z40161.toInt = z40161.toInt) (by decide : ((-2) : Int32).toInt = (-2)) c40177
              exact K164 z40175 z40176 _ _ _ _ (by omega) (by omega) hT hfr pf0 qz40176 (lv_sub hl [1, 2, 3, 4, 5, 6, 7, 0] rfl)
            · have w40179 := cv_ne (rfl : z40161.toInt = z40161.toInt) (by decide : ((-2) : Int32).toInt = (-2)) c40177
              refine lv_aload_n hx hb dX13_findsDoor_134 rfl (lv_at hl 1 rfl) ?_
              refine t_get (C := RX13) (T := TX13) (N := 37) X hT m0 g0 rfl rfl 3 (by decide) qw_481 inlX13 rfl dX13_findsDoor_135 (fun v40180 hv40180 ov40180 => ?_)
              obtain rfl : v40180 = .ref x0 := hv40180.symm.trans pf0
              refine t_getN (C := RX12) (T := TX12) (N := 31) X hT mx0 gx0 rfl rfl 13 (by decide) (List.mem_of_getElem? (i := 17) rfl) inlX12 rfl dX13_findsDoor_138 (fun v40181 hv40181 ov40181 => ?_)
              obtain ⟨z40182, rfl, rz40182⟩ := okV_i ov40181
              refine lv_if_eq (tgt := 154) hx hb dX13_findsDoor_141 (by decide) (fun c40183 => ?_) (fun c40183 => ?_)
              · have w40184 := cv_eq (rfl : z40182.toInt = z40182.toInt) (by decide : (0 : Int32).toInt = 0) c40183
                refine lv_iload hx hb dX13_findsDoor_154 (lv_at hl 0 rfl) ?_
                refine lv_iload hx hb dX13_findsDoor_156 (lv_at hl 5 rfl) ?_
                refine lv_icmp_lt (tgt := 164) hx hb dX13_findsDoor_158 (by decide) (fun c40185 => ?_) (fun c40185 => ?_)
                · have w40186 := cv_lt (rfl : z40175.toInt = z40175.toInt) (rfl : z40161.toInt = z40161.toInt) c40185
                  exact K164 z40175 z40176 _ _ _ _ (by omega) (by omega) hT hfr pf0 qz40176 (lv_sub hl [1, 2, 3, 4, 5, 6, 7, 0] rfl)
                · have w40187 := cv_nlt (rfl : z40175.toInt = z40175.toInt) (rfl : z40161.toInt = z40161.toInt) c40185
                  refine lv_goto (tgt := 180) hx hb dX13_findsDoor_161 (by decide) ?_
                  exact K180 z40161 z40176 _ _ _ _ (by omega) (by omega) hT hfr pf0 qz40176 (lv_sub hl [1, 2, 3, 4, 5, 6, 7] rfl)
              · have w40188 := cv_ne (rfl : z40182.toInt = z40182.toInt) (by decide : (0 : Int32).toInt = 0) c40183
                refine lv_iload hx hb dX13_findsDoor_144 (lv_at hl 0 rfl) ?_
                refine lv_iload hx hb dX13_findsDoor_146 (lv_at hl 5 rfl) ?_
                refine lv_icmp_gt (tgt := 164) hx hb dX13_findsDoor_148 (by decide) (fun c40189 => ?_) (fun c40189 => ?_)
                · have w40190 := cv_lt (rfl : z40161.toInt = z40161.toInt) (rfl : z40175.toInt = z40175.toInt) c40189
                  exact K164 z40175 z40176 _ _ _ _ (by omega) (by omega) hT hfr pf0 qz40176 (lv_sub hl [1, 2, 3, 4, 5, 6, 7, 0] rfl)
                · have w40191 := cv_nlt (rfl : z40161.toInt = z40161.toInt) (rfl : z40175.toInt = z40175.toInt) c40189
                  refine lv_goto (tgt := 180) hx hb dX13_findsDoor_151 (by decide) ?_
                  exact K180 z40161 z40176 _ _ _ _ (by omega) (by omega) hT hfr pf0 qz40176 (lv_sub hl [1, 2, 3, 4, 5, 6, 7] rfl)
          refine lv_iload hx hb dX13_findsDoor_48 (lv_at hl 6 rfl) ?_
          refine lv_iconst (v := 2) hx hb dX13_findsDoor_50 (by decide) ?_
          refine lv_iload_n hx hb dX13_findsDoor_51 rfl (lv_at hl 3 rfl) ?_
          refine lv_imul hx hb dX13_findsDoor_52 ?_
          refine lv_topi (fun z40192 ez40192 => ?_)
          have hz40192 : z40192.toInt = 2 * z40157.toInt := ar_mul ez40192 (by decide : (2 : Int32).toInt = 2) (rfl : z40157.toInt = z40157.toInt) (by omega) (by omega)
          have rz40192 : 2 ≤ z40192.toInt ∧ z40192.toInt ≤ 12 := by omega
          refine lv_iconst (v := 1) hx hb dX13_findsDoor_53 (by decide) ?_
          refine lv_isub hx hb dX13_findsDoor_54 ?_
          refine lv_topi (fun z40193 ez40193 => ?_)
          have hz40193 : z40193.toInt = z40192.toInt - 1 := ar_sub ez40193 (rfl : z40192.toInt = z40192.toInt) (by decide : (1 : Int32).toInt = 1) (by omega) (by omega)
          have rz40193 : 1 ≤ z40193.toInt ∧ z40193.toInt ≤ 11 := by omega
          refine lv_icmp_ge (tgt := 186) hx hb dX13_findsDoor_55 (by decide) (fun c40194 => ?_) (fun c40194 => ?_)
          · have w40195 := cv_le (rfl : z40193.toInt = z40193.toInt) (rfl : z40163.toInt = z40163.toInt) c40194
            obtain ⟨z40196, ez40196⟩ : ∃ y : Int32, y = z40159 + 1 := ⟨_, rfl⟩
            have hz40196 : z40196.toInt = z40159.toInt + 1 := ar_add ez40196 rfl (by decide : (1 : Int32).toInt = 1) (by omega) (by omega)
            refine lv_iinc (v := z40196) (lv' := [(5, .int z40196), (0, .ref p0), (1, .ref p1), (2, .int p2), (3, .int z40157), (4, .int z40161), (6, .int z40163)]) hx hb dX13_findsDoor_186 hl (k := 5) rfl (by rw [ez40196]; rfl) (by decide) rfl (fun ls hl => ?_)
            refine lv_goto (tgt := 39) hx hb dX13_findsDoor_189 (by decide) ?_
            exact ih39 z40157 z40161 z40196 z40164 _ _ _ _ (by omega) (by omega) (by omega) (by omega) hT hfr pf0 qz40164 (lv_sub hl [1, 2, 3, 4, 5, 0] rfl)
          · have w40197 := cv_nle (rfl : z40193.toInt = z40193.toInt) (rfl : z40163.toInt = z40163.toInt) c40194
            refine lv_aload_n hx hb dX13_findsDoor_58 rfl (lv_at hl 0 rfl) ?_
            refine t_get (C := RX13) (T := TX13) (N := 37) X hT m0 g0 rfl rfl 3 (by decide) qw_481 inlX13 rfl dX13_findsDoor_59 (fun v40198 hv40198 ov40198 => ?_)
            obtain rfl : v40198 = .ref x0 := hv40198.symm.trans pf0
            refine lv_aload_n hx hb dX13_findsDoor_62 rfl (lv_at hl 1 rfl) ?_
            refine lv_iload_n hx hb dX13_findsDoor_63 rfl (lv_at hl 2 rfl) ?_
            refine lv_iload_n hx hb dX13_findsDoor_64 rfl (lv_at hl 3 rfl) ?_
            refine lv_iload hx hb dX13_findsDoor_65 (lv_at hl 5 rfl) ?_
            refine lv_iload hx hb dX13_findsDoor_67 (lv_at hl 6 rfl) ?_
            refine t_cSi (n := 6) (As := [.ref x0, .ref p1, .int p2, .int z40157, .int z40159, .int z40163]) (rest := []) X hT (km113_X13_isFree l G tag L F hT.2.2.2 x0 p1 p2 z40157 z40159 z40163 mx0 gx0 m1 g1 (by omega)) qw_804 qw_805 qw_5 qw_806 ⟨by decide +kernel, by decide +kernel, by decide +kernel⟩ ⟨Nat.le_of_ble_eq_true rfl, Nat.le_of_ble_eq_true rfl⟩ hl rfl rfl (Nat.le_of_ble_eq_true rfl) dX13_findsDoor_69 ⟨Nat.le_of_ble_eq_true rfl, Nat.le_of_ble_eq_true rfl⟩ (fun z40199 F9 H locs hT hz40199 => ?_)
            obtain ⟨fz40199, hz40199⟩ := hz40199
            rw [fz40199] at hT
            refine lv_if_ne (tgt := 78) hx hb dX13_findsDoor_72 (by decide) (fun c40200 => ?_) (fun c40200 => ?_)
            · have w40201 := cv_ne (rfl : z40199.toInt = z40199.toInt) (by decide : (0 : Int32).toInt = 0) c40200
              refine lv_iload_n hx hb dX13_findsDoor_78 rfl (lv_at hl 3 rfl) ?_
              refine lv_iconst (v := 1) hx hb dX13_findsDoor_79 (by decide) ?_
              refine lv_icmp_ne (tgt := 87) hx hb dX13_findsDoor_80 (by decide) (fun c40202 => ?_) (fun c40202 => ?_)
              · have w40203 := cv_ne (rfl : z40157.toInt = z40157.toInt) (by decide : (1 : Int32).toInt = 1) c40202
                refine lv_iload_n hx hb dX13_findsDoor_87 rfl (lv_at hl 3 rfl) ?_
                refine lv_iload_n hx hb dX13_findsDoor_88 rfl (lv_at hl 3 rfl) ?_
                refine lv_iload hx hb dX13_findsDoor_89 (lv_at hl 5 rfl) ?_
                refine lv_iload hx hb dX13_findsDoor_91 (lv_at hl 6 rfl) ?_
                refine t_cSi (n := 3) (As := [.int z40157, .int z40159, .int z40163]) (rest := [.int z40157]) X hT (km143_X13_doorPlace l G tag L F hT.2.2.2 z40157 z40159 z40163 ) qw_938 qw_939 qw_5 qw_940 ⟨by decide +kernel, by decide +kernel, by decide +kernel⟩ ⟨Nat.le_of_ble_eq_true rfl, Nat.le_of_ble_eq_true rfl⟩ hl rfl rfl (Nat.le_of_ble_eq_true rfl) dX13_findsDoor_93 ⟨Nat.le_of_ble_eq_true rfl, Nat.le_of_ble_eq_true rfl⟩ (fun z40204 F9 H locs hT hz40204 => ?_)
                obtain ⟨fz40204, hz40204⟩ := hz40204
                rw [fz40204] at hT
                refine lv_iload_n hx hb dX13_findsDoor_96 rfl (lv_at hl 3 rfl) ?_
                refine lv_iconst (v := 1) hx hb dX13_findsDoor_97 (by decide) ?_
                refine lv_isub hx hb dX13_findsDoor_98 ?_
                refine lv_topi (fun z40205 ez40205 => ?_)
                have hz40205 : z40205.toInt = z40157.toInt - 1 := ar_sub ez40205 (rfl : z40157.toInt = z40157.toInt) (by decide : (1 : Int32).toInt = 1) (by omega) (by omega)
                have rz40205 : 1 ≤ z40205.toInt ∧ z40205.toInt ≤ 5 := by omega
                refine lv_aload_n hx hb dX13_findsDoor_99 rfl (lv_at hl 1 rfl) ?_
                refine lv_iload_n hx hb dX13_findsDoor_100 rfl (lv_at hl 2 rfl) ?_
                refine lv_iload_n hx hb dX13_findsDoor_101 rfl (lv_at hl 3 rfl) ?_
                refine lv_iconst (v := 1) hx hb dX13_findsDoor_102 (by decide) ?_
                refine lv_isub hx hb dX13_findsDoor_103 ?_
                refine lv_topi (fun z40206 ez40206 => ?_)
                have hz40206 : z40206.toInt = z40157.toInt - 1 := ar_sub ez40206 (rfl : z40157.toInt = z40157.toInt) (by decide : (1 : Int32).toInt = 1) (by omega) (by omega)
                have rz40206 : 1 ≤ z40206.toInt ∧ z40206.toInt ≤ 5 := by omega
                refine lv_iconst (v := 1) hx hb dX13_findsDoor_104 (by decide) ?_
                refine t_cSi (n := 3) (As := [.int p2, .int z40206, .int 1]) (rest := [.ref p1, .int z40205, .int z40204, .int z40157]) X hT (km49_X13_part l G tag L F hT.2.2.2 p2 z40206 1 (by omega) (by omega) (by decide)) qw_661 qw_662 qw_5 qw_663 ⟨by decide +kernel, by decide +kernel, by decide +kernel⟩ ⟨Nat.le_of_ble_eq_true rfl, Nat.le_of_ble_eq_true rfl⟩ hl rfl rfl (Nat.le_of_ble_eq_true rfl) dX13_findsDoor_105 ⟨Nat.le_of_ble_eq_true rfl, Nat.le_of_ble_eq_true rfl⟩ (fun z40207 F9 H locs hT hz40207 => ?_)
                obtain ⟨fz40207, hz40207, xz40207_0⟩ := hz40207
                rw [fz40207] at hT
                have k40208 : (1 : Int32).toInt = 1 := by decide
                refine t_ild X hT m1 g1 rfl (by omega) dX13_findsDoor_108 (fun z40209 vz40209 rz40209 => ?_)
                have oz40209 := rz40209
                have rz40209 := rg_all z40209
                refine lv_aload_n hx hb dX13_findsDoor_109 rfl (lv_at hl 1 rfl) ?_
                refine lv_iload_n hx hb dX13_findsDoor_110 rfl (lv_at hl 2 rfl) ?_
                refine lv_iload_n hx hb dX13_findsDoor_111 rfl (lv_at hl 3 rfl) ?_
                refine lv_iconst (v := 1) hx hb dX13_findsDoor_112 (by decide) ?_
                refine lv_isub hx hb dX13_findsDoor_113 ?_
                refine lv_topi (fun z40210 ez40210 => ?_)
                have hz40210 : z40210.toInt = z40157.toInt - 1 := ar_sub ez40210 (rfl : z40157.toInt = z40157.toInt) (by decide : (1 : Int32).toInt = 1) (by omega) (by omega)
                have rz40210 : 1 ≤ z40210.toInt ∧ z40210.toInt ≤ 5 := by omega
                refine lv_iconst (v := 2) hx hb dX13_findsDoor_114 (by decide) ?_
                refine t_cSi (n := 3) (As := [.int p2, .int z40210, .int 2]) (rest := [.ref p1, .int z40209, .int z40205, .int z40204, .int z40157]) X hT (km49_X13_part l G tag L F hT.2.2.2 p2 z40210 2 (by omega) (by omega) (by decide)) qw_661 qw_662 qw_5 qw_663 ⟨by decide +kernel, by decide +kernel, by decide +kernel⟩ ⟨Nat.le_of_ble_eq_true rfl, Nat.le_of_ble_eq_true rfl⟩ hl rfl rfl (Nat.le_of_ble_eq_true rfl) dX13_findsDoor_115 ⟨Nat.le_of_ble_eq_true rfl, Nat.le_of_ble_eq_true rfl⟩ (fun z40211 F9 H locs hT hz40211 => ?_)
                obtain ⟨fz40211, hz40211, xz40211_0⟩ := hz40211
                rw [fz40211] at hT
                have k40212 : (2 : Int32).toInt = 2 := by decide
                refine t_ild X hT m1 g1 rfl (by omega) dX13_findsDoor_118 (fun z40213 vz40213 rz40213 => ?_)
                have oz40213 := rz40213
                have rz40213 := rg_all z40213
                refine t_cSi (n := 3) (As := [.int z40205, .int z40209, .int z40213]) (rest := [.int z40204, .int z40157]) X hT (km144_X13_frontPlace l G tag L F hT.2.2.2 z40205 z40209 z40213 ) qw_944 qw_945 qw_5 qw_946 ⟨by decide +kernel, by decide +kernel, by decide +kernel⟩ ⟨Nat.le_of_ble_eq_true rfl, Nat.le_of_ble_eq_true rfl⟩ hl rfl rfl (Nat.le_of_ble_eq_true rfl) dX13_findsDoor_119 ⟨Nat.le_of_ble_eq_true rfl, Nat.le_of_ble_eq_true rfl⟩ (fun z40214 F9 H locs hT hz40214 => ?_)
                obtain ⟨fz40214, hz40214⟩ := hz40214
                rw [fz40214] at hT
                refine t_cSi (n := 3) (As := [.int z40157, .int z40204, .int z40214]) (rest := []) X hT (km145_X13_roundOf l G tag L F hT.2.2.2 z40157 z40204 z40214 ) qw_947 qw_948 qw_5 qw_949 ⟨by decide +kernel, by decide +kernel, by decide +kernel⟩ ⟨Nat.le_of_ble_eq_true rfl, Nat.le_of_ble_eq_true rfl⟩ hl rfl rfl (Nat.le_of_ble_eq_true rfl) dX13_findsDoor_122 ⟨Nat.le_of_ble_eq_true rfl, Nat.le_of_ble_eq_true rfl⟩ (fun z40215 F9 H locs hT hz40215 => ?_)
                obtain ⟨fz40215, hz40215⟩ := hz40215
                rw [fz40215] at hT
                exact K125 z40215 z40164 _ _ _ _ (by omega) (by omega) hT hfr pf0 qz40164 (lv_sub hl [0, 1, 2, 3, 4, 5, 6] rfl)
              · have w40216 := cv_eq (rfl : z40157.toInt = z40157.toInt) (by decide : (1 : Int32).toInt = 1) c40202
                refine lv_iconst (v := 0) hx hb dX13_findsDoor_83 (by decide) ?_
                refine lv_goto (tgt := 125) hx hb dX13_findsDoor_84 (by decide) ?_
                have k40217 : (0 : Int32).toInt = 0 := by decide
                exact K125 0 z40164 _ _ _ _ (by omega) (by omega) hT hfr pf0 qz40164 (lv_sub hl [0, 1, 2, 3, 4, 5, 6] rfl)
            · have w40218 := cv_eq (rfl : z40199.toInt = z40199.toInt) (by decide : (0 : Int32).toInt = 0) c40200
              refine lv_goto (tgt := 180) hx hb dX13_findsDoor_75 (by decide) ?_
              exact K180 z40161 z40164 _ _ _ _ (by omega) (by omega) hT hfr pf0 qz40164 (lv_sub hl [0, 1, 2, 3, 4, 5, 6] rfl)
      refine lv_iload hx hb dX13_findsDoor_39 (lv_at hl 5 rfl) ?_
      refine lv_iconst (v := 4) hx hb dX13_findsDoor_41 (by decide) ?_
      refine lv_icmp_ge (tgt := 192) hx hb dX13_findsDoor_42 (by decide) (fun c40219 => ?_) (fun c40219 => ?_)
      · have w40220 := cv_le (by decide : (4 : Int32).toInt = 4) (rfl : z40159.toInt = z40159.toInt) c40219
        refine lv_iload hx hb dX13_findsDoor_192 (lv_at hl 4 rfl) ?_
        refine lv_bipush (v := (-2)) hx hb dX13_findsDoor_194 (by decide) ?_
        refine lv_icmp_eq (tgt := 203) hx hb dX13_findsDoor_196 (by decide) (fun c40221 => ?_) (fun c40221 => ?_)
        · have w40222 := cv_eq (rfl : z40158.toInt = z40158.toInt) (by decide : ((-2) : Int32).toInt = (-2)) c40221
          refine lv_iconst (v := 0) hx hb dX13_findsDoor_203 (by decide) ?_
          have k40223 : (0 : Int32).toInt = 0 := by decide
          exact t_zret hQ X hT (by decide) (⟨(by decide), hfr, (by omega)⟩) (Nat.le_of_ble_eq_true rfl) (Nat.le_of_ble_eq_true rfl) dX13_findsDoor_204
        · have w40224 := cv_ne (rfl : z40158.toInt = z40158.toInt) (by decide : ((-2) : Int32).toInt = (-2)) c40221
          refine lv_iconst (v := 1) hx hb dX13_findsDoor_199 (by decide) ?_
          refine lv_goto (tgt := 204) hx hb dX13_findsDoor_200 (by decide) ?_
          have k40225 : (1 : Int32).toInt = 1 := by decide
          exact t_zret hQ X hT (by decide) (⟨(by decide), hfr, (by omega)⟩) (Nat.le_of_ble_eq_true rfl) (Nat.le_of_ble_eq_true rfl) dX13_findsDoor_204
      · have w40226 := cv_nle (by decide : (4 : Int32).toInt = 4) (rfl : z40159.toInt = z40159.toInt) c40219
        refine lv_iconst (v := 0) hx hb dX13_findsDoor_45 (by decide) ?_
        refine lv_istore (lv' := [(6, .int 0), (0, .ref p0), (1, .ref p1), (2, .int p2), (3, .int z40157), (4, .int z40158), (5, .int z40159)]) hx hb dX13_findsDoor_46 hl (by decide) rfl (fun ls hl => ?_)
        have k40227 : (0 : Int32).toInt = 0 := by decide
        exact K48 12 z40158 0 z40160 _ _ _ _ (by omega) (by decide) (by omega) (by omega) hT hfr pf0 qz40160 (lv_sub hl [1, 2, 3, 4, 5, 6, 0] rfl)
  refine lv_aload_n hx hb dX13_findsDoor_0 rfl (lv_at hl 1 rfl) ?_
  refine lv_iconst (v := 0) hx hb dX13_findsDoor_1 (by decide) ?_
  refine lv_iload_n hx hb dX13_findsDoor_2 rfl (lv_at hl 2 rfl) ?_
  refine lv_iadd hx hb dX13_findsDoor_3 ?_
  refine lv_topi (fun z40228 ez40228 => ?_)
  obtain rfl : p2 = z40228 := (ar_zadd ez40228).symm
  refine t_ild X hT m1 g1 rfl (by omega) dX13_findsDoor_4 (fun z40229 vz40229 rz40229 => ?_)
  obtain rfl : x1 = z40229 := pf1.symm.trans vz40229
  refine lv_bipush (v := 6) hx hb dX13_findsDoor_5 (by decide) ?_
  refine lv_icmp_eq (tgt := 22) hx hb dX13_findsDoor_7 (by decide) (fun c40230 => ?_) (fun c40230 => ?_)
  · have w40231 := cv_eq (rfl : x1.toInt = x1.toInt) (by decide : (6 : Int32).toInt = 6) c40230
    refine lv_iconst (v := 0) hx hb dX13_findsDoor_22 (by decide) ?_
    have k40232 : (0 : Int32).toInt = 0 := by decide
    exact t_zret hQ X hT (by decide) (⟨(by decide), hfr, (by omega)⟩) (Nat.le_of_ble_eq_true rfl) (Nat.le_of_ble_eq_true rfl) dX13_findsDoor_23
  · have w40233 := cv_ne (rfl : x1.toInt = x1.toInt) (by decide : (6 : Int32).toInt = 6) c40230
    refine lv_aload_n hx hb dX13_findsDoor_10 rfl (lv_at hl 0 rfl) ?_
    refine t_get (C := RX13) (T := TX13) (N := 37) X hT m0 g0 rfl rfl 3 (by decide) qw_481 inlX13 rfl dX13_findsDoor_11 (fun v40234 hv40234 ov40234 => ?_)
    obtain rfl : v40234 = .ref x0 := hv40234.symm.trans pf0
    refine lv_aload_n hx hb dX13_findsDoor_14 rfl (lv_at hl 1 rfl) ?_
    refine lv_iload_n hx hb dX13_findsDoor_15 rfl (lv_at hl 2 rfl) ?_
    refine t_cSi (n := 3) (As := [.ref x0, .ref p1, .int p2]) (rest := []) X hT (km138_X13_fitsIn l G tag L F hT.2.2.2 x0 p1 p2 mx0 gx0 m1 g1 (by omega)) qw_644 qw_645 qw_5 qw_646 ⟨by decide +kernel, by decide +kernel, by decide +kernel⟩ ⟨Nat.le_of_ble_eq_true rfl, Nat.le_of_ble_eq_true rfl⟩ hl rfl rfl (Nat.le_of_ble_eq_true rfl) dX13_findsDoor_16 ⟨Nat.le_of_ble_eq_true rfl, Nat.le_of_ble_eq_true rfl⟩ (fun z40235 F9 H locs hT hz40235 => ?_)
    obtain ⟨fz40235, hz40235⟩ := hz40235
    rw [fz40235] at hT
    refine lv_if_ne (tgt := 24) hx hb dX13_findsDoor_19 (by decide) (fun c40236 => ?_) (fun c40236 => ?_)
    · have w40237 := cv_ne (rfl : z40235.toInt = z40235.toInt) (by decide : (0 : Int32).toInt = 0) c40236
      refine lv_aload_n hx hb dX13_findsDoor_24 rfl (lv_at hl 1 rfl) ?_
      refine lv_iconst (v := 0) hx hb dX13_findsDoor_25 (by decide) ?_
      refine lv_iload_n hx hb dX13_findsDoor_26 rfl (lv_at hl 2 rfl) ?_
      refine lv_iadd hx hb dX13_findsDoor_27 ?_
      refine lv_topi (fun z40238 ez40238 => ?_)
      obtain rfl : p2 = z40238 := (ar_zadd ez40238).symm
      refine t_ild X hT m1 g1 rfl (by omega) dX13_findsDoor_28 (fun z40239 vz40239 rz40239 => ?_)
      obtain rfl : x1 = z40239 := pf1.symm.trans vz40239
      refine lv_iconst (v := 1) hx hb dX13_findsDoor_29 (by decide) ?_
      refine lv_iadd hx hb dX13_findsDoor_30 ?_
      refine lv_topi (fun z40240 ez40240 => ?_)
      have hz40240 : z40240.toInt = x1.toInt + 1 := ar_add ez40240 (rfl : x1.toInt = x1.toInt) (by decide : (1 : Int32).toInt = 1) (by omega) (by omega)
      have rz40240 : 1 ≤ z40240.toInt ∧ z40240.toInt ≤ 6 := by omega
      refine lv_istore_n (lv' := [(3, .int z40240), (0, .ref p0), (1, .ref p1), (2, .int p2)]) hx hb dX13_findsDoor_31 rfl hl (by decide) rfl (fun ls hl => ?_)
      refine lv_bipush (v := (-2)) hx hb dX13_findsDoor_32 (by decide) ?_
      refine lv_istore (lv' := [(4, .int (-2)), (3, .int z40240), (0, .ref p0), (1, .ref p1), (2, .int p2)]) hx hb dX13_findsDoor_34 hl (by decide) rfl (fun ls hl => ?_)
      refine lv_iconst (v := 0) hx hb dX13_findsDoor_36 (by decide) ?_
      refine lv_istore (lv' := [(5, .int 0), (4, .int (-2)), (3, .int z40240), (0, .ref p0), (1, .ref p1), (2, .int p2)]) hx hb dX13_findsDoor_37 hl (by decide) rfl (fun ls hl => ?_)
      have k40241 : ((-2) : Int32).toInt = (-2) := by decide
      have k40242 : (0 : Int32).toInt = 0 := by decide
      exact K39 5 z40240 (-2) 0 x1 _ _ _ _ (by omega) (by omega) (by decide) (by omega) hT hfr pf0 pf1 (lv_sub hl [3, 4, 5, 2, 1, 0] rfl)
    · have w40243 := cv_eq (rfl : z40235.toInt = z40235.toInt) (by decide : (0 : Int32).toInt = 0) c40236
      refine lv_iconst (v := 0) hx hb dX13_findsDoor_22 (by decide) ?_
      have k40244 : (0 : Int32).toInt = 0 := by decide
      exact t_zret hQ X hT (by decide) (⟨(by decide), hfr, (by omega)⟩) (Nat.le_of_ble_eq_true rfl) (Nat.le_of_ble_eq_true rfl) dX13_findsDoor_23
set_option maxHeartbeats 4000000 in
set_option maxRecDepth 100000 in
theorem km147_X13_door (l : Launch) (G : KG) (tag : Nat → Nat) (L : List Nat) (Fo : Nat → va_E) (ho : okT G ttC tag L Fo) (p0 : Nat) (p1 : Int32) (x0 : Nat) (m0 : p0 ∈ L) (g0 : tag p0 = 46) (mx0 : x0 ∈ L) (gx0 : tag x0 = 45) (pf0 : fld Fo p0 3 = .ref x0) : TMi l yX13_door cX13_door 2 (some .int) { frames := 5, cells := 0, slots := 0, locals := 125 } G ttC tag L Fo [.ref p0, .int p1] (fun r F1 => ((-2147483648) ≤ r.toInt ∧ r.toInt ≤ 2147483647) ∧ ((∀ b j : Nat, (tag b ≠ 46 ∨ j ≠ 0) → (tag b ≠ 46 ∨ j ≠ 1) → (tag b ≠ 46 ∨ j ≠ 2) → (tag b ≠ 46 ∨ j ≠ 22) → (tag b ≠ 46 ∨ j ≠ 23) → fld F1 b j = fld Fo b j) ∧ (∀ b j : Nat, elm F1 b j = elm Fo b j))) := by
  refine t_bodyi (y := yX13_door) (cd := cX13_door) (mL := 2) (rt := (some .int)) (rm := { frames := 5, cells := 0, slots := 0, locals := 125 }) (av := [.ref p0, .int p1]) (by decide) (Nat.le_of_ble_eq_true rfl) ho ?_
  intro p e s m args below meth c ls A Q hQ X hT hl
  have hx := X.1.1
  have hb := X.1.2.1
  have hl : lv_has ls 2 [(0, .ref p0), (1, .int p1)] := hl
  have rp1 := rg_all p1
  obtain ⟨F, hFo⟩ : ∃ F : Nat → va_E, F = Fo := ⟨_, rfl⟩
  rw [← hFo] at hT pf0
  have hfr : (∀ b j : Nat, (tag b ≠ 46 ∨ j ≠ 0) → (tag b ≠ 46 ∨ j ≠ 1) → (tag b ≠ 46 ∨ j ≠ 2) → (tag b ≠ 46 ∨ j ≠ 22) → (tag b ≠ 46 ∨ j ≠ 23) → fld F b j = fld Fo b j) ∧ (∀ b j : Nat, elm F b j = elm Fo b j) := by
    rw [hFo]
    exact ⟨by intros; rfl, by intros; rfl⟩
  have K49 : ∀ (z40481 : Int32) (z40482 : Int32) (F : Nat → va_E) (H : Heap) (locs : List Loc) (ls : Array Slot), (0 ≤ z40482.toInt ∧ z40482.toInt ≤ 0) → (0 ≤ p1.toInt ∧ p1.toInt ≤ 3) → TH G ttC A s tag L F H locs → ((∀ b j : Nat, (tag b ≠ 46 ∨ j ≠ 0) → (tag b ≠ 46 ∨ j ≠ 1) → (tag b ≠ 46 ∨ j ≠ 2) → (tag b ≠ 46 ∨ j ≠ 22) → (tag b ≠ 46 ∨ j ≠ 23) → fld F b j = fld Fo b j) ∧ (∀ b j : Nat, elm F b j = elm Fo b j)) → (fld F p0 3 = .ref x0) → (fld F p0 0 = .int z40482) → lv_has ls 2 [(0, .ref p0), (1, .int p1)] → W p l e { frames := 5, cells := 0, slots := 0, locals := 125 } s m args below meth c H locs 0 0 Q (F0 m 49 ls [.int z40481, .ref p0]) := by
    intro z40481 z40482 F H locs ls rz40482 r9s40480 hT hfr pf0 qz40482 hl
    have rz40481 := rg_all z40481
    refine t_cVi (n := 1) (C := RX13) (T := TX13) (N := 37) (As := [.int z40481]) (rest := []) X hT (km93_X13_good l G tag L F hT.2.2.2 p0 z40481 m0 g0) m0 g0 rfl rfl qw_687 qw_688 qw_689 qw_5 qw_690 ⟨rfl, by decide +kernel, by decide +kernel, by decide +kernel⟩ ⟨Nat.le_of_ble_eq_true rfl, Nat.le_of_ble_eq_true rfl⟩ hl rfl rfl (Nat.le_of_ble_eq_true rfl) dX13_door_49 ⟨Nat.le_of_ble_eq_true rfl, Nat.le_of_ble_eq_true rfl⟩ (fun z40483 F H locs hT hz40483 => ?_)
    obtain ⟨hz40483, yz40483⟩ := hz40483
    have qz40482 := (yz40483.1 _ 0 (Or.inr (by decide)) (Or.inr (by decide))).trans qz40482
    have pf0 := (yz40483.1 _ 3 (Or.inr (by decide)) (Or.inr (by decide))).trans pf0
    have hfr : (∀ b j : Nat, (tag b ≠ 46 ∨ j ≠ 0) → (tag b ≠ 46 ∨ j ≠ 1) → (tag b ≠ 46 ∨ j ≠ 2) → (tag b ≠ 46 ∨ j ≠ 22) → (tag b ≠ 46 ∨ j ≠ 23) → fld F b j = fld Fo b j) ∧ (∀ b j : Nat, elm F b j = elm Fo b j) := ⟨fun b j n46_0 n46_1 n46_2 n46_22 n46_23 => (yz40483.1 b j n46_1 n46_2).trans (hfr.1 b j n46_0 n46_1 n46_2 n46_22 n46_23), fun b j  => (yz40483.2 b j ).trans (hfr.2 b j )⟩
    exact t_iret hQ X hT (⟨rg_all _, hfr⟩) (Nat.le_of_ble_eq_true rfl) (Nat.le_of_ble_eq_true rfl) dX13_door_52
  refine lv_aload_n hx hb dX13_door_0 rfl (lv_at hl 0 rfl) ?_
  refine lv_iconst (v := 0) hx hb dX13_door_1 (by decide) ?_
  refine t_put (C := RX13) (T := TX13) (N := 37) (v := .int 0) X hT m0 g0 rfl tyX13 tyX13_ok nmX13 rfl 0 (by decide) qw_140 inlX13 rfl (by first | rfl | decide) (by first | rfl | decide) rfl (⟨_, rfl, (show (-2147483648) ≤ (0 : Int32).toInt from (by decide)), (show (0 : Int32).toInt ≤ 2147483647 from (by decide))⟩) dX13_door_2 (fun F H locs hT v40484 h1v40484 h2v40484 => ?_)
  have pf0 := (h1v40484 _ _ (Or.inr (by decide))).trans pf0
  have hfr : (∀ b j : Nat, (tag b ≠ 46 ∨ j ≠ 0) → (tag b ≠ 46 ∨ j ≠ 1) → (tag b ≠ 46 ∨ j ≠ 2) → (tag b ≠ 46 ∨ j ≠ 22) → (tag b ≠ 46 ∨ j ≠ 23) → fld F b j = fld Fo b j) ∧ (∀ b j : Nat, elm F b j = elm Fo b j) := ⟨fun b j n46_0 n46_1 n46_2 n46_22 n46_23 => (h1v40484 b j (fr_ne g0 n46_0)).trans (hfr.1 b j n46_0 n46_1 n46_2 n46_22 n46_23), fun b j  => (h2v40484 b j).trans (hfr.2 b j )⟩
  refine lv_aload_n hx hb dX13_door_5 rfl (lv_at hl 0 rfl) ?_
  refine lv_iload_n hx hb dX13_door_6 rfl (lv_at hl 1 rfl) ?_
  refine t_cVi (n := 1) (C := RX13) (T := TX13) (N := 37) (As := [.int p1]) (rest := []) X hT (km107_X13_isHouse l G tag L F hT.2.2.2 p0 p1 x0 m0 g0 mx0 gx0 pf0) m0 g0 rfl rfl qw_796 qw_797 qw_798 qw_5 qw_799 ⟨rfl, by decide +kernel, by decide +kernel, by decide +kernel⟩ ⟨Nat.le_of_ble_eq_true rfl, Nat.le_of_ble_eq_true rfl⟩ hl rfl rfl (Nat.le_of_ble_eq_true rfl) dX13_door_7 ⟨Nat.le_of_ble_eq_true rfl, Nat.le_of_ble_eq_true rfl⟩ (fun z40485 F9 H locs hT hz40485 => ?_)
  obtain ⟨fz40485, hz40485⟩ := hz40485
  rw [fz40485] at hT
  obtain ⟨hz40485, iz40485⟩ := hz40485
  refine lv_if_ne (tgt := 19) hx hb dX13_door_10 (by decide) (fun c40486 => ?_) (fun c40486 => ?_)
  · have w40487 := cv_ne (rfl : z40485.toInt = z40485.toInt) (by decide : (0 : Int32).toInt = 0) c40486
    have w40488 := (fun h => (iz40485 h)) (by omega)
    refine lv_aload_n hx hb dX13_door_19 rfl (lv_at hl 0 rfl) ?_
    refine lv_aload_n hx hb dX13_door_20 rfl (lv_at hl 0 rfl) ?_
    refine lv_aload_n hx hb dX13_door_21 rfl (lv_at hl 0 rfl) ?_
    refine t_get (C := RX13) (T := TX13) (N := 37) X hT m0 g0 rfl rfl 16 (by decide) qw_112 inlX13 rfl dX13_door_22 (fun v40489 hv40489 ov40489 => ?_)
    obtain ⟨b40490, rfl, mb40490, gb40490⟩ := okV_r ov40489
    have gb40490 : tag b40490 = 37 := tg_of gb40490
    refine lv_iload_n hx hb dX13_door_25 rfl (lv_at hl 1 rfl) ?_
    obtain ⟨z40491, qz40491, rz40491⟩ := t_elm hT mb40490 gb40490 rfl (i := p1) (by omega)
    have rz40491 := row_ml (by omega) rz40491
    have rz40491 : 0 ≤ z40491.toInt ∧ z40491.toInt ≤ 6 := rz40491
    refine t_cVi (n := 2) (C := RX13) (T := TX13) (N := 37) (As := [.ref b40490, .int p1]) (rest := [.ref p0]) X hT (km146_X13_findsDoor l G tag L F hT.2.2.2 p0 b40490 p1 x0 z40491 m0 g0 mb40490 gb40490 (by omega) mx0 gx0 pf0 (by omega) qz40491) m0 g0 rfl rfl qw_934 qw_935 qw_936 qw_5 qw_937 ⟨rfl, by decide +kernel, by decide +kernel, by decide +kernel⟩ ⟨Nat.le_of_ble_eq_true rfl, Nat.le_of_ble_eq_true rfl⟩ hl rfl rfl (Nat.le_of_ble_eq_true rfl) dX13_door_26 ⟨Nat.le_of_ble_eq_true rfl, Nat.le_of_ble_eq_true rfl⟩ (fun z40492 F H locs hT hz40492 => ?_)
    obtain ⟨hz40492, yz40492, xz40492_0⟩ := hz40492
    have pf0 := (yz40492.1 _ 3 (Or.inr (by decide)) (Or.inr (by decide))).trans pf0
    have v40484 := (yz40492.1 _ 0 (Or.inr (by decide)) (Or.inr (by decide))).trans v40484
    have hv40489 := (yz40492.1 _ 16 (Or.inr (by decide)) (Or.inr (by decide))).trans hv40489
    have qz40491 := (yz40492.2 _ _ ).trans qz40491
    have hfr : (∀ b j : Nat, (tag b ≠ 46 ∨ j ≠ 0) → (tag b ≠ 46 ∨ j ≠ 1) → (tag b ≠ 46 ∨ j ≠ 2) → (tag b ≠ 46 ∨ j ≠ 22) → (tag b ≠ 46 ∨ j ≠ 23) → fld F b j = fld Fo b j) ∧ (∀ b j : Nat, elm F b j = elm Fo b j) := ⟨fun b j n46_0 n46_1 n46_2 n46_22 n46_23 => (yz40492.1 b j n46_22 n46_23).trans (hfr.1 b j n46_0 n46_1 n46_2 n46_22 n46_23), fun b j  => (yz40492.2 b j ).trans (hfr.2 b j )⟩
    refine lv_if_eq (tgt := 47) hx hb dX13_door_29 (by decide) (fun c40493 => ?_) (fun c40493 => ?_)
    · have w40494 := cv_eq (rfl : z40492.toInt = z40492.toInt) (by decide : (0 : Int32).toInt = 0) c40493
      refine lv_bipush (v := (-2)) hx hb dX13_door_47 (by decide) ?_
      have k40495 : ((-2) : Int32).toInt = (-2) := by decide
      have k40496 : (0 : Int32).toInt = 0 := by decide
      exact K49 (-2) 0 _ _ _ _ (by decide) (by omega) hT hfr pf0 v40484 (lv_sub hl [0, 1] rfl)
    · have w40497 := cv_ne (rfl : z40492.toInt = z40492.toInt) (by decide : (0 : Int32).toInt = 0) c40493
      have w40498 := xz40492_0 (by omega)
      refine lv_bipush (v := 100) hx hb dX13_door_32 (by decide) ?_
      refine lv_aload_n hx hb dX13_door_34 rfl (lv_at hl 0 rfl) ?_
      refine t_get (C := RX13) (T := TX13) (N := 37) X hT m0 g0 rfl rfl 22 (by decide) qw_932 inlX13 rfl dX13_door_35 (fun v40499 hv40499 ov40499 => ?_)
      obtain ⟨z40500, rfl, rz40500⟩ := okV_i ov40499
      refine lv_imul hx hb dX13_door_38 ?_
      refine lv_topi (fun z40501 ez40501 => ?_)
      have rz40501 := rg_all z40501
      refine lv_aload_n hx hb dX13_door_39 rfl (lv_at hl 0 rfl) ?_
      refine t_get (C := RX13) (T := TX13) (N := 37) X hT m0 g0 rfl rfl 23 (by decide) qw_933 inlX13 rfl dX13_door_40 (fun v40502 hv40502 ov40502 => ?_)
      obtain ⟨z40503, rfl, rz40503⟩ := okV_i ov40502
      refine lv_iadd hx hb dX13_door_43 ?_
      refine lv_topi (fun z40504 ez40504 => ?_)
      have rz40504 := rg_all z40504
      refine lv_goto (tgt := 49) hx hb dX13_door_44 (by decide) ?_
      have k40505 : (0 : Int32).toInt = 0 := by decide
      exact K49 z40504 0 _ _ _ _ (by decide) (by omega) hT hfr pf0 v40484 (lv_sub hl [0, 1] rfl)
  · have w40506 := cv_eq (rfl : z40485.toInt = z40485.toInt) (by decide : (0 : Int32).toInt = 0) c40486
    refine lv_aload_n hx hb dX13_door_13 rfl (lv_at hl 0 rfl) ?_
    refine lv_iconst (v := 1) hx hb dX13_door_14 (by decide) ?_
    refine t_cVi (n := 1) (C := RX13) (T := TX13) (N := 37) (As := [.int 1]) (rest := []) X hT (km88_X13_refused l G tag L F hT.2.2.2 p0 1 m0 g0) m0 g0 rfl rfl qw_484 qw_485 qw_486 qw_5 qw_487 ⟨rfl, by decide +kernel, by decide +kernel, by decide +kernel⟩ ⟨Nat.le_of_ble_eq_true rfl, Nat.le_of_ble_eq_true rfl⟩ hl rfl rfl (Nat.le_of_ble_eq_true rfl) dX13_door_15 ⟨Nat.le_of_ble_eq_true rfl, Nat.le_of_ble_eq_true rfl⟩ (fun z40507 F H locs hT hz40507 => ?_)
    obtain ⟨hz40507, yz40507⟩ := hz40507
    have pf0 := (yz40507.1 _ 3 (Or.inr (by decide)) (Or.inr (by decide))).trans pf0
    have v40484 := (yz40507.1 _ 0 (Or.inr (by decide)) (Or.inr (by decide))).trans v40484
    have hfr : (∀ b j : Nat, (tag b ≠ 46 ∨ j ≠ 0) → (tag b ≠ 46 ∨ j ≠ 1) → (tag b ≠ 46 ∨ j ≠ 2) → (tag b ≠ 46 ∨ j ≠ 22) → (tag b ≠ 46 ∨ j ≠ 23) → fld F b j = fld Fo b j) ∧ (∀ b j : Nat, elm F b j = elm Fo b j) := ⟨fun b j n46_0 n46_1 n46_2 n46_22 n46_23 => (yz40507.1 b j n46_1 n46_2).trans (hfr.1 b j n46_0 n46_1 n46_2 n46_22 n46_23), fun b j  => (yz40507.2 b j ).trans (hfr.2 b j )⟩
    exact t_iret hQ X hT (⟨rg_all _, hfr⟩) (Nat.le_of_ble_eq_true rfl) (Nat.le_of_ble_eq_true rfl) dX13_door_18
