set_option maxHeartbeats 4000000 in
set_option maxRecDepth 100000 in
theorem km116_X13_isHouse (l : Launch) (G : KG) (tag : Nat → Nat) (L : List Nat) (F : Nat → va_E) (ho : okT G ttC tag L F) (p0 : Nat) (p1 : Int32) (m0 : p0 ∈ L) (g0 : tag p0 = 46) (pf0 : fld F p0 3 = .null) : TMi l yX13_isHouse cX13_isHouse 2 (some .boolean) { frames := 0, cells := 0, slots := 0, locals := 0 } G ttC tag L F [.ref p0, .int p1] (fun r F1 => F1 = F ∧ (0 ≤ r.toInt ∧ r.toInt ≤ 0)) := by
  refine t_bodyi (y := yX13_isHouse) (cd := cX13_isHouse) (mL := 2) (rt := (some .boolean)) (rm := { frames := 0, cells := 0, slots := 0, locals := 0 }) (av := [.ref p0, .int p1]) (by decide) (Nat.le_of_ble_eq_true rfl) ho ?_
  intro p e s m args below meth c ls A Q hQ X hT hl
  have hx := X.1.1
  have hb := X.1.2.1
  have hl : lv_has ls 2 [(0, .ref p0), (1, .int p1)] := hl
  have rp1 := rg_all p1
  refine lv_aload_n hx hb dX13_isHouse_0 rfl (lv_at hl 0 rfl) ?_
  refine t_get (C := RX13) (T := TX13) (N := 37) X hT m0 g0 rfl rfl 3 (by decide) qw_481 inlX13 rfl dX13_isHouse_1 (fun v34517 hv34517 ov34517 => ?_)
  obtain rfl : v34517 = .null := hv34517.symm.trans pf0
  refine lv_ifnullN (tgt := 26) hx hb dX13_isHouse_4 (by decide) ?_
  refine lv_iconst (v := 0) hx hb dX13_isHouse_26 (by decide) ?_
  have k34518 : (0 : Int32).toInt = 0 := by decide
  exact t_zret hQ X hT (by decide) (⟨rfl, (by decide)⟩) (Nat.le_of_ble_eq_true rfl) (Nat.le_of_ble_eq_true rfl) dX13_isHouse_27
set_option maxHeartbeats 4000000 in
set_option maxRecDepth 100000 in
theorem km117_X13_house (l : Launch) (G : KG) (tag : Nat → Nat) (L : List Nat) (Fo : Nat → va_E) (ho : okT G ttC tag L Fo) (p0 : Nat) (p1 : Int32) (p2 : Int32) (m0 : p0 ∈ L) (g0 : tag p0 = 46) (pf0 : fld Fo p0 3 = .null) : TMi l yX13_house cX13_house 3 (some .int) { frames := 5, cells := 0, slots := 0, locals := 121 } G ttC tag L Fo [.ref p0, .int p1, .int p2] (fun r F1 => ((-2147483648) ≤ r.toInt ∧ r.toInt ≤ 2147483647) ∧ ((∀ b j : Nat, (tag b ≠ 46 ∨ j ≠ 0) → (tag b ≠ 46 ∨ j ≠ 1) → (tag b ≠ 46 ∨ j ≠ 2) → fld F1 b j = fld Fo b j) ∧ (∀ b j : Nat, elm F1 b j = elm Fo b j))) := by
  refine t_bodyi (y := yX13_house) (cd := cX13_house) (mL := 3) (rt := (some .int)) (rm := { frames := 5, cells := 0, slots := 0, locals := 121 }) (av := [.ref p0, .int p1, .int p2]) (by decide) (Nat.le_of_ble_eq_true rfl) ho ?_
  intro p e s m args below meth c ls A Q hQ X hT hl
  have hx := X.1.1
  have hb := X.1.2.1
  have hl : lv_has ls 3 [(0, .ref p0), (1, .int p1), (2, .int p2)] := hl
  have rp1 := rg_all p1
  have rp2 := rg_all p2
  obtain ⟨F, hFo⟩ : ∃ F : Nat → va_E, F = Fo := ⟨_, rfl⟩
  rw [← hFo] at hT pf0
  have hfr : (∀ b j : Nat, (tag b ≠ 46 ∨ j ≠ 0) → (tag b ≠ 46 ∨ j ≠ 1) → (tag b ≠ 46 ∨ j ≠ 2) → fld F b j = fld Fo b j) ∧ (∀ b j : Nat, elm F b j = elm Fo b j) := by
    rw [hFo]
    exact ⟨by intros; rfl, by intros; rfl⟩
  refine lv_aload_n hx hb dX13_house_0 rfl (lv_at hl 0 rfl) ?_
  refine lv_iconst (v := 0) hx hb dX13_house_1 (by decide) ?_
  refine t_put (C := RX13) (T := TX13) (N := 37) (v := .int 0) X hT m0 g0 rfl tyX13 tyX13_ok nmX13 rfl 0 (by decide) qw_140 inlX13 rfl (by first | rfl | decide) (by first | rfl | decide) rfl (⟨_, rfl, (show (-2147483648) ≤ (0 : Int32).toInt from (by decide)), (show (0 : Int32).toInt ≤ 2147483647 from (by decide))⟩) dX13_house_2 (fun F H locs hT v34584 h1v34584 h2v34584 => ?_)
  have pf0 := (h1v34584 _ _ (Or.inr (by decide))).trans pf0
  have hfr : (∀ b j : Nat, (tag b ≠ 46 ∨ j ≠ 0) → (tag b ≠ 46 ∨ j ≠ 1) → (tag b ≠ 46 ∨ j ≠ 2) → fld F b j = fld Fo b j) ∧ (∀ b j : Nat, elm F b j = elm Fo b j) := ⟨fun b j n46_0 n46_1 n46_2 => (h1v34584 b j (fr_ne g0 n46_0)).trans (hfr.1 b j n46_0 n46_1 n46_2), fun b j  => (h2v34584 b j).trans (hfr.2 b j )⟩
  refine lv_aload_n hx hb dX13_house_5 rfl (lv_at hl 0 rfl) ?_
  refine lv_iload_n hx hb dX13_house_6 rfl (lv_at hl 1 rfl) ?_
  refine t_cVi (n := 1) (C := RX13) (T := TX13) (N := 37) (As := [.int p1]) (rest := []) X hT (km116_X13_isHouse l G tag L F hT.2.2.2 p0 p1 m0 g0 pf0) m0 g0 rfl rfl qw_796 qw_797 qw_798 qw_5 qw_799 ⟨rfl, by decide +kernel, by decide +kernel, by decide +kernel⟩ ⟨Nat.le_of_ble_eq_true rfl, Nat.le_of_ble_eq_true rfl⟩ hl rfl rfl (Nat.le_of_ble_eq_true rfl) dX13_house_7 ⟨Nat.le_of_ble_eq_true rfl, Nat.le_of_ble_eq_true rfl⟩ (fun z34585 F9 H locs hT hz34585 => ?_)
  obtain ⟨fz34585, hz34585⟩ := hz34585
  rw [fz34585] at hT
  refine lv_if_eq (tgt := 23) hx hb dX13_house_10 (by decide) (fun c34586 => ?_) (fun c34586 => ?_)
  · have w34587 := cv_eq (rfl : z34585.toInt = z34585.toInt) (by decide : (0 : Int32).toInt = 0) c34586
    refine lv_aload_n hx hb dX13_house_23 rfl (lv_at hl 0 rfl) ?_
    refine lv_iconst (v := 1) hx hb dX13_house_24 (by decide) ?_
    refine t_cVi (n := 1) (C := RX13) (T := TX13) (N := 37) (As := [.int 1]) (rest := []) X hT (km88_X13_refused l G tag L F hT.2.2.2 p0 1 m0 g0) m0 g0 rfl rfl qw_484 qw_485 qw_486 qw_5 qw_487 ⟨rfl, by decide +kernel, by decide +kernel, by decide +kernel⟩ ⟨Nat.le_of_ble_eq_true rfl, Nat.le_of_ble_eq_true rfl⟩ hl rfl rfl (Nat.le_of_ble_eq_true rfl) dX13_house_25 ⟨Nat.le_of_ble_eq_true rfl, Nat.le_of_ble_eq_true rfl⟩ (fun z34588 F H locs hT hz34588 => ?_)
    obtain ⟨hz34588, yz34588⟩ := hz34588
    have pf0 := (yz34588.1 _ 3 (Or.inr (by decide)) (Or.inr (by decide))).trans pf0
    have v34584 := (yz34588.1 _ 0 (Or.inr (by decide)) (Or.inr (by decide))).trans v34584
    have hfr : (∀ b j : Nat, (tag b ≠ 46 ∨ j ≠ 0) → (tag b ≠ 46 ∨ j ≠ 1) → (tag b ≠ 46 ∨ j ≠ 2) → fld F b j = fld Fo b j) ∧ (∀ b j : Nat, elm F b j = elm Fo b j) := ⟨fun b j n46_0 n46_1 n46_2 => (yz34588.1 b j n46_1 n46_2).trans (hfr.1 b j n46_0 n46_1 n46_2), fun b j  => (yz34588.2 b j ).trans (hfr.2 b j )⟩
    exact t_iret hQ X hT (⟨rg_all _, hfr⟩) (Nat.le_of_ble_eq_true rfl) (Nat.le_of_ble_eq_true rfl) dX13_house_28
  · have w34589 := cv_ne (rfl : z34585.toInt = z34585.toInt) (by decide : (0 : Int32).toInt = 0) c34586
    exfalso
    omega
theorem kp_X13_house (l : Launch) (G : KG) (tag : Nat → Nat) (L : List Nat) (Fo : Nat → va_E) (ho : okT G ttC tag L Fo) (p0 : Nat) (p1 : Int32) (p2 : Int32) (m0 : p0 ∈ L) (g0 : tag p0 = 46) : TMi l yX13_house cX13_house 3 (some .int) { frames := 5, cells := 0, slots := 0, locals := 121 } G ttC tag L Fo [.ref p0, .int p1, .int p2] (fun r F1 => ((-2147483648) ≤ r.toInt ∧ r.toInt ≤ 2147483647) ∧ ((∀ b j : Nat, (tag b ≠ 46 ∨ j ≠ 0) → (tag b ≠ 46 ∨ j ≠ 1) → (tag b ≠ 46 ∨ j ≠ 2) → fld F1 b j = fld Fo b j) ∧ (∀ b j : Nat, elm F1 b j = elm Fo b j))) := by
  rcases t_fldn ho m0 g0 rfl 3 rfl with h9 | ⟨b9, h9, m9, t9⟩
  · exact km117_X13_house l G tag L Fo ho p0 p1 p2  m0 g0 h9 
  · exact km115_X13_house l G tag L Fo ho p0 p1 p2 b9  m0 g0 m9 (tg_of t9) h9 
set_option maxHeartbeats 4000000 in
set_option maxRecDepth 100000 in
theorem km119_X13_isSkin (l : Launch) (G : KG) (tag : Nat → Nat) (L : List Nat) (F : Nat → va_E) (ho : okT G ttC tag L F) (p0 : Nat) (p1 : Int32) (p2 : Int32) (x0 : Nat) (m0 : p0 ∈ L) (g0 : tag p0 = 46) (mx0 : x0 ∈ L) (gx0 : tag x0 = 45) (pf0 : fld F p0 3 = .ref x0) : TMi l yX13_isSkin cX13_isSkin 3 (some .boolean) { frames := 1, cells := 0, slots := 0, locals := 21 } G ttC tag L F [.ref p0, .int p1, .int p2] (fun r F1 => F1 = F ∧ ((0 ≤ r.toInt ∧ r.toInt ≤ 1) ∧ (r.toInt ≠ 0 → (0 ≤ p1.toInt ∧ p1.toInt ≤ 3) ∧ (1 ≤ p2.toInt ∧ p2.toInt ≤ 6)))) := by
  refine t_bodyi (y := yX13_isSkin) (cd := cX13_isSkin) (mL := 3) (rt := (some .boolean)) (rm := { frames := 1, cells := 0, slots := 0, locals := 21 }) (av := [.ref p0, .int p1, .int p2]) (by decide) (Nat.le_of_ble_eq_true rfl) ho ?_
  intro p e s m args below meth c ls A Q hQ X hT hl
  have hx := X.1.1
  have hb := X.1.2.1
  have hl : lv_has ls 3 [(0, .ref p0), (1, .int p1), (2, .int p2)] := hl
  have rp1 := rg_all p1
  have rp2 := rg_all p2
  refine lv_aload_n hx hb dX13_isSkin_0 rfl (lv_at hl 0 rfl) ?_
  refine lv_iload_n hx hb dX13_isSkin_1 rfl (lv_at hl 1 rfl) ?_
  refine t_cVi (n := 1) (C := RX13) (T := TX13) (N := 37) (As := [.int p1]) (rest := []) X hT (km107_X13_isHouse l G tag L F hT.2.2.2 p0 p1 x0 m0 g0 mx0 gx0 pf0) m0 g0 rfl rfl qw_796 qw_797 qw_798 qw_5 qw_799 ⟨rfl, by decide +kernel, by decide +kernel, by decide +kernel⟩ ⟨Nat.le_of_ble_eq_true rfl, Nat.le_of_ble_eq_true rfl⟩ hl rfl rfl (Nat.le_of_ble_eq_true rfl) dX13_isSkin_2 ⟨Nat.le_of_ble_eq_true rfl, Nat.le_of_ble_eq_true rfl⟩ (fun z34756 F9 H locs hT hz34756 => ?_)
  obtain ⟨fz34756, hz34756⟩ := hz34756
  rw [fz34756] at hT
  obtain ⟨hz34756, iz34756⟩ := hz34756
  refine lv_if_eq (tgt := 29) hx hb dX13_isSkin_5 (by decide) (fun c34757 => ?_) (fun c34757 => ?_)
  · have w34758 := cv_eq (rfl : z34756.toInt = z34756.toInt) (by decide : (0 : Int32).toInt = 0) c34757
    refine lv_iconst (v := 0) hx hb dX13_isSkin_29 (by decide) ?_
    have k34759 : (0 : Int32).toInt = 0 := by decide
    exact t_zret hQ X hT (by decide) (⟨rfl, ⟨(by decide), fun h => absurd (by decide) h⟩⟩) (Nat.le_of_ble_eq_true rfl) (Nat.le_of_ble_eq_true rfl) dX13_isSkin_30
  · have w34760 := cv_ne (rfl : z34756.toInt = z34756.toInt) (by decide : (0 : Int32).toInt = 0) c34757
    have w34761 := (fun h => (iz34756 h)) (by omega)
    refine lv_iload_n hx hb dX13_isSkin_8 rfl (lv_at hl 2 rfl) ?_
    refine lv_iconst (v := 1) hx hb dX13_isSkin_9 (by decide) ?_
    refine lv_icmp_lt (tgt := 29) hx hb dX13_isSkin_10 (by decide) (fun c34762 => ?_) (fun c34762 => ?_)
    · have w34763 := cv_lt (rfl : p2.toInt = p2.toInt) (by decide : (1 : Int32).toInt = 1) c34762
      refine lv_iconst (v := 0) hx hb dX13_isSkin_29 (by decide) ?_
      have k34764 : (0 : Int32).toInt = 0 := by decide
      exact t_zret hQ X hT (by decide) (⟨rfl, ⟨(by decide), fun h => absurd (by decide) h⟩⟩) (Nat.le_of_ble_eq_true rfl) (Nat.le_of_ble_eq_true rfl) dX13_isSkin_30
    · have w34765 := cv_nlt (rfl : p2.toInt = p2.toInt) (by decide : (1 : Int32).toInt = 1) c34762
      refine lv_iload_n hx hb dX13_isSkin_13 rfl (lv_at hl 2 rfl) ?_
      refine lv_aload_n hx hb dX13_isSkin_14 rfl (lv_at hl 0 rfl) ?_
      refine t_get (C := RX13) (T := TX13) (N := 37) X hT m0 g0 rfl rfl 16 (by decide) qw_112 inlX13 rfl dX13_isSkin_15 (fun v34766 hv34766 ov34766 => ?_)
      obtain ⟨b34767, rfl, mb34767, gb34767⟩ := okV_r ov34766
      have gb34767 : tag b34767 = 37 := tg_of gb34767
      refine lv_iconst (v := 0) hx hb dX13_isSkin_18 (by decide) ?_
      refine lv_iload_n hx hb dX13_isSkin_19 rfl (lv_at hl 1 rfl) ?_
      refine lv_iadd hx hb dX13_isSkin_20 ?_
      refine lv_topi (fun z34768 ez34768 => ?_)
      obtain rfl : p1 = z34768 := (ar_zadd ez34768).symm
      refine t_ild X hT mb34767 gb34767 rfl (by omega) dX13_isSkin_21 (fun z34769 vz34769 rz34769 => ?_)
      have rz34769 := row_ml (by omega) rz34769
      refine lv_icmp_gt (tgt := 29) hx hb dX13_isSkin_22 (by decide) (fun c34770 => ?_) (fun c34770 => ?_)
      · have w34771 := cv_lt (rfl : z34769.toInt = z34769.toInt) (rfl : p2.toInt = p2.toInt) c34770
        refine lv_iconst (v := 0) hx hb dX13_isSkin_29 (by decide) ?_
        have k34772 : (0 : Int32).toInt = 0 := by decide
        exact t_zret hQ X hT (by decide) (⟨rfl, ⟨(by decide), fun h => absurd (by decide) h⟩⟩) (Nat.le_of_ble_eq_true rfl) (Nat.le_of_ble_eq_true rfl) dX13_isSkin_30
      · have w34773 := cv_nlt (rfl : z34769.toInt = z34769.toInt) (rfl : p2.toInt = p2.toInt) c34770
        refine lv_iconst (v := 1) hx hb dX13_isSkin_25 (by decide) ?_
        refine lv_goto (tgt := 30) hx hb dX13_isSkin_26 (by decide) ?_
        have k34774 : (1 : Int32).toInt = 1 := by decide
        exact t_zret hQ X hT (by decide) (⟨rfl, ⟨(by decide), fun _ => ⟨by omega, by omega⟩⟩⟩) (Nat.le_of_ble_eq_true rfl) (Nat.le_of_ble_eq_true rfl) dX13_isSkin_30
set_option maxHeartbeats 4000000 in
set_option maxRecDepth 100000 in
theorem km120_X13_skin (l : Launch) (G : KG) (tag : Nat → Nat) (L : List Nat) (Fo : Nat → va_E) (ho : okT G ttC tag L Fo) (p0 : Nat) (p1 : Int32) (p2 : Int32) (p3 : Int32) (x0 : Nat) (m0 : p0 ∈ L) (g0 : tag p0 = 46) (mx0 : x0 ∈ L) (gx0 : tag x0 = 45) (pf0 : fld Fo p0 3 = .ref x0) : TMi l yX13_skin cX13_skin 4 (some .int) { frames := 2, cells := 0, slots := 0, locals := 43 } G ttC tag L Fo [.ref p0, .int p1, .int p2, .int p3] (fun r F1 => ((-2147483648) ≤ r.toInt ∧ r.toInt ≤ 2147483647) ∧ ((∀ b j : Nat, (tag b ≠ 46 ∨ j ≠ 0) → (tag b ≠ 46 ∨ j ≠ 1) → (tag b ≠ 46 ∨ j ≠ 2) → fld F1 b j = fld Fo b j) ∧ (∀ b j : Nat, elm F1 b j = elm Fo b j))) := by
  refine t_bodyi (y := yX13_skin) (cd := cX13_skin) (mL := 4) (rt := (some .int)) (rm := { frames := 2, cells := 0, slots := 0, locals := 43 }) (av := [.ref p0, .int p1, .int p2, .int p3]) (by decide) (Nat.le_of_ble_eq_true rfl) ho ?_
  intro p e s m args below meth c ls A Q hQ X hT hl
  have hx := X.1.1
  have hb := X.1.2.1
  have hl : lv_has ls 4 [(0, .ref p0), (1, .int p1), (2, .int p2), (3, .int p3)] := hl
  have rp1 := rg_all p1
  have rp2 := rg_all p2
  have rp3 := rg_all p3
  obtain ⟨F, hFo⟩ : ∃ F : Nat → va_E, F = Fo := ⟨_, rfl⟩
  rw [← hFo] at hT pf0
  have hfr : (∀ b j : Nat, (tag b ≠ 46 ∨ j ≠ 0) → (tag b ≠ 46 ∨ j ≠ 1) → (tag b ≠ 46 ∨ j ≠ 2) → fld F b j = fld Fo b j) ∧ (∀ b j : Nat, elm F b j = elm Fo b j) := by
    rw [hFo]
    exact ⟨by intros; rfl, by intros; rfl⟩
  refine lv_aload_n hx hb dX13_skin_0 rfl (lv_at hl 0 rfl) ?_
  refine lv_iconst (v := 0) hx hb dX13_skin_1 (by decide) ?_
  refine t_put (C := RX13) (T := TX13) (N := 37) (v := .int 0) X hT m0 g0 rfl tyX13 tyX13_ok nmX13 rfl 0 (by decide) qw_140 inlX13 rfl (by first | rfl | decide) (by first | rfl | decide) rfl (⟨_, rfl, (show (-2147483648) ≤ (0 : Int32).toInt from (by decide)), (show (0 : Int32).toInt ≤ 2147483647 from (by decide))⟩) dX13_skin_2 (fun F H locs hT v35005 h1v35005 h2v35005 => ?_)
  have pf0 := (h1v35005 _ _ (Or.inr (by decide))).trans pf0
  have hfr : (∀ b j : Nat, (tag b ≠ 46 ∨ j ≠ 0) → (tag b ≠ 46 ∨ j ≠ 1) → (tag b ≠ 46 ∨ j ≠ 2) → fld F b j = fld Fo b j) ∧ (∀ b j : Nat, elm F b j = elm Fo b j) := ⟨fun b j n46_0 n46_1 n46_2 => (h1v35005 b j (fr_ne g0 n46_0)).trans (hfr.1 b j n46_0 n46_1 n46_2), fun b j  => (h2v35005 b j).trans (hfr.2 b j )⟩
  refine lv_aload_n hx hb dX13_skin_5 rfl (lv_at hl 0 rfl) ?_
  refine lv_iload_n hx hb dX13_skin_6 rfl (lv_at hl 1 rfl) ?_
  refine lv_iload_n hx hb dX13_skin_7 rfl (lv_at hl 2 rfl) ?_
  refine t_cVi (n := 2) (C := RX13) (T := TX13) (N := 37) (As := [.int p1, .int p2]) (rest := []) X hT (km119_X13_isSkin l G tag L F hT.2.2.2 p0 p1 p2 x0 m0 g0 mx0 gx0 pf0) m0 g0 rfl rfl qw_836 qw_837 qw_838 qw_5 qw_839 ⟨rfl, by decide +kernel, by decide +kernel, by decide +kernel⟩ ⟨Nat.le_of_ble_eq_true rfl, Nat.le_of_ble_eq_true rfl⟩ hl rfl rfl (Nat.le_of_ble_eq_true rfl) dX13_skin_8 ⟨Nat.le_of_ble_eq_true rfl, Nat.le_of_ble_eq_true rfl⟩ (fun z35006 F9 H locs hT hz35006 => ?_)
  obtain ⟨fz35006, hz35006⟩ := hz35006
  rw [fz35006] at hT
  obtain ⟨hz35006, iz35006⟩ := hz35006
  refine lv_if_eq (tgt := 42) hx hb dX13_skin_11 (by decide) (fun c35007 => ?_) (fun c35007 => ?_)
  · have w35008 := cv_eq (rfl : z35006.toInt = z35006.toInt) (by decide : (0 : Int32).toInt = 0) c35007
    refine lv_aload_n hx hb dX13_skin_42 rfl (lv_at hl 0 rfl) ?_
    refine lv_iconst (v := 1) hx hb dX13_skin_43 (by decide) ?_
    refine t_cVi (n := 1) (C := RX13) (T := TX13) (N := 37) (As := [.int 1]) (rest := []) X hT (km88_X13_refused l G tag L F hT.2.2.2 p0 1 m0 g0) m0 g0 rfl rfl qw_484 qw_485 qw_486 qw_5 qw_487 ⟨rfl, by decide +kernel, by decide +kernel, by decide +kernel⟩ ⟨Nat.le_of_ble_eq_true rfl, Nat.le_of_ble_eq_true rfl⟩ hl rfl rfl (Nat.le_of_ble_eq_true rfl) dX13_skin_44 ⟨Nat.le_of_ble_eq_true rfl, Nat.le_of_ble_eq_true rfl⟩ (fun z35009 F H locs hT hz35009 => ?_)
    obtain ⟨hz35009, yz35009⟩ := hz35009
    have pf0 := (yz35009.1 _ 3 (Or.inr (by decide)) (Or.inr (by decide))).trans pf0
    have v35005 := (yz35009.1 _ 0 (Or.inr (by decide)) (Or.inr (by decide))).trans v35005
    have hfr : (∀ b j : Nat, (tag b ≠ 46 ∨ j ≠ 0) → (tag b ≠ 46 ∨ j ≠ 1) → (tag b ≠ 46 ∨ j ≠ 2) → fld F b j = fld Fo b j) ∧ (∀ b j : Nat, elm F b j = elm Fo b j) := ⟨fun b j n46_0 n46_1 n46_2 => (yz35009.1 b j n46_1 n46_2).trans (hfr.1 b j n46_0 n46_1 n46_2), fun b j  => (yz35009.2 b j ).trans (hfr.2 b j )⟩
    exact t_iret hQ X hT (⟨rg_all _, hfr⟩) (Nat.le_of_ble_eq_true rfl) (Nat.le_of_ble_eq_true rfl) dX13_skin_47
  · have w35010 := cv_ne (rfl : z35006.toInt = z35006.toInt) (by decide : (0 : Int32).toInt = 0) c35007
    have w35011 := (fun h => (iz35006 h).1) (by omega)
    have w35012 := (fun h => (iz35006 h).2) (by omega)
    refine lv_iload_n hx hb dX13_skin_14 rfl (lv_at hl 3 rfl) ?_
    refine lv_iconst (v := 0) hx hb dX13_skin_15 (by decide) ?_
    refine lv_bipush (v := 7) hx hb dX13_skin_16 (by decide) ?_
    refine t_cSi (n := 3) (As := [.int p3, .int 0, .int 7]) (rest := []) X hT (km19_X13_within l G tag L F hT.2.2.2 p3 0 7 ) qw_568 qw_569 qw_5 qw_570 ⟨by decide +kernel, by decide +kernel, by decide +kernel⟩ ⟨Nat.le_of_ble_eq_true rfl, Nat.le_of_ble_eq_true rfl⟩ hl rfl rfl (Nat.le_of_ble_eq_true rfl) dX13_skin_18 ⟨Nat.le_of_ble_eq_true rfl, Nat.le_of_ble_eq_true rfl⟩ (fun z35013 F9 H locs hT hz35013 => ?_)
    obtain ⟨fz35013, hz35013, xz35013_0⟩ := hz35013
    rw [fz35013] at hT
    have k35014 : (0 : Int32).toInt = 0 := by decide
    have k35015 : (7 : Int32).toInt = 7 := by decide
    refine lv_if_eq (tgt := 42) hx hb dX13_skin_21 (by decide) (fun c35016 => ?_) (fun c35016 => ?_)
    · have w35017 := cv_eq (rfl : z35013.toInt = z35013.toInt) (by decide : (0 : Int32).toInt = 0) c35016
      refine lv_aload_n hx hb dX13_skin_42 rfl (lv_at hl 0 rfl) ?_
      refine lv_iconst (v := 1) hx hb dX13_skin_43 (by decide) ?_
      refine t_cVi (n := 1) (C := RX13) (T := TX13) (N := 37) (As := [.int 1]) (rest := []) X hT (km88_X13_refused l G tag L F hT.2.2.2 p0 1 m0 g0) m0 g0 rfl rfl qw_484 qw_485 qw_486 qw_5 qw_487 ⟨rfl, by decide +kernel, by decide +kernel, by decide +kernel⟩ ⟨Nat.le_of_ble_eq_true rfl, Nat.le_of_ble_eq_true rfl⟩ hl rfl rfl (Nat.le_of_ble_eq_true rfl) dX13_skin_44 ⟨Nat.le_of_ble_eq_true rfl, Nat.le_of_ble_eq_true rfl⟩ (fun z35018 F H locs hT hz35018 => ?_)
      obtain ⟨hz35018, yz35018⟩ := hz35018
      have pf0 := (yz35018.1 _ 3 (Or.inr (by decide)) (Or.inr (by decide))).trans pf0
      have v35005 := (yz35018.1 _ 0 (Or.inr (by decide)) (Or.inr (by decide))).trans v35005
      have hfr : (∀ b j : Nat, (tag b ≠ 46 ∨ j ≠ 0) → (tag b ≠ 46 ∨ j ≠ 1) → (tag b ≠ 46 ∨ j ≠ 2) → fld F b j = fld Fo b j) ∧ (∀ b j : Nat, elm F b j = elm Fo b j) := ⟨fun b j n46_0 n46_1 n46_2 => (yz35018.1 b j n46_1 n46_2).trans (hfr.1 b j n46_0 n46_1 n46_2), fun b j  => (yz35018.2 b j ).trans (hfr.2 b j )⟩
      exact t_iret hQ X hT (⟨rg_all _, hfr⟩) (Nat.le_of_ble_eq_true rfl) (Nat.le_of_ble_eq_true rfl) dX13_skin_47
    · have w35019 := cv_ne (rfl : z35013.toInt = z35013.toInt) (by decide : (0 : Int32).toInt = 0) c35016
      have w35020 := xz35013_0 (by omega)
      refine lv_aload_n hx hb dX13_skin_24 rfl (lv_at hl 0 rfl) ?_
      refine lv_aload_n hx hb dX13_skin_25 rfl (lv_at hl 0 rfl) ?_
      refine t_get (C := RX13) (T := TX13) (N := 37) X hT m0 g0 rfl rfl 16 (by decide) qw_112 inlX13 rfl dX13_skin_26 (fun v35021 hv35021 ov35021 => ?_)
      obtain ⟨b35022, rfl, mb35022, gb35022⟩ := okV_r ov35021
      have gb35022 : tag b35022 = 37 := tg_of gb35022
      refine lv_iload_n hx hb dX13_skin_29 rfl (lv_at hl 1 rfl) ?_
      refine lv_iload_n hx hb dX13_skin_30 rfl (lv_at hl 2 rfl) ?_
      refine lv_iload_n hx hb dX13_skin_31 rfl (lv_at hl 3 rfl) ?_
      refine t_cSi (n := 3) (As := [.int p1, .int p2, .int p3]) (rest := [.ref b35022, .ref p0]) X hT (km49_X13_part l G tag L F hT.2.2.2 p1 p2 p3 (by omega) (by omega) (by omega)) qw_661 qw_662 qw_5 qw_663 ⟨by decide +kernel, by decide +kernel, by decide +kernel⟩ ⟨Nat.le_of_ble_eq_true rfl, Nat.le_of_ble_eq_true rfl⟩ hl rfl rfl (Nat.le_of_ble_eq_true rfl) dX13_skin_32 ⟨Nat.le_of_ble_eq_true rfl, Nat.le_of_ble_eq_true rfl⟩ (fun z35023 F9 H locs hT hz35023 => ?_)
      obtain ⟨fz35023, hz35023, xz35023_0⟩ := hz35023
      rw [fz35023] at hT
      refine t_ild X hT mb35022 gb35022 rfl (by omega) dX13_skin_35 (fun z35024 vz35024 rz35024 => ?_)
      have oz35024 := rz35024
      have rz35024 := rg_all z35024
      refine t_cVi (n := 1) (C := RX13) (T := TX13) (N := 37) (As := [.int z35024]) (rest := []) X hT (km93_X13_good l G tag L F hT.2.2.2 p0 z35024 m0 g0) m0 g0 rfl rfl qw_687 qw_688 qw_689 qw_5 qw_690 ⟨rfl, by decide +kernel, by decide +kernel, by decide +kernel⟩ ⟨Nat.le_of_ble_eq_true rfl, Nat.le_of_ble_eq_true rfl⟩ hl rfl rfl (Nat.le_of_ble_eq_true rfl) dX13_skin_36 ⟨Nat.le_of_ble_eq_true rfl, Nat.le_of_ble_eq_true rfl⟩ (fun z35025 F H locs hT hz35025 => ?_)
      obtain ⟨hz35025, yz35025⟩ := hz35025
      have pf0 := (yz35025.1 _ 3 (Or.inr (by decide)) (Or.inr (by decide))).trans pf0
      have v35005 := (yz35025.1 _ 0 (Or.inr (by decide)) (Or.inr (by decide))).trans v35005
      have hv35021 := (yz35025.1 _ 16 (Or.inr (by decide)) (Or.inr (by decide))).trans hv35021
      have vz35024 := (yz35025.2 _ _ ).trans vz35024
      have hfr : (∀ b j : Nat, (tag b ≠ 46 ∨ j ≠ 0) → (tag b ≠ 46 ∨ j ≠ 1) → (tag b ≠ 46 ∨ j ≠ 2) → fld F b j = fld Fo b j) ∧ (∀ b j : Nat, elm F b j = elm Fo b j) := ⟨fun b j n46_0 n46_1 n46_2 => (yz35025.1 b j n46_1 n46_2).trans (hfr.1 b j n46_0 n46_1 n46_2), fun b j  => (yz35025.2 b j ).trans (hfr.2 b j )⟩
      refine lv_goto (tgt := 47) hx hb dX13_skin_39 (by decide) ?_
      exact t_iret hQ X hT (⟨rg_all _, hfr⟩) (Nat.le_of_ble_eq_true rfl) (Nat.le_of_ble_eq_true rfl) dX13_skin_47
set_option maxHeartbeats 4000000 in
set_option maxRecDepth 100000 in
theorem km121_X13_isSkin (l : Launch) (G : KG) (tag : Nat → Nat) (L : List Nat) (F : Nat → va_E) (ho : okT G ttC tag L F) (p0 : Nat) (p1 : Int32) (p2 : Int32) (m0 : p0 ∈ L) (g0 : tag p0 = 46) (pf0 : fld F p0 3 = .null) : TMi l yX13_isSkin cX13_isSkin 3 (some .boolean) { frames := 1, cells := 0, slots := 0, locals := 21 } G ttC tag L F [.ref p0, .int p1, .int p2] (fun r F1 => F1 = F ∧ (0 ≤ r.toInt ∧ r.toInt ≤ 0)) := by
  refine t_bodyi (y := yX13_isSkin) (cd := cX13_isSkin) (mL := 3) (rt := (some .boolean)) (rm := { frames := 1, cells := 0, slots := 0, locals := 21 }) (av := [.ref p0, .int p1, .int p2]) (by decide) (Nat.le_of_ble_eq_true rfl) ho ?_
  intro p e s m args below meth c ls A Q hQ X hT hl
  have hx := X.1.1
  have hb := X.1.2.1
  have hl : lv_has ls 3 [(0, .ref p0), (1, .int p1), (2, .int p2)] := hl
  have rp1 := rg_all p1
  have rp2 := rg_all p2
  refine lv_aload_n hx hb dX13_isSkin_0 rfl (lv_at hl 0 rfl) ?_
  refine lv_iload_n hx hb dX13_isSkin_1 rfl (lv_at hl 1 rfl) ?_
  refine t_cVi (n := 1) (C := RX13) (T := TX13) (N := 37) (As := [.int p1]) (rest := []) X hT (km116_X13_isHouse l G tag L F hT.2.2.2 p0 p1 m0 g0 pf0) m0 g0 rfl rfl qw_796 qw_797 qw_798 qw_5 qw_799 ⟨rfl, by decide +kernel, by decide +kernel, by decide +kernel⟩ ⟨Nat.le_of_ble_eq_true rfl, Nat.le_of_ble_eq_true rfl⟩ hl rfl rfl (Nat.le_of_ble_eq_true rfl) dX13_isSkin_2 ⟨Nat.le_of_ble_eq_true rfl, Nat.le_of_ble_eq_true rfl⟩ (fun z35071 F9 H locs hT hz35071 => ?_)
  obtain ⟨fz35071, hz35071⟩ := hz35071
  rw [fz35071] at hT
  refine lv_if_eq (tgt := 29) hx hb dX13_isSkin_5 (by decide) (fun c35072 => ?_) (fun c35072 => ?_)
  · have w35073 := cv_eq (rfl : z35071.toInt = z35071.toInt) (by decide : (0 : Int32).toInt = 0) c35072
    refine lv_iconst (v := 0) hx hb dX13_isSkin_29 (by decide) ?_
    have k35074 : (0 : Int32).toInt = 0 := by decide
    exact t_zret hQ X hT (by decide) (⟨rfl, (by decide)⟩) (Nat.le_of_ble_eq_true rfl) (Nat.le_of_ble_eq_true rfl) dX13_isSkin_30
  · have w35075 := cv_ne (rfl : z35071.toInt = z35071.toInt) (by decide : (0 : Int32).toInt = 0) c35072
    exfalso
    omega
set_option maxHeartbeats 4000000 in
set_option maxRecDepth 100000 in
theorem km122_X13_skin (l : Launch) (G : KG) (tag : Nat → Nat) (L : List Nat) (Fo : Nat → va_E) (ho : okT G ttC tag L Fo) (p0 : Nat) (p1 : Int32) (p2 : Int32) (p3 : Int32) (m0 : p0 ∈ L) (g0 : tag p0 = 46) (pf0 : fld Fo p0 3 = .null) : TMi l yX13_skin cX13_skin 4 (some .int) { frames := 2, cells := 0, slots := 0, locals := 43 } G ttC tag L Fo [.ref p0, .int p1, .int p2, .int p3] (fun r F1 => ((-2147483648) ≤ r.toInt ∧ r.toInt ≤ 2147483647) ∧ ((∀ b j : Nat, (tag b ≠ 46 ∨ j ≠ 0) → (tag b ≠ 46 ∨ j ≠ 1) → (tag b ≠ 46 ∨ j ≠ 2) → fld F1 b j = fld Fo b j) ∧ (∀ b j : Nat, elm F1 b j = elm Fo b j))) := by
  refine t_bodyi (y := yX13_skin) (cd := cX13_skin) (mL := 4) (rt := (some .int)) (rm := { frames := 2, cells := 0, slots := 0, locals := 43 }) (av := [.ref p0, .int p1, .int p2, .int p3]) (by decide) (Nat.le_of_ble_eq_true rfl) ho ?_
  intro p e s m args below meth c ls A Q hQ X hT hl
  have hx := X.1.1
  have hb := X.1.2.1
  have hl : lv_has ls 4 [(0, .ref p0), (1, .int p1), (2, .int p2), (3, .int p3)] := hl
  have rp1 := rg_all p1
  have rp2 := rg_all p2
  have rp3 := rg_all p3
  obtain ⟨F, hFo⟩ : ∃ F : Nat → va_E, F = Fo := ⟨_, rfl⟩
  rw [← hFo] at hT pf0
  have hfr : (∀ b j : Nat, (tag b ≠ 46 ∨ j ≠ 0) → (tag b ≠ 46 ∨ j ≠ 1) → (tag b ≠ 46 ∨ j ≠ 2) → fld F b j = fld Fo b j) ∧ (∀ b j : Nat, elm F b j = elm Fo b j) := by
    rw [hFo]
    exact ⟨by intros; rfl, by intros; rfl⟩
  refine lv_aload_n hx hb dX13_skin_0 rfl (lv_at hl 0 rfl) ?_
  refine lv_iconst (v := 0) hx hb dX13_skin_1 (by decide) ?_
  refine t_put (C := RX13) (T := TX13) (N := 37) (v := .int 0) X hT m0 g0 rfl tyX13 tyX13_ok nmX13 rfl 0 (by decide) qw_140 inlX13 rfl (by first | rfl | decide) (by first | rfl | decide) rfl (⟨_, rfl, (show (-2147483648) ≤ (0 : Int32).toInt from (by decide)), (show (0 : Int32).toInt ≤ 2147483647 from (by decide))⟩) dX13_skin_2 (fun F H locs hT v35141 h1v35141 h2v35141 => ?_)
  have pf0 := (h1v35141 _ _ (Or.inr (by decide))).trans pf0
  have hfr : (∀ b j : Nat, (tag b ≠ 46 ∨ j ≠ 0) → (tag b ≠ 46 ∨ j ≠ 1) → (tag b ≠ 46 ∨ j ≠ 2) → fld F b j = fld Fo b j) ∧ (∀ b j : Nat, elm F b j = elm Fo b j) := ⟨fun b j n46_0 n46_1 n46_2 => (h1v35141 b j (fr_ne g0 n46_0)).trans (hfr.1 b j n46_0 n46_1 n46_2), fun b j  => (h2v35141 b j).trans (hfr.2 b j )⟩
  refine lv_aload_n hx hb dX13_skin_5 rfl (lv_at hl 0 rfl) ?_
  refine lv_iload_n hx hb dX13_skin_6 rfl (lv_at hl 1 rfl) ?_
  refine lv_iload_n hx hb dX13_skin_7 rfl (lv_at hl 2 rfl) ?_
  refine t_cVi (n := 2) (C := RX13) (T := TX13) (N := 37) (As := [.int p1, .int p2]) (rest := []) X hT (km121_X13_isSkin l G tag L F hT.2.2.2 p0 p1 p2 m0 g0 pf0) m0 g0 rfl rfl qw_836 qw_837 qw_838 qw_5 qw_839 ⟨rfl, by decide +kernel, by decide +kernel, by decide +kernel⟩ ⟨Nat.le_of_ble_eq_true rfl, Nat.le_of_ble_eq_true rfl⟩ hl rfl rfl (Nat.le_of_ble_eq_true rfl) dX13_skin_8 ⟨Nat.le_of_ble_eq_true rfl, Nat.le_of_ble_eq_true rfl⟩ (fun z35142 F9 H locs hT hz35142 => ?_)
  obtain ⟨fz35142, hz35142⟩ := hz35142
  rw [fz35142] at hT
  refine lv_if_eq (tgt := 42) hx hb dX13_skin_11 (by decide) (fun c35143 => ?_) (fun c35143 => ?_)
  · have w35144 := cv_eq (rfl : z35142.toInt = z35142.toInt) (by decide : (0 : Int32).toInt = 0) c35143
    refine lv_aload_n hx hb dX13_skin_42 rfl (lv_at hl 0 rfl) ?_
    refine lv_iconst (v := 1) hx hb dX13_skin_43 (by decide) ?_
    refine t_cVi (n := 1) (C := RX13) (T := TX13) (N := 37) (As := [.int 1]) (rest := []) X hT (km88_X13_refused l G tag L F hT.2.2.2 p0 1 m0 g0) m0 g0 rfl rfl qw_484 qw_485 qw_486 qw_5 qw_487 ⟨rfl, by decide +kernel, by decide +kernel, by decide +kernel⟩ ⟨Nat.le_of_ble_eq_true rfl, Nat.le_of_ble_eq_true rfl⟩ hl rfl rfl (Nat.le_of_ble_eq_true rfl) dX13_skin_44 ⟨Nat.le_of_ble_eq_true rfl, Nat.le_of_ble_eq_true rfl⟩ (fun z35145 F H locs hT hz35145 => ?_)
    obtain ⟨hz35145, yz35145⟩ := hz35145
    have pf0 := (yz35145.1 _ 3 (Or.inr (by decide)) (Or.inr (by decide))).trans pf0
    have v35141 := (yz35145.1 _ 0 (Or.inr (by decide)) (Or.inr (by decide))).trans v35141
    have hfr : (∀ b j : Nat, (tag b ≠ 46 ∨ j ≠ 0) → (tag b ≠ 46 ∨ j ≠ 1) → (tag b ≠ 46 ∨ j ≠ 2) → fld F b j = fld Fo b j) ∧ (∀ b j : Nat, elm F b j = elm Fo b j) := ⟨fun b j n46_0 n46_1 n46_2 => (yz35145.1 b j n46_1 n46_2).trans (hfr.1 b j n46_0 n46_1 n46_2), fun b j  => (yz35145.2 b j ).trans (hfr.2 b j )⟩
    exact t_iret hQ X hT (⟨rg_all _, hfr⟩) (Nat.le_of_ble_eq_true rfl) (Nat.le_of_ble_eq_true rfl) dX13_skin_47
  · have w35146 := cv_ne (rfl : z35142.toInt = z35142.toInt) (by decide : (0 : Int32).toInt = 0) c35143
    exfalso
    omega
theorem kp_X13_skin (l : Launch) (G : KG) (tag : Nat → Nat) (L : List Nat) (Fo : Nat → va_E) (ho : okT G ttC tag L Fo) (p0 : Nat) (p1 : Int32) (p2 : Int32) (p3 : Int32) (m0 : p0 ∈ L) (g0 : tag p0 = 46) : TMi l yX13_skin cX13_skin 4 (some .int) { frames := 2, cells := 0, slots := 0, locals := 43 } G ttC tag L Fo [.ref p0, .int p1, .int p2, .int p3] (fun r F1 => ((-2147483648) ≤ r.toInt ∧ r.toInt ≤ 2147483647) ∧ ((∀ b j : Nat, (tag b ≠ 46 ∨ j ≠ 0) → (tag b ≠ 46 ∨ j ≠ 1) → (tag b ≠ 46 ∨ j ≠ 2) → fld F1 b j = fld Fo b j) ∧ (∀ b j : Nat, elm F1 b j = elm Fo b j))) := by
  rcases t_fldn ho m0 g0 rfl 3 rfl with h9 | ⟨b9, h9, m9, t9⟩
  · exact km122_X13_skin l G tag L Fo ho p0 p1 p2 p3  m0 g0 h9 
  · exact km120_X13_skin l G tag L Fo ho p0 p1 p2 p3 b9  m0 g0 m9 (tg_of t9) h9 
set_option maxHeartbeats 4000000 in
set_option maxRecDepth 100000 in
theorem km124_X13_isDepth (l : Launch) (G : KG) (tag : Nat → Nat) (L : List Nat) (F : Nat → va_E) (ho : okT G ttC tag L F) (p0 : Nat) (p1 : Int32) (p2 : Int32) (x0 : Nat) (m0 : p0 ∈ L) (g0 : tag p0 = 46) (mx0 : x0 ∈ L) (gx0 : tag x0 = 45) (pf0 : fld F p0 3 = .ref x0) : TMi l yX13_isDepth cX13_isDepth 3 (some .boolean) { frames := 1, cells := 0, slots := 0, locals := 21 } G ttC tag L F [.ref p0, .int p1, .int p2] (fun r F1 => F1 = F ∧ ((0 ≤ r.toInt ∧ r.toInt ≤ 1) ∧ (r.toInt ≠ 0 → (0 ≤ p1.toInt ∧ p1.toInt ≤ 3) ∧ (0 ≤ p2.toInt ∧ p2.toInt ≤ 6)))) := by
  refine t_bodyi (y := yX13_isDepth) (cd := cX13_isDepth) (mL := 3) (rt := (some .boolean)) (rm := { frames := 1, cells := 0, slots := 0, locals := 21 }) (av := [.ref p0, .int p1, .int p2]) (by decide) (Nat.le_of_ble_eq_true rfl) ho ?_
  intro p e s m args below meth c ls A Q hQ X hT hl
  have hx := X.1.1
  have hb := X.1.2.1
  have hl : lv_has ls 3 [(0, .ref p0), (1, .int p1), (2, .int p2)] := hl
  have rp1 := rg_all p1
  have rp2 := rg_all p2
  refine lv_aload_n hx hb dX13_isDepth_0 rfl (lv_at hl 0 rfl) ?_
  refine lv_iload_n hx hb dX13_isDepth_1 rfl (lv_at hl 1 rfl) ?_
  refine t_cVi (n := 1) (C := RX13) (T := TX13) (N := 37) (As := [.int p1]) (rest := []) X hT (km107_X13_isHouse l G tag L F hT.2.2.2 p0 p1 x0 m0 g0 mx0 gx0 pf0) m0 g0 rfl rfl qw_796 qw_797 qw_798 qw_5 qw_799 ⟨rfl, by decide +kernel, by decide +kernel, by decide +kernel⟩ ⟨Nat.le_of_ble_eq_true rfl, Nat.le_of_ble_eq_true rfl⟩ hl rfl rfl (Nat.le_of_ble_eq_true rfl) dX13_isDepth_2 ⟨Nat.le_of_ble_eq_true rfl, Nat.le_of_ble_eq_true rfl⟩ (fun z35313 F9 H locs hT hz35313 => ?_)
  obtain ⟨fz35313, hz35313⟩ := hz35313
  rw [fz35313] at hT
  obtain ⟨hz35313, iz35313⟩ := hz35313
  refine lv_if_eq (tgt := 28) hx hb dX13_isDepth_5 (by decide) (fun c35314 => ?_) (fun c35314 => ?_)
  · have w35315 := cv_eq (rfl : z35313.toInt = z35313.toInt) (by decide : (0 : Int32).toInt = 0) c35314
    refine lv_iconst (v := 0) hx hb dX13_isDepth_28 (by decide) ?_
    have k35316 : (0 : Int32).toInt = 0 := by decide
    exact t_zret hQ X hT (by decide) (⟨rfl, ⟨(by decide), fun h => absurd (by decide) h⟩⟩) (Nat.le_of_ble_eq_true rfl) (Nat.le_of_ble_eq_true rfl) dX13_isDepth_29
  · have w35317 := cv_ne (rfl : z35313.toInt = z35313.toInt) (by decide : (0 : Int32).toInt = 0) c35314
    have w35318 := (fun h => (iz35313 h)) (by omega)
    refine lv_iload_n hx hb dX13_isDepth_8 rfl (lv_at hl 2 rfl) ?_
    refine lv_if_lt (tgt := 28) hx hb dX13_isDepth_9 (by decide) (fun c35319 => ?_) (fun c35319 => ?_)
    · have w35320 := cv_lt (rfl : p2.toInt = p2.toInt) (by decide : (0 : Int32).toInt = 0) c35319
      refine lv_iconst (v := 0) hx hb dX13_isDepth_28 (by decide) ?_
      have k35321 : (0 : Int32).toInt = 0 := by decide
      exact t_zret hQ X hT (by decide) (⟨rfl, ⟨(by decide), fun h => absurd (by decide) h⟩⟩) (Nat.le_of_ble_eq_true rfl) (Nat.le_of_ble_eq_true rfl) dX13_isDepth_29
    · have w35322 := cv_nlt (rfl : p2.toInt = p2.toInt) (by decide : (0 : Int32).toInt = 0) c35319
      refine lv_iload_n hx hb dX13_isDepth_12 rfl (lv_at hl 2 rfl) ?_
      refine lv_aload_n hx hb dX13_isDepth_13 rfl (lv_at hl 0 rfl) ?_
      refine t_get (C := RX13) (T := TX13) (N := 37) X hT m0 g0 rfl rfl 16 (by decide) qw_112 inlX13 rfl dX13_isDepth_14 (fun v35323 hv35323 ov35323 => ?_)
      obtain ⟨b35324, rfl, mb35324, gb35324⟩ := okV_r ov35323
      have gb35324 : tag b35324 = 37 := tg_of gb35324
      refine lv_iconst (v := 0) hx hb dX13_isDepth_17 (by decide) ?_
      refine lv_iload_n hx hb dX13_isDepth_18 rfl (lv_at hl 1 rfl) ?_
      refine lv_iadd hx hb dX13_isDepth_19 ?_
      refine lv_topi (fun z35325 ez35325 => ?_)
      obtain rfl : p1 = z35325 := (ar_zadd ez35325).symm
      refine t_ild X hT mb35324 gb35324 rfl (by omega) dX13_isDepth_20 (fun z35326 vz35326 rz35326 => ?_)
      have rz35326 := row_ml (by omega) rz35326
      refine lv_icmp_gt (tgt := 28) hx hb dX13_isDepth_21 (by decide) (fun c35327 => ?_) (fun c35327 => ?_)
      · have w35328 := cv_lt (rfl : z35326.toInt = z35326.toInt) (rfl : p2.toInt = p2.toInt) c35327
        refine lv_iconst (v := 0) hx hb dX13_isDepth_28 (by decide) ?_
        have k35329 : (0 : Int32).toInt = 0 := by decide
        exact t_zret hQ X hT (by decide) (⟨rfl, ⟨(by decide), fun h => absurd (by decide) h⟩⟩) (Nat.le_of_ble_eq_true rfl) (Nat.le_of_ble_eq_true rfl) dX13_isDepth_29
      · have w35330 := cv_nlt (rfl : z35326.toInt = z35326.toInt) (rfl : p2.toInt = p2.toInt) c35327
        refine lv_iconst (v := 1) hx hb dX13_isDepth_24 (by decide) ?_
        refine lv_goto (tgt := 29) hx hb dX13_isDepth_25 (by decide) ?_
        have k35331 : (1 : Int32).toInt = 1 := by decide
        exact t_zret hQ X hT (by decide) (⟨rfl, ⟨(by decide), fun _ => ⟨by omega, by omega⟩⟩⟩) (Nat.le_of_ble_eq_true rfl) (Nat.le_of_ble_eq_true rfl) dX13_isDepth_29
set_option maxHeartbeats 4000000 in
set_option maxRecDepth 100000 in
theorem km125_X13_warmth (l : Launch) (G : KG) (tag : Nat → Nat) (L : List Nat) (F : Nat → va_E) (ho : okT G ttC tag L F) (p0 : Nat) (p1 : Int32) (p2 : Int32) (x0 : Nat) (m0 : p0 ∈ L) (g0 : tag p0 = 46) (h1 : 0 ≤ p1.toInt ∧ p1.toInt ≤ 3) (mx0 : x0 ∈ L) (gx0 : tag x0 = 45) (pf0 : fld F p0 3 = .ref x0) : TMi l yX13_warmth cX13_warmth 5 (some .int) { frames := 1, cells := 0, slots := 0, locals := 22 } G ttC tag L F [.ref p0, .int p1, .int p2] (fun r F1 => F1 = F ∧ ((-2147483648) ≤ r.toInt ∧ r.toInt ≤ 2147483647)) := by
  refine t_bodyi (y := yX13_warmth) (cd := cX13_warmth) (mL := 5) (rt := (some .int)) (rm := { frames := 1, cells := 0, slots := 0, locals := 22 }) (av := [.ref p0, .int p1, .int p2]) (by decide) (Nat.le_of_ble_eq_true rfl) ho ?_
  intro p e s m args below meth c ls A Q hQ X hT hl
  have hx := X.1.1
  have hb := X.1.2.1
  have hl : lv_has ls 5 [(0, .ref p0), (1, .int p1), (2, .int p2)] := hl
  have rp2 := rg_all p2
  have K13 : ∀ (n : Nat) (z35706 : Int32) (z35707 : Int32) (H : Heap) (locs : List Loc) (ls : Array Slot), (7 - z35707.toInt < (n : Int)) → (1 ≤ z35707.toInt ∧ z35707.toInt ≤ 2147483647) → TH G ttC A s tag L F H locs → lv_has ls 5 [(0, .ref p0), (1, .int p1), (2, .int p2), (3, .int z35706), (4, .int z35707)] → W p l e { frames := 1, cells := 0, slots := 0, locals := 22 } s m args below meth c H locs 0 0 Q (F0 m 13 ls []) := by
    intro n
    induction n with
    | zero =>
      intro z35706 z35707 H locs ls hn rz35707 hT hl
      have rz35706 := rg_all z35706
      refine lv_iload hx hb dX13_warmth_13 (lv_at hl 4 rfl) ?_
      refine lv_aload_n hx hb dX13_warmth_15 rfl (lv_at hl 0 rfl) ?_
      refine t_get (C := RX13) (T := TX13) (N := 37) X hT m0 g0 rfl rfl 16 (by decide) qw_112 inlX13 rfl dX13_warmth_16 (fun v35708 hv35708 ov35708 => ?_)
      obtain ⟨b35709, rfl, mb35709, gb35709⟩ := okV_r ov35708
      have gb35709 : tag b35709 = 37 := tg_of gb35709
      refine lv_iconst (v := 0) hx hb dX13_warmth_19 (by decide) ?_
      refine lv_iload_n hx hb dX13_warmth_20 rfl (lv_at hl 1 rfl) ?_
      refine lv_iadd hx hb dX13_warmth_21 ?_
      refine lv_topi (fun z35710 ez35710 => ?_)
      obtain rfl : p1 = z35710 := (ar_zadd ez35710).symm
      refine t_ild X hT mb35709 gb35709 rfl (by omega) dX13_warmth_22 (fun z35711 vz35711 rz35711 => ?_)
      have rz35711 := row_ml (by omega) rz35711
      refine lv_icmp_gt (tgt := 74) hx hb dX13_warmth_23 (by decide) (fun c35712 => ?_) (fun c35712 => ?_)
      · have w35713 := cv_lt (rfl : z35711.toInt = z35711.toInt) (rfl : z35707.toInt = z35707.toInt) c35712
        refine lv_iload_n hx hb dX13_warmth_74 rfl (lv_at hl 3 rfl) ?_
        exact t_iret hQ X hT (⟨rfl, rg_all _⟩) (Nat.le_of_ble_eq_true rfl) (Nat.le_of_ble_eq_true rfl) dX13_warmth_75
      · have w35714 := cv_nlt (rfl : z35711.toInt = z35711.toInt) (rfl : z35707.toInt = z35707.toInt) c35712
        exfalso
        omega
    | succ n ih13 =>
      intro z35706 z35707 H locs ls hn rz35707 hT hl
      have rz35706 := rg_all z35706
      have K66 : ∀ (z35716 : Int32) (z35717 : Int32) (H : Heap) (locs : List Loc) (ls : Array Slot), (1 ≤ z35707.toInt ∧ z35707.toInt ≤ 6) → TH G ttC A s tag L F H locs → lv_has ls 5 [(0, .ref p0), (1, .int p1), (2, .int p2), (3, .int z35706), (4, .int z35707)] → W p l e { frames := 1, cells := 0, slots := 0, locals := 22 } s m args below meth c H locs 0 0 Q (F0 m 66 ls [.int z35716, .int z35717]) := by
        intro z35716 z35717 H locs ls r9s35715 hT hl
        have rz35716 := rg_all z35716
        have rz35717 := rg_all z35717
        refine lv_iadd hx hb dX13_warmth_66 ?_
        refine lv_topi (fun z35718 ez35718 => ?_)
        have rz35718 := rg_all z35718
        refine lv_istore_n (lv' := [(3, .int z35718), (0, .ref p0), (1, .int p1), (2, .int p2), (4, .int z35707)]) hx hb dX13_warmth_67 rfl hl (by decide) rfl (fun ls hl => ?_)
        obtain ⟨z35719, ez35719⟩ : ∃ y : Int32, y = z35707 + 1 := ⟨_, rfl⟩
        have hz35719 : z35719.toInt = z35707.toInt + 1 := ar_add ez35719 rfl (by decide : (1 : Int32).toInt = 1) (by omega) (by omega)
        refine lv_iinc (v := z35719) (lv' := [(4, .int z35719), (3, .int z35718), (0, .ref p0), (1, .int p1), (2, .int p2)]) hx hb dX13_warmth_68 hl (k := 4) rfl (by rw [ez35719]; rfl) (by decide) rfl (fun ls hl => ?_)
        refine lv_goto (tgt := 13) hx hb dX13_warmth_71 (by decide) ?_
        exact ih13 z35718 z35719 _ _ _ (by omega) (by omega) hT  (lv_sub hl [2, 3, 4, 1, 0] rfl)
      refine lv_iload hx hb dX13_warmth_13 (lv_at hl 4 rfl) ?_
      refine lv_aload_n hx hb dX13_warmth_15 rfl (lv_at hl 0 rfl) ?_
      refine t_get (C := RX13) (T := TX13) (N := 37) X hT m0 g0 rfl rfl 16 (by decide) qw_112 inlX13 rfl dX13_warmth_16 (fun v35720 hv35720 ov35720 => ?_)
      obtain ⟨b35721, rfl, mb35721, gb35721⟩ := okV_r ov35720
      have gb35721 : tag b35721 = 37 := tg_of gb35721
      refine lv_iconst (v := 0) hx hb dX13_warmth_19 (by decide) ?_
      refine lv_iload_n hx hb dX13_warmth_20 rfl (lv_at hl 1 rfl) ?_
      refine lv_iadd hx hb dX13_warmth_21 ?_
      refine lv_topi (fun z35722 ez35722 => ?_)
      obtain rfl : p1 = z35722 := (ar_zadd ez35722).symm
      refine t_ild X hT mb35721 gb35721 rfl (by omega) dX13_warmth_22 (fun z35723 vz35723 rz35723 => ?_)
      have rz35723 := row_ml (by omega) rz35723
      refine lv_icmp_gt (tgt := 74) hx hb dX13_warmth_23 (by decide) (fun c35724 => ?_) (fun c35724 => ?_)
      · have w35725 := cv_lt (rfl : z35723.toInt = z35723.toInt) (rfl : z35707.toInt = z35707.toInt) c35724
        refine lv_iload_n hx hb dX13_warmth_74 rfl (lv_at hl 3 rfl) ?_
        exact t_iret hQ X hT (⟨rfl, rg_all _⟩) (Nat.le_of_ble_eq_true rfl) (Nat.le_of_ble_eq_true rfl) dX13_warmth_75
      · have w35726 := cv_nlt (rfl : z35723.toInt = z35723.toInt) (rfl : z35707.toInt = z35707.toInt) c35724
        refine lv_iload_n hx hb dX13_warmth_26 rfl (lv_at hl 3 rfl) ?_
        refine lv_aload_n hx hb dX13_warmth_27 rfl (lv_at hl 0 rfl) ?_
        refine t_get (C := RX13) (T := TX13) (N := 37) X hT m0 g0 rfl rfl 16 (by decide) qw_112 inlX13 rfl dX13_warmth_28 (fun v35727 hv35727 ov35727 => ?_)
        obtain rfl : v35727 = .ref b35721 := hv35727.symm.trans hv35720
        refine lv_iload_n hx hb dX13_warmth_31 rfl (lv_at hl 1 rfl) ?_
        refine lv_iload hx hb dX13_warmth_32 (lv_at hl 4 rfl) ?_
        refine lv_iconst (v := 5) hx hb dX13_warmth_34 (by decide) ?_
        refine t_cSi (n := 3) (As := [.int p1, .int z35707, .int 5]) (rest := [.ref b35721, .int z35706]) X hT (km49_X13_part l G tag L F hT.2.2.2 p1 z35707 5 (by omega) (by omega) (by decide)) qw_661 qw_662 qw_5 qw_663 ⟨by decide +kernel, by decide +kernel, by decide +kernel⟩ ⟨Nat.le_of_ble_eq_true rfl, Nat.le_of_ble_eq_true rfl⟩ hl rfl rfl (Nat.le_of_ble_eq_true rfl) dX13_warmth_35 ⟨Nat.le_of_ble_eq_true rfl, Nat.le_of_ble_eq_true rfl⟩ (fun z35728 F9 H locs hT hz35728 => ?_)
        obtain ⟨fz35728, hz35728, xz35728_0⟩ := hz35728
        rw [fz35728] at hT
        have k35729 : (5 : Int32).toInt = 5 := by decide
        refine t_ild X hT mb35721 gb35721 rfl (by omega) dX13_warmth_38 (fun z35730 vz35730 rz35730 => ?_)
        have oz35730 := rz35730
        have rz35730 := rg_all z35730
        refine lv_if_ne (tgt := 65) hx hb dX13_warmth_39 (by decide) (fun c35731 => ?_) (fun c35731 => ?_)
        · have w35732 := cv_ne (rfl : z35730.toInt = z35730.toInt) (by decide : (0 : Int32).toInt = 0) c35731
          refine lv_iconst (v := 0) hx hb dX13_warmth_65 (by decide) ?_
          have k35733 : (0 : Int32).toInt = 0 := by decide
          exact K66 0 z35706 _ _ _ (by omega) hT  (lv_sub hl [0, 1, 2, 3, 4] rfl)
        · have w35734 := cv_eq (rfl : z35730.toInt = z35730.toInt) (by decide : (0 : Int32).toInt = 0) c35731
          refine lv_aload_n hx hb dX13_warmth_42 rfl (lv_at hl 0 rfl) ?_
          refine t_get (C := RX13) (T := TX13) (N := 37) X hT m0 g0 rfl rfl 3 (by decide) qw_481 inlX13 rfl dX13_warmth_43 (fun v35735 hv35735 ov35735 => ?_)
          obtain rfl : v35735 = .ref x0 := hv35735.symm.trans pf0
          refine t_getN (C := RX12) (T := TX12) (N := 31) X hT mx0 gx0 rfl rfl 18 (by decide) (List.mem_of_getElem? (i := 22) rfl) inlX12 rfl dX13_warmth_46 (fun v35736 hv35736 ov35736 => ?_)
          obtain ⟨b35737, rfl, mb35737, gb35737⟩ := okV_r ov35736
          have gb35737 : tag b35737 = 29 := tg_of gb35737
          refine lv_aload_n hx hb dX13_warmth_49 rfl (lv_at hl 0 rfl) ?_
          refine t_get (C := RX13) (T := TX13) (N := 37) X hT m0 g0 rfl rfl 16 (by decide) qw_112 inlX13 rfl dX13_warmth_50 (fun v35738 hv35738 ov35738 => ?_)
          obtain rfl : v35738 = .ref b35721 := hv35738.symm.trans hv35720
          refine lv_iload_n hx hb dX13_warmth_53 rfl (lv_at hl 1 rfl) ?_
          refine lv_iload hx hb dX13_warmth_54 (lv_at hl 4 rfl) ?_
          refine lv_iconst (v := 0) hx hb dX13_warmth_56 (by decide) ?_
          refine t_cSi (n := 3) (As := [.int p1, .int z35707, .int 0]) (rest := [.ref b35721, .ref b35737, .int z35706]) X hT (km49_X13_part l G tag L F hT.2.2.2 p1 z35707 0 (by omega) (by omega) (by decide)) qw_661 qw_662 qw_5 qw_663 ⟨by decide +kernel, by decide +kernel, by decide +kernel⟩ ⟨Nat.le_of_ble_eq_true rfl, Nat.le_of_ble_eq_true rfl⟩ hl rfl rfl (Nat.le_of_ble_eq_true rfl) dX13_warmth_57 ⟨Nat.le_of_ble_eq_true rfl, Nat.le_of_ble_eq_true rfl⟩ (fun z35739 F9 H locs hT hz35739 => ?_)
          obtain ⟨fz35739, hz35739, xz35739_0⟩ := hz35739
          rw [fz35739] at hT
          have k35740 : (0 : Int32).toInt = 0 := by decide
          refine t_ild X hT mb35721 gb35721 rfl (by omega) dX13_warmth_60 (fun z35741 vz35741 rz35741 => ?_)
          have rz35741 := row_sl (by omega) (by omega) rz35741
          refine t_ild X hT mb35737 gb35737 rfl (by omega) dX13_warmth_61 (fun z35742 vz35742 rz35742 => ?_)
          have rz35742 : (-2147483648) ≤ z35742.toInt ∧ z35742.toInt ≤ 2147483647 := rz35742
          refine lv_goto (tgt := 66) hx hb dX13_warmth_62 (by decide) ?_
          exact K66 z35742 z35706 _ _ _ (by omega) hT  (lv_sub hl [0, 1, 2, 3, 4] rfl)
  have K11 : ∀ (z35743 : Int32) (z35744 : Int32) (H : Heap) (locs : List Loc) (ls : Array Slot), (0 ≤ z35743.toInt ∧ z35743.toInt ≤ 0) → (1 ≤ z35744.toInt ∧ z35744.toInt ≤ 2147483647) → TH G ttC A s tag L F H locs → lv_has ls 5 [(0, .ref p0), (1, .int p1), (2, .int p2), (3, .int z35743)] → W p l e { frames := 1, cells := 0, slots := 0, locals := 22 } s m args below meth c H locs 0 0 Q (F0 m 11 ls [.int z35744]) := by
    intro z35743 z35744 H locs ls rz35743 rz35744 hT hl
    refine lv_istore (lv' := [(4, .int z35744), (0, .ref p0), (1, .int p1), (2, .int p2), (3, .int z35743)]) hx hb dX13_warmth_11 hl (by decide) rfl (fun ls hl => ?_)
    exact K13 7 z35743 z35744 _ _ _ (by omega) (by omega) hT  (lv_sub hl [1, 2, 3, 4, 0] rfl)
  refine lv_iconst (v := 0) hx hb dX13_warmth_0 (by decide) ?_
  refine lv_istore_n (lv' := [(3, .int 0), (0, .ref p0), (1, .int p1), (2, .int p2)]) hx hb dX13_warmth_1 rfl hl (by decide) rfl (fun ls hl => ?_)
  refine lv_iload_n hx hb dX13_warmth_2 rfl (lv_at hl 3 rfl) ?_
  refine lv_if_le (tgt := 10) hx hb dX13_warmth_3 (by decide) (fun c35745 => ?_) (fun c35745 => ?_)
  · have w35746 := cv_le (rfl : p2.toInt = p2.toInt) (by decide : (0 : Int32).toInt = 0) c35745
    refine lv_iconst (v := 1) hx hb dX13_warmth_10 (by decide) ?_
    have k35747 : (0 : Int32).toInt = 0 := by decide
    have k35748 : (1 : Int32).toInt = 1 := by decide
    exact K11 0 1 _ _ _ (by decide) (by decide) hT  (lv_sub hl [1, 2, 3, 0] rfl)
  · have w35749 := cv_nle (rfl : p2.toInt = p2.toInt) (by decide : (0 : Int32).toInt = 0) c35745
    refine lv_iload_n hx hb dX13_warmth_6 rfl (lv_at hl 3 rfl) ?_
    refine lv_goto (tgt := 11) hx hb dX13_warmth_7 (by decide) ?_
    have k35750 : (0 : Int32).toInt = 0 := by decide
    exact K11 0 p2 _ _ _ (by decide) (by omega) hT  (lv_sub hl [1, 2, 3, 0] rfl)
set_option maxHeartbeats 4000000 in
set_option maxRecDepth 100000 in
theorem km126_X13_warm (l : Launch) (G : KG) (tag : Nat → Nat) (L : List Nat) (Fo : Nat → va_E) (ho : okT G ttC tag L Fo) (p0 : Nat) (p1 : Int32) (p2 : Int32) (x0 : Nat) (m0 : p0 ∈ L) (g0 : tag p0 = 46) (mx0 : x0 ∈ L) (gx0 : tag x0 = 45) (pf0 : fld Fo p0 3 = .ref x0) : TMi l yX13_warm cX13_warm 3 (some .int) { frames := 2, cells := 0, slots := 0, locals := 46 } G ttC tag L Fo [.ref p0, .int p1, .int p2] (fun r F1 => ((-2147483648) ≤ r.toInt ∧ r.toInt ≤ 2147483647) ∧ ((∀ b j : Nat, (tag b ≠ 46 ∨ j ≠ 0) → (tag b ≠ 46 ∨ j ≠ 1) → (tag b ≠ 46 ∨ j ≠ 2) → fld F1 b j = fld Fo b j) ∧ (∀ b j : Nat, elm F1 b j = elm Fo b j))) := by
  refine t_bodyi (y := yX13_warm) (cd := cX13_warm) (mL := 3) (rt := (some .int)) (rm := { frames := 2, cells := 0, slots := 0, locals := 46 }) (av := [.ref p0, .int p1, .int p2]) (by decide) (Nat.le_of_ble_eq_true rfl) ho ?_
  intro p e s m args below meth c ls A Q hQ X hT hl
  have hx := X.1.1
  have hb := X.1.2.1
  have hl : lv_has ls 3 [(0, .ref p0), (1, .int p1), (2, .int p2)] := hl
  have rp1 := rg_all p1
  have rp2 := rg_all p2
  obtain ⟨F, hFo⟩ : ∃ F : Nat → va_E, F = Fo := ⟨_, rfl⟩
  rw [← hFo] at hT pf0
  have hfr : (∀ b j : Nat, (tag b ≠ 46 ∨ j ≠ 0) → (tag b ≠ 46 ∨ j ≠ 1) → (tag b ≠ 46 ∨ j ≠ 2) → fld F b j = fld Fo b j) ∧ (∀ b j : Nat, elm F b j = elm Fo b j) := by
    rw [hFo]
    exact ⟨by intros; rfl, by intros; rfl⟩
  refine lv_aload_n hx hb dX13_warm_0 rfl (lv_at hl 0 rfl) ?_
  refine lv_iconst (v := 0) hx hb dX13_warm_1 (by decide) ?_
  refine t_put (C := RX13) (T := TX13) (N := 37) (v := .int 0) X hT m0 g0 rfl tyX13 tyX13_ok nmX13 rfl 0 (by decide) qw_140 inlX13 rfl (by first | rfl | decide) (by first | rfl | decide) rfl (⟨_, rfl, (show (-2147483648) ≤ (0 : Int32).toInt from (by decide)), (show (0 : Int32).toInt ≤ 2147483647 from (by decide))⟩) dX13_warm_2 (fun F H locs hT v35853 h1v35853 h2v35853 => ?_)
  have pf0 := (h1v35853 _ _ (Or.inr (by decide))).trans pf0
  have hfr : (∀ b j : Nat, (tag b ≠ 46 ∨ j ≠ 0) → (tag b ≠ 46 ∨ j ≠ 1) → (tag b ≠ 46 ∨ j ≠ 2) → fld F b j = fld Fo b j) ∧ (∀ b j : Nat, elm F b j = elm Fo b j) := ⟨fun b j n46_0 n46_1 n46_2 => (h1v35853 b j (fr_ne g0 n46_0)).trans (hfr.1 b j n46_0 n46_1 n46_2), fun b j  => (h2v35853 b j).trans (hfr.2 b j )⟩
  refine lv_aload_n hx hb dX13_warm_5 rfl (lv_at hl 0 rfl) ?_
  refine lv_iload_n hx hb dX13_warm_6 rfl (lv_at hl 1 rfl) ?_
  refine lv_iload_n hx hb dX13_warm_7 rfl (lv_at hl 2 rfl) ?_
  refine t_cVi (n := 2) (C := RX13) (T := TX13) (N := 37) (As := [.int p1, .int p2]) (rest := []) X hT (km124_X13_isDepth l G tag L F hT.2.2.2 p0 p1 p2 x0 m0 g0 mx0 gx0 pf0) m0 g0 rfl rfl qw_865 qw_866 qw_867 qw_5 qw_868 ⟨rfl, by decide +kernel, by decide +kernel, by decide +kernel⟩ ⟨Nat.le_of_ble_eq_true rfl, Nat.le_of_ble_eq_true rfl⟩ hl rfl rfl (Nat.le_of_ble_eq_true rfl) dX13_warm_8 ⟨Nat.le_of_ble_eq_true rfl, Nat.le_of_ble_eq_true rfl⟩ (fun z35854 F9 H locs hT hz35854 => ?_)
  obtain ⟨fz35854, hz35854⟩ := hz35854
  rw [fz35854] at hT
  obtain ⟨hz35854, iz35854⟩ := hz35854
  refine lv_if_eq (tgt := 27) hx hb dX13_warm_11 (by decide) (fun c35855 => ?_) (fun c35855 => ?_)
  · have w35856 := cv_eq (rfl : z35854.toInt = z35854.toInt) (by decide : (0 : Int32).toInt = 0) c35855
    refine lv_aload_n hx hb dX13_warm_27 rfl (lv_at hl 0 rfl) ?_
    refine lv_iconst (v := 1) hx hb dX13_warm_28 (by decide) ?_
    refine t_cVi (n := 1) (C := RX13) (T := TX13) (N := 37) (As := [.int 1]) (rest := []) X hT (km88_X13_refused l G tag L F hT.2.2.2 p0 1 m0 g0) m0 g0 rfl rfl qw_484 qw_485 qw_486 qw_5 qw_487 ⟨rfl, by decide +kernel, by decide +kernel, by decide +kernel⟩ ⟨Nat.le_of_ble_eq_true rfl, Nat.le_of_ble_eq_true rfl⟩ hl rfl rfl (Nat.le_of_ble_eq_true rfl) dX13_warm_29 ⟨Nat.le_of_ble_eq_true rfl, Nat.le_of_ble_eq_true rfl⟩ (fun z35857 F H locs hT hz35857 => ?_)
    obtain ⟨hz35857, yz35857⟩ := hz35857
    have pf0 := (yz35857.1 _ 3 (Or.inr (by decide)) (Or.inr (by decide))).trans pf0
    have v35853 := (yz35857.1 _ 0 (Or.inr (by decide)) (Or.inr (by decide))).trans v35853
    have hfr : (∀ b j : Nat, (tag b ≠ 46 ∨ j ≠ 0) → (tag b ≠ 46 ∨ j ≠ 1) → (tag b ≠ 46 ∨ j ≠ 2) → fld F b j = fld Fo b j) ∧ (∀ b j : Nat, elm F b j = elm Fo b j) := ⟨fun b j n46_0 n46_1 n46_2 => (yz35857.1 b j n46_1 n46_2).trans (hfr.1 b j n46_0 n46_1 n46_2), fun b j  => (yz35857.2 b j ).trans (hfr.2 b j )⟩
    exact t_iret hQ X hT (⟨rg_all _, hfr⟩) (Nat.le_of_ble_eq_true rfl) (Nat.le_of_ble_eq_true rfl) dX13_warm_32
  · have w35858 := cv_ne (rfl : z35854.toInt = z35854.toInt) (by decide : (0 : Int32).toInt = 0) c35855
    have w35859 := (fun h => (iz35854 h).1) (by omega)
    have w35860 := (fun h => (iz35854 h).2) (by omega)
    refine lv_aload_n hx hb dX13_warm_14 rfl (lv_at hl 0 rfl) ?_
    refine lv_aload_n hx hb dX13_warm_15 rfl (lv_at hl 0 rfl) ?_
    refine lv_iload_n hx hb dX13_warm_16 rfl (lv_at hl 1 rfl) ?_
    refine lv_iload_n hx hb dX13_warm_17 rfl (lv_at hl 2 rfl) ?_
    refine t_cVi (n := 2) (C := RX13) (T := TX13) (N := 37) (As := [.int p1, .int p2]) (rest := [.ref p0]) X hT (km125_X13_warmth l G tag L F hT.2.2.2 p0 p1 p2 x0 m0 g0 (by omega) mx0 gx0 pf0) m0 g0 rfl rfl qw_869 qw_870 qw_871 qw_5 qw_872 ⟨rfl, by decide +kernel, by decide +kernel, by decide +kernel⟩ ⟨Nat.le_of_ble_eq_true rfl, Nat.le_of_ble_eq_true rfl⟩ hl rfl rfl (Nat.le_of_ble_eq_true rfl) dX13_warm_18 ⟨Nat.le_of_ble_eq_true rfl, Nat.le_of_ble_eq_true rfl⟩ (fun z35861 F9 H locs hT hz35861 => ?_)
    obtain ⟨fz35861, hz35861⟩ := hz35861
    rw [fz35861] at hT
    refine t_cVi (n := 1) (C := RX13) (T := TX13) (N := 37) (As := [.int z35861]) (rest := []) X hT (km93_X13_good l G tag L F hT.2.2.2 p0 z35861 m0 g0) m0 g0 rfl rfl qw_687 qw_688 qw_689 qw_5 qw_690 ⟨rfl, by decide +kernel, by decide +kernel, by decide +kernel⟩ ⟨Nat.le_of_ble_eq_true rfl, Nat.le_of_ble_eq_true rfl⟩ hl rfl rfl (Nat.le_of_ble_eq_true rfl) dX13_warm_21 ⟨Nat.le_of_ble_eq_true rfl, Nat.le_of_ble_eq_true rfl⟩ (fun z35862 F H locs hT hz35862 => ?_)
    obtain ⟨hz35862, yz35862⟩ := hz35862
    have pf0 := (yz35862.1 _ 3 (Or.inr (by decide)) (Or.inr (by decide))).trans pf0
    have v35853 := (yz35862.1 _ 0 (Or.inr (by decide)) (Or.inr (by decide))).trans v35853
    have hfr : (∀ b j : Nat, (tag b ≠ 46 ∨ j ≠ 0) → (tag b ≠ 46 ∨ j ≠ 1) → (tag b ≠ 46 ∨ j ≠ 2) → fld F b j = fld Fo b j) ∧ (∀ b j : Nat, elm F b j = elm Fo b j) := ⟨fun b j n46_0 n46_1 n46_2 => (yz35862.1 b j n46_1 n46_2).trans (hfr.1 b j n46_0 n46_1 n46_2), fun b j  => (yz35862.2 b j ).trans (hfr.2 b j )⟩
    refine lv_goto (tgt := 32) hx hb dX13_warm_24 (by decide) ?_
    exact t_iret hQ X hT (⟨rg_all _, hfr⟩) (Nat.le_of_ble_eq_true rfl) (Nat.le_of_ble_eq_true rfl) dX13_warm_32
set_option maxHeartbeats 4000000 in
set_option maxRecDepth 100000 in
theorem km127_X13_isDepth (l : Launch) (G : KG) (tag : Nat → Nat) (L : List Nat) (F : Nat → va_E) (ho : okT G ttC tag L F) (p0 : Nat) (p1 : Int32) (p2 : Int32) (m0 : p0 ∈ L) (g0 : tag p0 = 46) (pf0 : fld F p0 3 = .null) : TMi l yX13_isDepth cX13_isDepth 3 (some .boolean) { frames := 1, cells := 0, slots := 0, locals := 21 } G ttC tag L F [.ref p0, .int p1, .int p2] (fun r F1 => F1 = F ∧ (0 ≤ r.toInt ∧ r.toInt ≤ 0)) := by
  refine t_bodyi (y := yX13_isDepth) (cd := cX13_isDepth) (mL := 3) (rt := (some .boolean)) (rm := { frames := 1, cells := 0, slots := 0, locals := 21 }) (av := [.ref p0, .int p1, .int p2]) (by decide) (Nat.le_of_ble_eq_true rfl) ho ?_
  intro p e s m args below meth c ls A Q hQ X hT hl
  have hx := X.1.1
  have hb := X.1.2.1
  have hl : lv_has ls 3 [(0, .ref p0), (1, .int p1), (2, .int p2)] := hl
  have rp1 := rg_all p1
  have rp2 := rg_all p2
  refine lv_aload_n hx hb dX13_isDepth_0 rfl (lv_at hl 0 rfl) ?_
  refine lv_iload_n hx hb dX13_isDepth_1 rfl (lv_at hl 1 rfl) ?_
  refine t_cVi (n := 1) (C := RX13) (T := TX13) (N := 37) (As := [.int p1]) (rest := []) X hT (km116_X13_isHouse l G tag L F hT.2.2.2 p0 p1 m0 g0 pf0) m0 g0 rfl rfl qw_796 qw_797 qw_798 qw_5 qw_799 ⟨rfl, by decide +kernel, by decide +kernel, by decide +kernel⟩ ⟨Nat.le_of_ble_eq_true rfl, Nat.le_of_ble_eq_true rfl⟩ hl rfl rfl (Nat.le_of_ble_eq_true rfl) dX13_isDepth_2 ⟨Nat.le_of_ble_eq_true rfl, Nat.le_of_ble_eq_true rfl⟩ (fun z35908 F9 H locs hT hz35908 => ?_)
  obtain ⟨fz35908, hz35908⟩ := hz35908
  rw [fz35908] at hT
  refine lv_if_eq (tgt := 28) hx hb dX13_isDepth_5 (by decide) (fun c35909 => ?_) (fun c35909 => ?_)
  · have w35910 := cv_eq (rfl : z35908.toInt = z35908.toInt) (by decide : (0 : Int32).toInt = 0) c35909
    refine lv_iconst (v := 0) hx hb dX13_isDepth_28 (by decide) ?_
    have k35911 : (0 : Int32).toInt = 0 := by decide
    exact t_zret hQ X hT (by decide) (⟨rfl, (by decide)⟩) (Nat.le_of_ble_eq_true rfl) (Nat.le_of_ble_eq_true rfl) dX13_isDepth_29
  · have w35912 := cv_ne (rfl : z35908.toInt = z35908.toInt) (by decide : (0 : Int32).toInt = 0) c35909
    exfalso
    omega
set_option maxHeartbeats 4000000 in
set_option maxRecDepth 100000 in
theorem km128_X13_warm (l : Launch) (G : KG) (tag : Nat → Nat) (L : List Nat) (Fo : Nat → va_E) (ho : okT G ttC tag L Fo) (p0 : Nat) (p1 : Int32) (p2 : Int32) (m0 : p0 ∈ L) (g0 : tag p0 = 46) (pf0 : fld Fo p0 3 = .null) : TMi l yX13_warm cX13_warm 3 (some .int) { frames := 2, cells := 0, slots := 0, locals := 46 } G ttC tag L Fo [.ref p0, .int p1, .int p2] (fun r F1 => ((-2147483648) ≤ r.toInt ∧ r.toInt ≤ 2147483647) ∧ ((∀ b j : Nat, (tag b ≠ 46 ∨ j ≠ 0) → (tag b ≠ 46 ∨ j ≠ 1) → (tag b ≠ 46 ∨ j ≠ 2) → fld F1 b j = fld Fo b j) ∧ (∀ b j : Nat, elm F1 b j = elm Fo b j))) := by
  refine t_bodyi (y := yX13_warm) (cd := cX13_warm) (mL := 3) (rt := (some .int)) (rm := { frames := 2, cells := 0, slots := 0, locals := 46 }) (av := [.ref p0, .int p1, .int p2]) (by decide) (Nat.le_of_ble_eq_true rfl) ho ?_
  intro p e s m args below meth c ls A Q hQ X hT hl
  have hx := X.1.1
  have hb := X.1.2.1
  have hl : lv_has ls 3 [(0, .ref p0), (1, .int p1), (2, .int p2)] := hl
  have rp1 := rg_all p1
  have rp2 := rg_all p2
  obtain ⟨F, hFo⟩ : ∃ F : Nat → va_E, F = Fo := ⟨_, rfl⟩
  rw [← hFo] at hT pf0
  have hfr : (∀ b j : Nat, (tag b ≠ 46 ∨ j ≠ 0) → (tag b ≠ 46 ∨ j ≠ 1) → (tag b ≠ 46 ∨ j ≠ 2) → fld F b j = fld Fo b j) ∧ (∀ b j : Nat, elm F b j = elm Fo b j) := by
    rw [hFo]
    exact ⟨by intros; rfl, by intros; rfl⟩
  refine lv_aload_n hx hb dX13_warm_0 rfl (lv_at hl 0 rfl) ?_
  refine lv_iconst (v := 0) hx hb dX13_warm_1 (by decide) ?_
  refine t_put (C := RX13) (T := TX13) (N := 37) (v := .int 0) X hT m0 g0 rfl tyX13 tyX13_ok nmX13 rfl 0 (by decide) qw_140 inlX13 rfl (by first | rfl | decide) (by first | rfl | decide) rfl (⟨_, rfl, (show (-2147483648) ≤ (0 : Int32).toInt from (by decide)), (show (0 : Int32).toInt ≤ 2147483647 from (by decide))⟩) dX13_warm_2 (fun F H locs hT v35978 h1v35978 h2v35978 => ?_)
  have pf0 := (h1v35978 _ _ (Or.inr (by decide))).trans pf0
  have hfr : (∀ b j : Nat, (tag b ≠ 46 ∨ j ≠ 0) → (tag b ≠ 46 ∨ j ≠ 1) → (tag b ≠ 46 ∨ j ≠ 2) → fld F b j = fld Fo b j) ∧ (∀ b j : Nat, elm F b j = elm Fo b j) := ⟨fun b j n46_0 n46_1 n46_2 => (h1v35978 b j (fr_ne g0 n46_0)).trans (hfr.1 b j n46_0 n46_1 n46_2), fun b j  => (h2v35978 b j).trans (hfr.2 b j )⟩
  refine lv_aload_n hx hb dX13_warm_5 rfl (lv_at hl 0 rfl) ?_
  refine lv_iload_n hx hb dX13_warm_6 rfl (lv_at hl 1 rfl) ?_
  refine lv_iload_n hx hb dX13_warm_7 rfl (lv_at hl 2 rfl) ?_
  refine t_cVi (n := 2) (C := RX13) (T := TX13) (N := 37) (As := [.int p1, .int p2]) (rest := []) X hT (km127_X13_isDepth l G tag L F hT.2.2.2 p0 p1 p2 m0 g0 pf0) m0 g0 rfl rfl qw_865 qw_866 qw_867 qw_5 qw_868 ⟨rfl, by decide +kernel, by decide +kernel, by decide +kernel⟩ ⟨Nat.le_of_ble_eq_true rfl, Nat.le_of_ble_eq_true rfl⟩ hl rfl rfl (Nat.le_of_ble_eq_true rfl) dX13_warm_8 ⟨Nat.le_of_ble_eq_true rfl, Nat.le_of_ble_eq_true rfl⟩ (fun z35979 F9 H locs hT hz35979 => ?_)
  obtain ⟨fz35979, hz35979⟩ := hz35979
  rw [fz35979] at hT
  refine lv_if_eq (tgt := 27) hx hb dX13_warm_11 (by decide) (fun c35980 => ?_) (fun c35980 => ?_)
  · have w35981 := cv_eq (rfl : z35979.toInt = z35979.toInt) (by decide : (0 : Int32).toInt = 0) c35980
    refine lv_aload_n hx hb dX13_warm_27 rfl (lv_at hl 0 rfl) ?_
    refine lv_iconst (v := 1) hx hb dX13_warm_28 (by decide) ?_
    refine t_cVi (n := 1) (C := RX13) (T := TX13) (N := 37) (As := [.int 1]) (rest := []) X hT (km88_X13_refused l G tag L F hT.2.2.2 p0 1 m0 g0) m0 g0 rfl rfl qw_484 qw_485 qw_486 qw_5 qw_487 ⟨rfl, by decide +kernel, by decide +kernel, by decide +kernel⟩ ⟨Nat.le_of_ble_eq_true rfl, Nat.le_of_ble_eq_true rfl⟩ hl rfl rfl (Nat.le_of_ble_eq_true rfl) dX13_warm_29 ⟨Nat.le_of_ble_eq_true rfl, Nat.le_of_ble_eq_true rfl⟩ (fun z35982 F H locs hT hz35982 => ?_)
    obtain ⟨hz35982, yz35982⟩ := hz35982
    have pf0 := (yz35982.1 _ 3 (Or.inr (by decide)) (Or.inr (by decide))).trans pf0
    have v35978 := (yz35982.1 _ 0 (Or.inr (by decide)) (Or.inr (by decide))).trans v35978
    have hfr : (∀ b j : Nat, (tag b ≠ 46 ∨ j ≠ 0) → (tag b ≠ 46 ∨ j ≠ 1) → (tag b ≠ 46 ∨ j ≠ 2) → fld F b j = fld Fo b j) ∧ (∀ b j : Nat, elm F b j = elm Fo b j) := ⟨fun b j n46_0 n46_1 n46_2 => (yz35982.1 b j n46_1 n46_2).trans (hfr.1 b j n46_0 n46_1 n46_2), fun b j  => (yz35982.2 b j ).trans (hfr.2 b j )⟩
    exact t_iret hQ X hT (⟨rg_all _, hfr⟩) (Nat.le_of_ble_eq_true rfl) (Nat.le_of_ble_eq_true rfl) dX13_warm_32
  · have w35983 := cv_ne (rfl : z35979.toInt = z35979.toInt) (by decide : (0 : Int32).toInt = 0) c35980
    exfalso
    omega
theorem kp_X13_warm (l : Launch) (G : KG) (tag : Nat → Nat) (L : List Nat) (Fo : Nat → va_E) (ho : okT G ttC tag L Fo) (p0 : Nat) (p1 : Int32) (p2 : Int32) (m0 : p0 ∈ L) (g0 : tag p0 = 46) : TMi l yX13_warm cX13_warm 3 (some .int) { frames := 2, cells := 0, slots := 0, locals := 46 } G ttC tag L Fo [.ref p0, .int p1, .int p2] (fun r F1 => ((-2147483648) ≤ r.toInt ∧ r.toInt ≤ 2147483647) ∧ ((∀ b j : Nat, (tag b ≠ 46 ∨ j ≠ 0) → (tag b ≠ 46 ∨ j ≠ 1) → (tag b ≠ 46 ∨ j ≠ 2) → fld F1 b j = fld Fo b j) ∧ (∀ b j : Nat, elm F1 b j = elm Fo b j))) := by
  rcases t_fldn ho m0 g0 rfl 3 rfl with h9 | ⟨b9, h9, m9, t9⟩
  · exact km128_X13_warm l G tag L Fo ho p0 p1 p2  m0 g0 h9 
  · exact km126_X13_warm l G tag L Fo ho p0 p1 p2 b9  m0 g0 m9 (tg_of t9) h9 
set_option maxHeartbeats 4000000 in
set_option maxRecDepth 100000 in
theorem km130_X13_light (l : Launch) (G : KG) (tag : Nat → Nat) (L : List Nat) (Fo : Nat → va_E) (ho : okT G ttC tag L Fo) (p0 : Nat) (p1 : Int32) (p2 : Int32) (x0 : Nat) (m0 : p0 ∈ L) (g0 : tag p0 = 46) (mx0 : x0 ∈ L) (gx0 : tag x0 = 45) (pf0 : fld Fo p0 3 = .ref x0) : TMi l yX13_light cX13_light 4 (some .int) { frames := 2, cells := 0, slots := 0, locals := 43 } G ttC tag L Fo [.ref p0, .int p1, .int p2] (fun r F1 => ((-2147483648) ≤ r.toInt ∧ r.toInt ≤ 2147483647) ∧ ((∀ b j : Nat, (tag b ≠ 46 ∨ j ≠ 0) → (tag b ≠ 46 ∨ j ≠ 1) → (tag b ≠ 46 ∨ j ≠ 2) → fld F1 b j = fld Fo b j) ∧ (∀ b j : Nat, elm F1 b j = elm Fo b j))) := by
  refine t_bodyi (y := yX13_light) (cd := cX13_light) (mL := 4) (rt := (some .int)) (rm := { frames := 2, cells := 0, slots := 0, locals := 43 }) (av := [.ref p0, .int p1, .int p2]) (by decide) (Nat.le_of_ble_eq_true rfl) ho ?_
  intro p e s m args below meth c ls A Q hQ X hT hl
  have hx := X.1.1
  have hb := X.1.2.1
  have hl : lv_has ls 4 [(0, .ref p0), (1, .int p1), (2, .int p2)] := hl
  have rp1 := rg_all p1
  have rp2 := rg_all p2
  obtain ⟨F, hFo⟩ : ∃ F : Nat → va_E, F = Fo := ⟨_, rfl⟩
  rw [← hFo] at hT pf0
  have hfr : (∀ b j : Nat, (tag b ≠ 46 ∨ j ≠ 0) → (tag b ≠ 46 ∨ j ≠ 1) → (tag b ≠ 46 ∨ j ≠ 2) → fld F b j = fld Fo b j) ∧ (∀ b j : Nat, elm F b j = elm Fo b j) := by
    rw [hFo]
    exact ⟨by intros; rfl, by intros; rfl⟩
  have K46 : ∀ (z36195 : Int32) (z36196 : Int32) (z36197 : Int32) (F : Nat → va_E) (H : Heap) (locs : List Loc) (ls : Array Slot), ((-9) ≤ z36195.toInt ∧ z36195.toInt ≤ 27) → (0 ≤ z36196.toInt ∧ z36196.toInt ≤ 27) → (0 ≤ z36197.toInt ∧ z36197.toInt ≤ 0) → (0 ≤ p1.toInt ∧ p1.toInt ≤ 3) → (0 ≤ p2.toInt ∧ p2.toInt ≤ 6) → TH G ttC A s tag L F H locs → ((∀ b j : Nat, (tag b ≠ 46 ∨ j ≠ 0) → (tag b ≠ 46 ∨ j ≠ 1) → (tag b ≠ 46 ∨ j ≠ 2) → fld F b j = fld Fo b j) ∧ (∀ b j : Nat, elm F b j = elm Fo b j)) → (fld F p0 3 = .ref x0) → (fld F p0 0 = .int z36197) → lv_has ls 4 [(0, .ref p0), (1, .int p1), (2, .int p2), (3, .int z36195)] → W p l e { frames := 2, cells := 0, slots := 0, locals := 43 } s m args below meth c H locs 0 0 Q (F0 m 46 ls [.int z36196, .ref p0]) := by
    intro z36195 z36196 z36197 F H locs ls rz36195 rz36196 rz36197 r9s36193 r9s36194 hT hfr pf0 qz36197 hl
    refine t_cVi (n := 1) (C := RX13) (T := TX13) (N := 37) (As := [.int z36196]) (rest := []) X hT (km93_X13_good l G tag L F hT.2.2.2 p0 z36196 m0 g0) m0 g0 rfl rfl qw_687 qw_688 qw_689 qw_5 qw_690 ⟨rfl, by decide +kernel, by decide +kernel, by decide +kernel⟩ ⟨Nat.le_of_ble_eq_true rfl, Nat.le_of_ble_eq_true rfl⟩ hl rfl rfl (Nat.le_of_ble_eq_true rfl) dX13_light_46 ⟨Nat.le_of_ble_eq_true rfl, Nat.le_of_ble_eq_true rfl⟩ (fun z36198 F H locs hT hz36198 => ?_)
    obtain ⟨hz36198, yz36198⟩ := hz36198
    have qz36197 := (yz36198.1 _ 0 (Or.inr (by decide)) (Or.inr (by decide))).trans qz36197
    have pf0 := (yz36198.1 _ 3 (Or.inr (by decide)) (Or.inr (by decide))).trans pf0
    have hfr : (∀ b j : Nat, (tag b ≠ 46 ∨ j ≠ 0) → (tag b ≠ 46 ∨ j ≠ 1) → (tag b ≠ 46 ∨ j ≠ 2) → fld F b j = fld Fo b j) ∧ (∀ b j : Nat, elm F b j = elm Fo b j) := ⟨fun b j n46_0 n46_1 n46_2 => (yz36198.1 b j n46_1 n46_2).trans (hfr.1 b j n46_0 n46_1 n46_2), fun b j  => (yz36198.2 b j ).trans (hfr.2 b j )⟩
    exact t_iret hQ X hT (⟨rg_all _, hfr⟩) (Nat.le_of_ble_eq_true rfl) (Nat.le_of_ble_eq_true rfl) dX13_light_49
  refine lv_aload_n hx hb dX13_light_0 rfl (lv_at hl 0 rfl) ?_
  refine lv_iconst (v := 0) hx hb dX13_light_1 (by decide) ?_
  refine t_put (C := RX13) (T := TX13) (N := 37) (v := .int 0) X hT m0 g0 rfl tyX13 tyX13_ok nmX13 rfl 0 (by decide) qw_140 inlX13 rfl (by first | rfl | decide) (by first | rfl | decide) rfl (⟨_, rfl, (show (-2147483648) ≤ (0 : Int32).toInt from (by decide)), (show (0 : Int32).toInt ≤ 2147483647 from (by decide))⟩) dX13_light_2 (fun F H locs hT v36199 h1v36199 h2v36199 => ?_)
  have pf0 := (h1v36199 _ _ (Or.inr (by decide))).trans pf0
  have hfr : (∀ b j : Nat, (tag b ≠ 46 ∨ j ≠ 0) → (tag b ≠ 46 ∨ j ≠ 1) → (tag b ≠ 46 ∨ j ≠ 2) → fld F b j = fld Fo b j) ∧ (∀ b j : Nat, elm F b j = elm Fo b j) := ⟨fun b j n46_0 n46_1 n46_2 => (h1v36199 b j (fr_ne g0 n46_0)).trans (hfr.1 b j n46_0 n46_1 n46_2), fun b j  => (h2v36199 b j).trans (hfr.2 b j )⟩
  refine lv_aload_n hx hb dX13_light_5 rfl (lv_at hl 0 rfl) ?_
  refine lv_iload_n hx hb dX13_light_6 rfl (lv_at hl 1 rfl) ?_
  refine lv_iload_n hx hb dX13_light_7 rfl (lv_at hl 2 rfl) ?_
  refine t_cVi (n := 2) (C := RX13) (T := TX13) (N := 37) (As := [.int p1, .int p2]) (rest := []) X hT (km124_X13_isDepth l G tag L F hT.2.2.2 p0 p1 p2 x0 m0 g0 mx0 gx0 pf0) m0 g0 rfl rfl qw_865 qw_866 qw_867 qw_5 qw_868 ⟨rfl, by decide +kernel, by decide +kernel, by decide +kernel⟩ ⟨Nat.le_of_ble_eq_true rfl, Nat.le_of_ble_eq_true rfl⟩ hl rfl rfl (Nat.le_of_ble_eq_true rfl) dX13_light_8 ⟨Nat.le_of_ble_eq_true rfl, Nat.le_of_ble_eq_true rfl⟩ (fun z36200 F9 H locs hT hz36200 => ?_)
  obtain ⟨fz36200, hz36200⟩ := hz36200
  rw [fz36200] at hT
  obtain ⟨hz36200, iz36200⟩ := hz36200
  refine lv_if_ne (tgt := 20) hx hb dX13_light_11 (by decide) (fun c36201 => ?_) (fun c36201 => ?_)
  · have w36202 := cv_ne (rfl : z36200.toInt = z36200.toInt) (by decide : (0 : Int32).toInt = 0) c36201
    have w36203 := (fun h => (iz36200 h).1) (by omega)
    have w36204 := (fun h => (iz36200 h).2) (by omega)
    refine lv_bipush (v := 9) hx hb dX13_light_20 (by decide) ?_
    refine lv_iconst (v := 3) hx hb dX13_light_22 (by decide) ?_
    refine lv_aload_n hx hb dX13_light_23 rfl (lv_at hl 0 rfl) ?_
    refine t_get (C := RX13) (T := TX13) (N := 37) X hT m0 g0 rfl rfl 16 (by decide) qw_112 inlX13 rfl dX13_light_24 (fun v36205 hv36205 ov36205 => ?_)
    obtain ⟨b36206, rfl, mb36206, gb36206⟩ := okV_r ov36205
    have gb36206 : tag b36206 = 37 := tg_of gb36206
    refine lv_iconst (v := 0) hx hb dX13_light_27 (by decide) ?_
    refine lv_iload_n hx hb dX13_light_28 rfl (lv_at hl 1 rfl) ?_
    refine lv_iadd hx hb dX13_light_29 ?_
    refine lv_topi (fun z36207 ez36207 => ?_)
    obtain rfl : p1 = z36207 := (ar_zadd ez36207).symm
    refine t_ild X hT mb36206 gb36206 rfl (by omega) dX13_light_30 (fun z36208 vz36208 rz36208 => ?_)
    have rz36208 := row_ml (by omega) rz36208
    refine lv_iload_n hx hb dX13_light_31 rfl (lv_at hl 2 rfl) ?_
    refine lv_isub hx hb dX13_light_32 ?_
    refine lv_topi (fun z36209 ez36209 => ?_)
    have hz36209 : z36209.toInt = z36208.toInt - p2.toInt := ar_sub ez36209 (rfl : z36208.toInt = z36208.toInt) (rfl : p2.toInt = p2.toInt) (by omega) (by omega)
    have rz36209 : (-6) ≤ z36209.toInt ∧ z36209.toInt ≤ 6 := by omega
    refine lv_imul hx hb dX13_light_33 ?_
    refine lv_topi (fun z36210 ez36210 => ?_)
    have hz36210 : z36210.toInt = 3 * z36209.toInt := ar_mul ez36210 (by decide : (3 : Int32).toInt = 3) (rfl : z36209.toInt = z36209.toInt) (by omega) (by omega)
    have rz36210 : (-18) ≤ z36210.toInt ∧ z36210.toInt ≤ 18 := by omega
    refine lv_isub hx hb dX13_light_34 ?_
    refine lv_topi (fun z36211 ez36211 => ?_)
    have hz36211 : z36211.toInt = 9 - z36210.toInt := ar_sub ez36211 (by decide : (9 : Int32).toInt = 9) (rfl : z36210.toInt = z36210.toInt) (by omega) (by omega)
    have rz36211 : (-9) ≤ z36211.toInt ∧ z36211.toInt ≤ 27 := by omega
    refine lv_istore_n (lv' := [(3, .int z36211), (0, .ref p0), (1, .int p1), (2, .int p2)]) hx hb dX13_light_35 rfl hl (by decide) rfl (fun ls hl => ?_)
    refine lv_aload_n hx hb dX13_light_36 rfl (lv_at hl 1 rfl) ?_
    refine lv_iload_n hx hb dX13_light_37 rfl (lv_at hl 0 rfl) ?_
    refine lv_if_le (tgt := 45) hx hb dX13_light_38 (by decide) (fun c36212 => ?_) (fun c36212 => ?_)
    · have w36213 := cv_le (rfl : z36211.toInt = z36211.toInt) (by decide : (0 : Int32).toInt = 0) c36212
      refine lv_iconst (v := 0) hx hb dX13_light_45 (by decide) ?_
      have k36214 : (0 : Int32).toInt = 0 := by decide
      have k36215 : (0 : Int32).toInt = 0 := by decide
      exact K46 z36211 0 0 _ _ _ _ (by omega) (by decide) (by decide) (by omega) (by omega) hT hfr pf0 v36199 (lv_sub hl [1, 2, 3, 0] rfl)
    · have w36216 := cv_nle (rfl : z36211.toInt = z36211.toInt) (by decide : (0 : Int32).toInt = 0) c36212
      refine lv_iload_n hx hb dX13_light_41 rfl (lv_at hl 0 rfl) ?_
      refine lv_goto (tgt := 46) hx hb dX13_light_42 (by decide) ?_
      have k36217 : (0 : Int32).toInt = 0 := by decide
      exact K46 z36211 z36211 0 _ _ _ _ (by omega) (by omega) (by decide) (by omega) (by omega) hT hfr pf0 v36199 (lv_sub hl [1, 2, 3, 0] rfl)
  · have w36218 := cv_eq (rfl : z36200.toInt = z36200.toInt) (by decide : (0 : Int32).toInt = 0) c36201
    refine lv_aload_n hx hb dX13_light_14 rfl (lv_at hl 0 rfl) ?_
    refine lv_iconst (v := 1) hx hb dX13_light_15 (by decide) ?_
    refine t_cVi (n := 1) (C := RX13) (T := TX13) (N := 37) (As := [.int 1]) (rest := []) X hT (km88_X13_refused l G tag L F hT.2.2.2 p0 1 m0 g0) m0 g0 rfl rfl qw_484 qw_485 qw_486 qw_5 qw_487 ⟨rfl, by decide +kernel, by decide +kernel, by decide +kernel⟩ ⟨Nat.le_of_ble_eq_true rfl, Nat.le_of_ble_eq_true rfl⟩ hl rfl rfl (Nat.le_of_ble_eq_true rfl) dX13_light_16 ⟨Nat.le_of_ble_eq_true rfl, Nat.le_of_ble_eq_true rfl⟩ (fun z36219 F H locs hT hz36219 => ?_)
    obtain ⟨hz36219, yz36219⟩ := hz36219
    have pf0 := (yz36219.1 _ 3 (Or.inr (by decide)) (Or.inr (by decide))).trans pf0
    have v36199 := (yz36219.1 _ 0 (Or.inr (by decide)) (Or.inr (by decide))).trans v36199
    have hfr : (∀ b j : Nat, (tag b ≠ 46 ∨ j ≠ 0) → (tag b ≠ 46 ∨ j ≠ 1) → (tag b ≠ 46 ∨ j ≠ 2) → fld F b j = fld Fo b j) ∧ (∀ b j : Nat, elm F b j = elm Fo b j) := ⟨fun b j n46_0 n46_1 n46_2 => (yz36219.1 b j n46_1 n46_2).trans (hfr.1 b j n46_0 n46_1 n46_2), fun b j  => (yz36219.2 b j ).trans (hfr.2 b j )⟩
    exact t_iret hQ X hT (⟨rg_all _, hfr⟩) (Nat.le_of_ble_eq_true rfl) (Nat.le_of_ble_eq_true rfl) dX13_light_19
