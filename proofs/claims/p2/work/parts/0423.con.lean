set_option maxHeartbeats 4000000 in
set_option maxRecDepth 100000 in
theorem km148_X13_door (l : Launch) (G : KG) (tag : Nat → Nat) (L : List Nat) (Fo : Nat → va_E) (ho : okT G ttC tag L Fo) (p0 : Nat) (p1 : Int32) (m0 : p0 ∈ L) (g0 : tag p0 = 46) (pf0 : fld Fo p0 3 = .null) : TMi l yX13_door cX13_door 2 (some .int) { frames := 5, cells := 0, slots := 0, locals := 125 } G ttC tag L Fo [.ref p0, .int p1] (fun r F1 => ((-2147483648) ≤ r.toInt ∧ r.toInt ≤ 2147483647) ∧ ((∀ b j : Nat, (tag b ≠ 46 ∨ j ≠ 0) → (tag b ≠ 46 ∨ j ≠ 1) → (tag b ≠ 46 ∨ j ≠ 2) → (tag b ≠ 46 ∨ j ≠ 22) → (tag b ≠ 46 ∨ j ≠ 23) → fld F1 b j = fld Fo b j) ∧ (∀ b j : Nat, elm F1 b j = elm Fo b j))) := by
  refine t_bodyi (y := yX13_door) (cd := cX13_door) (mL := 2) (rt := (some .int)) (rm := { frames := 5, cells := 0, slots := 0, locals := 125 }) (av := [.ref p0, .int p1]) (by decide) (Nat.le_of_ble_eq_true rfl) ho ?_
  intro p e s m args below meth c ls A Q hQ X hT hl
  have hx := X.1.1
  have hb := X.1.2.1
  have hl : lv_has ls 2 [(0, .ref p0), (1, .int p1)] := hl
  have rp1 := rg_all p1
  obtain ⟨F, hFo⟩ : ∃ F : Nat → va_E, F = Fo := ⟨_, rfl⟩
  rw [← hFo] at hT pf0
  have hfr : (∀ b j : Nat, (tag b ≠ 46 ∨ j ≠ 0) → (tag b ≠ 46 ∨ j ≠ 1) → (tag b ≠ 46 ∨ j ≠ 2) → (tag b ≠ 46 ∨ j ≠ 22) → (tag b ≠ 46 ∨ j ≠ 23) → fld F b j = fld Fo b j) ∧ (∀ b j : Nat, elm F b j = elm Fo b j) := by
    rw [hFo]
    exact ⟨by intros; rfl, by intros; rfl⟩
  refine lv_aload_n hx hb dX13_door_0 rfl (lv_at hl 0 rfl) ?_
  refine lv_iconst (v := 0) hx hb dX13_door_1 (by decide) ?_
  refine t_put (C := RX13) (T := TX13) (N := 37) (v := .int 0) X hT m0 g0 rfl tyX13 tyX13_ok nmX13 rfl 0 (by decide) qw_140 inlX13 rfl (by first | rfl | decide) (by first | rfl | decide) rfl (⟨_, rfl, (show (-2147483648) ≤ (0 : Int32).toInt from (by decide)), (show (0 : Int32).toInt ≤ 2147483647 from (by decide))⟩) dX13_door_2 (fun F H locs hT v40574 h1v40574 h2v40574 => ?_)
  have pf0 := (h1v40574 _ _ (Or.inr (by decide))).trans pf0
  have hfr : (∀ b j : Nat, (tag b ≠ 46 ∨ j ≠ 0) → (tag b ≠ 46 ∨ j ≠ 1) → (tag b ≠ 46 ∨ j ≠ 2) → (tag b ≠ 46 ∨ j ≠ 22) → (tag b ≠ 46 ∨ j ≠ 23) → fld F b j = fld Fo b j) ∧ (∀ b j : Nat, elm F b j = elm Fo b j) := ⟨fun b j n46_0 n46_1 n46_2 n46_22 n46_23 => (h1v40574 b j (fr_ne g0 n46_0)).trans (hfr.1 b j n46_0 n46_1 n46_2 n46_22 n46_23), fun b j  => (h2v40574 b j).trans (hfr.2 b j )⟩
  refine lv_aload_n hx hb dX13_door_5 rfl (lv_at hl 0 rfl) ?_
  refine lv_iload_n hx hb dX13_door_6 rfl (lv_at hl 1 rfl) ?_
  refine t_cVi (n := 1) (C := RX13) (T := TX13) (N := 37) (As := [.int p1]) (rest := []) X hT (km116_X13_isHouse l G tag L F hT.2.2.2 p0 p1 m0 g0 pf0) m0 g0 rfl rfl qw_796 qw_797 qw_798 qw_5 qw_799 ⟨rfl, by decide +kernel, by decide +kernel, by decide +kernel⟩ ⟨Nat.le_of_ble_eq_true rfl, Nat.le_of_ble_eq_true rfl⟩ hl rfl rfl (Nat.le_of_ble_eq_true rfl) dX13_door_7 ⟨Nat.le_of_ble_eq_true rfl, Nat.le_of_ble_eq_true rfl⟩ (fun z40575 F9 H locs hT hz40575 => ?_)
  obtain ⟨fz40575, hz40575⟩ := hz40575
  rw [fz40575] at hT
  refine lv_if_ne (tgt := 19) hx hb dX13_door_10 (by decide) (fun c40576 => ?_) (fun c40576 => ?_)
  · have w40577 := cv_ne (rfl : z40575.toInt = z40575.toInt) (by decide : (0 : Int32).toInt = 0) c40576
    exfalso
    omega
  · have w40578 := cv_eq (rfl : z40575.toInt = z40575.toInt) (by decide : (0 : Int32).toInt = 0) c40576
    refine lv_aload_n hx hb dX13_door_13 rfl (lv_at hl 0 rfl) ?_
    refine lv_iconst (v := 1) hx hb dX13_door_14 (by decide) ?_
    refine t_cVi (n := 1) (C := RX13) (T := TX13) (N := 37) (As := [.int 1]) (rest := []) X hT (km88_X13_refused l G tag L F hT.2.2.2 p0 1 m0 g0) m0 g0 rfl rfl qw_484 qw_485 qw_486 qw_5 qw_487 ⟨rfl, by decide +kernel, by decide +kernel, by decide +kernel⟩ ⟨Nat.le_of_ble_eq_true rfl, Nat.le_of_ble_eq_true rfl⟩ hl rfl rfl (Nat.le_of_ble_eq_true rfl) dX13_door_15 ⟨Nat.le_of_ble_eq_true rfl, Nat.le_of_ble_eq_true rfl⟩ (fun z40579 F H locs hT hz40579 => ?_)
    obtain ⟨hz40579, yz40579⟩ := hz40579
    have pf0 := (yz40579.1 _ 3 (Or.inr (by decide)) (Or.inr (by decide))).trans pf0
    have v40574 := (yz40579.1 _ 0 (Or.inr (by decide)) (Or.inr (by decide))).trans v40574
    have hfr : (∀ b j : Nat, (tag b ≠ 46 ∨ j ≠ 0) → (tag b ≠ 46 ∨ j ≠ 1) → (tag b ≠ 46 ∨ j ≠ 2) → (tag b ≠ 46 ∨ j ≠ 22) → (tag b ≠ 46 ∨ j ≠ 23) → fld F b j = fld Fo b j) ∧ (∀ b j : Nat, elm F b j = elm Fo b j) := ⟨fun b j n46_0 n46_1 n46_2 n46_22 n46_23 => (yz40579.1 b j n46_1 n46_2).trans (hfr.1 b j n46_0 n46_1 n46_2 n46_22 n46_23), fun b j  => (yz40579.2 b j ).trans (hfr.2 b j )⟩
    exact t_iret hQ X hT (⟨rg_all _, hfr⟩) (Nat.le_of_ble_eq_true rfl) (Nat.le_of_ble_eq_true rfl) dX13_door_18
theorem kp_X13_door (l : Launch) (G : KG) (tag : Nat → Nat) (L : List Nat) (Fo : Nat → va_E) (ho : okT G ttC tag L Fo) (p0 : Nat) (p1 : Int32) (m0 : p0 ∈ L) (g0 : tag p0 = 46) : TMi l yX13_door cX13_door 2 (some .int) { frames := 5, cells := 0, slots := 0, locals := 125 } G ttC tag L Fo [.ref p0, .int p1] (fun r F1 => ((-2147483648) ≤ r.toInt ∧ r.toInt ≤ 2147483647) ∧ ((∀ b j : Nat, (tag b ≠ 46 ∨ j ≠ 0) → (tag b ≠ 46 ∨ j ≠ 1) → (tag b ≠ 46 ∨ j ≠ 2) → (tag b ≠ 46 ∨ j ≠ 22) → (tag b ≠ 46 ∨ j ≠ 23) → fld F1 b j = fld Fo b j) ∧ (∀ b j : Nat, elm F1 b j = elm Fo b j))) := by
  rcases t_fldn ho m0 g0 rfl 3 rfl with h9 | ⟨b9, h9, m9, t9⟩
  · exact km148_X13_door l G tag L Fo ho p0 p1  m0 g0 h9 
  · exact km147_X13_door l G tag L Fo ho p0 p1 b9  m0 g0 m9 (tg_of t9) h9 
set_option maxHeartbeats 4000000 in
set_option maxRecDepth 100000 in
theorem km150_X13_isStone (l : Launch) (G : KG) (tag : Nat → Nat) (L : List Nat) (F : Nat → va_E) (ho : okT G ttC tag L F) (p0 : Nat) (p1 : Int32) (x0 : Nat) (m0 : p0 ∈ L) (g0 : tag p0 = 46) (mx0 : x0 ∈ L) (gx0 : tag x0 = 45) (pf0 : fld F p0 3 = .ref x0) : TMi l yX13_isStone cX13_isStone 2 (some .boolean) { frames := 0, cells := 0, slots := 0, locals := 0 } G ttC tag L F [.ref p0, .int p1] (fun r F1 => F1 = F ∧ ((0 ≤ r.toInt ∧ r.toInt ≤ 1) ∧ (r.toInt ≠ 0 → (0 ≤ p1.toInt ∧ p1.toInt ≤ 3)))) := by
  refine t_bodyi (y := yX13_isStone) (cd := cX13_isStone) (mL := 2) (rt := (some .boolean)) (rm := { frames := 0, cells := 0, slots := 0, locals := 0 }) (av := [.ref p0, .int p1]) (by decide) (Nat.le_of_ble_eq_true rfl) ho ?_
  intro p e s m args below meth c ls A Q hQ X hT hl
  have hx := X.1.1
  have hb := X.1.2.1
  have hl : lv_has ls 2 [(0, .ref p0), (1, .int p1)] := hl
  have rp1 := rg_all p1
  refine lv_aload_n hx hb dX13_isStone_0 rfl (lv_at hl 0 rfl) ?_
  refine t_get (C := RX13) (T := TX13) (N := 37) X hT m0 g0 rfl rfl 3 (by decide) qw_481 inlX13 rfl dX13_isStone_1 (fun v40697 hv40697 ov40697 => ?_)
  obtain rfl : v40697 = .ref x0 := hv40697.symm.trans pf0
  refine lv_ifnull hx hb dX13_isStone_4 ?_
  refine lv_iload_n hx hb dX13_isStone_7 rfl (lv_at hl 1 rfl) ?_
  refine lv_if_lt (tgt := 26) hx hb dX13_isStone_8 (by decide) (fun c40698 => ?_) (fun c40698 => ?_)
  · have w40699 := cv_lt (rfl : p1.toInt = p1.toInt) (by decide : (0 : Int32).toInt = 0) c40698
    refine lv_iconst (v := 0) hx hb dX13_isStone_26 (by decide) ?_
    have k40700 : (0 : Int32).toInt = 0 := by decide
    exact t_zret hQ X hT (by decide) (⟨rfl, ⟨(by decide), fun h => absurd (by decide) h⟩⟩) (Nat.le_of_ble_eq_true rfl) (Nat.le_of_ble_eq_true rfl) dX13_isStone_27
  · have w40701 := cv_nlt (rfl : p1.toInt = p1.toInt) (by decide : (0 : Int32).toInt = 0) c40698
    refine lv_iload_n hx hb dX13_isStone_11 rfl (lv_at hl 1 rfl) ?_
    refine lv_aload_n hx hb dX13_isStone_12 rfl (lv_at hl 0 rfl) ?_
    refine t_get (C := RX13) (T := TX13) (N := 37) X hT m0 g0 rfl rfl 3 (by decide) qw_481 inlX13 rfl dX13_isStone_13 (fun v40702 hv40702 ov40702 => ?_)
    obtain rfl : v40702 = .ref x0 := hv40702.symm.trans pf0
    refine t_getN (C := RX12) (T := TX12) (N := 31) X hT mx0 gx0 rfl rfl 7 (by decide) (List.mem_of_getElem? (i := 11) rfl) inlX12 rfl dX13_isStone_16 (fun v40703 hv40703 ov40703 => ?_)
    obtain ⟨z40704, rfl, rz40704⟩ := okV_i ov40703
    refine lv_icmp_ge (tgt := 26) hx hb dX13_isStone_19 (by decide) (fun c40705 => ?_) (fun c40705 => ?_)
    · have w40706 := cv_le (rfl : z40704.toInt = z40704.toInt) (rfl : p1.toInt = p1.toInt) c40705
      refine lv_iconst (v := 0) hx hb dX13_isStone_26 (by decide) ?_
      have k40707 : (0 : Int32).toInt = 0 := by decide
      exact t_zret hQ X hT (by decide) (⟨rfl, ⟨(by decide), fun h => absurd (by decide) h⟩⟩) (Nat.le_of_ble_eq_true rfl) (Nat.le_of_ble_eq_true rfl) dX13_isStone_27
    · have w40708 := cv_nle (rfl : z40704.toInt = z40704.toInt) (rfl : p1.toInt = p1.toInt) c40705
      refine lv_iconst (v := 1) hx hb dX13_isStone_22 (by decide) ?_
      refine lv_goto (tgt := 27) hx hb dX13_isStone_23 (by decide) ?_
      have k40709 : (1 : Int32).toInt = 1 := by decide
      exact t_zret hQ X hT (by decide) (⟨rfl, ⟨(by decide), fun _ => by omega⟩⟩) (Nat.le_of_ble_eq_true rfl) (Nat.le_of_ble_eq_true rfl) dX13_isStone_27
set_option maxHeartbeats 4000000 in
set_option maxRecDepth 100000 in
theorem km151_X13_costOf (l : Launch) (G : KG) (tag : Nat → Nat) (L : List Nat) (F : Nat → va_E) (ho : okT G ttC tag L F) (p0 : Nat) (p1 : Nat) (p2 : Int32) (p3 : Int32) (x0 : Nat) (m0 : p0 ∈ L) (g0 : tag p0 = 46) (m1 : p1 ∈ L) (g1 : tag p1 = 37) (h2 : 0 ≤ p2.toInt ∧ p2.toInt ≤ 3) (h3 : 0 ≤ p3.toInt ∧ p3.toInt ≤ 3) (mx0 : x0 ∈ L) (gx0 : tag x0 = 45) (pf0 : fld F p0 3 = .ref x0) : TMi l yX13_costOf cX13_costOf 4 (some .int) { frames := 0, cells := 0, slots := 0, locals := 0 } G ttC tag L F [.ref p0, .ref p1, .int p2, .int p3] (fun r F1 => F1 = F ∧ ((-2147483648) ≤ r.toInt ∧ r.toInt ≤ 2147483647)) := by
  refine t_bodyi (y := yX13_costOf) (cd := cX13_costOf) (mL := 4) (rt := (some .int)) (rm := { frames := 0, cells := 0, slots := 0, locals := 0 }) (av := [.ref p0, .ref p1, .int p2, .int p3]) (by decide) (Nat.le_of_ble_eq_true rfl) ho ?_
  intro p e s m args below meth c ls A Q hQ X hT hl
  have hx := X.1.1
  have hb := X.1.2.1
  have hl : lv_has ls 4 [(0, .ref p0), (1, .ref p1), (2, .int p2), (3, .int p3)] := hl
  refine lv_aload_n hx hb dX13_costOf_0 rfl (lv_at hl 0 rfl) ?_
  refine t_get (C := RX13) (T := TX13) (N := 37) X hT m0 g0 rfl rfl 3 (by decide) qw_481 inlX13 rfl dX13_costOf_1 (fun v40820 hv40820 ov40820 => ?_)
  obtain rfl : v40820 = .ref x0 := hv40820.symm.trans pf0
  refine t_getN (C := RX12) (T := TX12) (N := 31) X hT mx0 gx0 rfl rfl 17 (by decide) (List.mem_of_getElem? (i := 21) rfl) inlX12 rfl dX13_costOf_4 (fun v40821 hv40821 ov40821 => ?_)
  obtain ⟨b40822, rfl, mb40822, gb40822⟩ := okV_r ov40821
  have gb40822 : tag b40822 = 29 := tg_of gb40822
  refine lv_iload_n hx hb dX13_costOf_7 rfl (lv_at hl 3 rfl) ?_
  refine t_ild X hT mb40822 gb40822 rfl (by omega) dX13_costOf_8 (fun z40823 vz40823 rz40823 => ?_)
  have rz40823 : (-2147483648) ≤ z40823.toInt ∧ z40823.toInt ≤ 2147483647 := rz40823
  refine lv_bipush (v := 8) hx hb dX13_costOf_9 (by decide) ?_
  refine lv_imul hx hb dX13_costOf_11 ?_
  refine lv_topi (fun z40824 ez40824 => ?_)
  have rz40824 := rg_all z40824
  refine lv_aload_n hx hb dX13_costOf_12 rfl (lv_at hl 1 rfl) ?_
  refine lv_iconst (v := 0) hx hb dX13_costOf_13 (by decide) ?_
  refine lv_iload_n hx hb dX13_costOf_14 rfl (lv_at hl 2 rfl) ?_
  refine lv_iadd hx hb dX13_costOf_15 ?_
  refine lv_topi (fun z40825 ez40825 => ?_)
  obtain rfl : p2 = z40825 := (ar_zadd ez40825).symm
  refine t_ild X hT m1 g1 rfl (by omega) dX13_costOf_16 (fun z40826 vz40826 rz40826 => ?_)
  have rz40826 := row_ml (by omega) rz40826
  refine lv_iconst (v := 1) hx hb dX13_costOf_17 (by decide) ?_
  refine lv_iadd hx hb dX13_costOf_18 ?_
  refine lv_topi (fun z40827 ez40827 => ?_)
  have hz40827 : z40827.toInt = z40826.toInt + 1 := ar_add ez40827 (rfl : z40826.toInt = z40826.toInt) (by decide : (1 : Int32).toInt = 1) (by omega) (by omega)
  have rz40827 : 1 ≤ z40827.toInt ∧ z40827.toInt ≤ 7 := by omega
  refine lv_imul hx hb dX13_costOf_19 ?_
  refine lv_topi (fun z40828 ez40828 => ?_)
  have rz40828 := rg_all z40828
  exact t_iret hQ X hT (⟨rfl, rg_all _⟩) (Nat.le_of_ble_eq_true rfl) (Nat.le_of_ble_eq_true rfl) dX13_costOf_20
set_option maxHeartbeats 4000000 in
set_option maxRecDepth 100000 in
theorem km152_X13_costs (l : Launch) (G : KG) (tag : Nat → Nat) (L : List Nat) (Fo : Nat → va_E) (ho : okT G ttC tag L Fo) (p0 : Nat) (p1 : Int32) (p2 : Int32) (x0 : Nat) (m0 : p0 ∈ L) (g0 : tag p0 = 46) (mx0 : x0 ∈ L) (gx0 : tag x0 = 45) (pf0 : fld Fo p0 3 = .ref x0) : TMi l yX13_costs cX13_costs 3 (some .int) { frames := 1, cells := 0, slots := 0, locals := 23 } G ttC tag L Fo [.ref p0, .int p1, .int p2] (fun r F1 => ((-2147483648) ≤ r.toInt ∧ r.toInt ≤ 2147483647) ∧ ((∀ b j : Nat, (tag b ≠ 46 ∨ j ≠ 0) → (tag b ≠ 46 ∨ j ≠ 1) → (tag b ≠ 46 ∨ j ≠ 2) → fld F1 b j = fld Fo b j) ∧ (∀ b j : Nat, elm F1 b j = elm Fo b j))) := by
  refine t_bodyi (y := yX13_costs) (cd := cX13_costs) (mL := 3) (rt := (some .int)) (rm := { frames := 1, cells := 0, slots := 0, locals := 23 }) (av := [.ref p0, .int p1, .int p2]) (by decide) (Nat.le_of_ble_eq_true rfl) ho ?_
  intro p e s m args below meth c ls A Q hQ X hT hl
  have hx := X.1.1
  have hb := X.1.2.1
  have hl : lv_has ls 3 [(0, .ref p0), (1, .int p1), (2, .int p2)] := hl
  have rp1 := rg_all p1
  have rp2 := rg_all p2
  obtain ⟨F, hFo⟩ : ∃ F : Nat → va_E, F = Fo := ⟨_, rfl⟩
  rw [← hFo] at hT pf0
  have hfr : (∀ b j : Nat, (tag b ≠ 46 ∨ j ≠ 0) → (tag b ≠ 46 ∨ j ≠ 1) → (tag b ≠ 46 ∨ j ≠ 2) → fld F b j = fld Fo b j) ∧ (∀ b j : Nat, elm F b j = elm Fo b j) := by
    rw [hFo]
    exact ⟨by intros; rfl, by intros; rfl⟩
  refine lv_aload_n hx hb dX13_costs_0 rfl (lv_at hl 0 rfl) ?_
  refine lv_iconst (v := 0) hx hb dX13_costs_1 (by decide) ?_
  refine t_put (C := RX13) (T := TX13) (N := 37) (v := .int 0) X hT m0 g0 rfl tyX13 tyX13_ok nmX13 rfl 0 (by decide) qw_140 inlX13 rfl (by first | rfl | decide) (by first | rfl | decide) rfl (⟨_, rfl, (show (-2147483648) ≤ (0 : Int32).toInt from (by decide)), (show (0 : Int32).toInt ≤ 2147483647 from (by decide))⟩) dX13_costs_2 (fun F H locs hT v41075 h1v41075 h2v41075 => ?_)
  have pf0 := (h1v41075 _ _ (Or.inr (by decide))).trans pf0
  have hfr : (∀ b j : Nat, (tag b ≠ 46 ∨ j ≠ 0) → (tag b ≠ 46 ∨ j ≠ 1) → (tag b ≠ 46 ∨ j ≠ 2) → fld F b j = fld Fo b j) ∧ (∀ b j : Nat, elm F b j = elm Fo b j) := ⟨fun b j n46_0 n46_1 n46_2 => (h1v41075 b j (fr_ne g0 n46_0)).trans (hfr.1 b j n46_0 n46_1 n46_2), fun b j  => (h2v41075 b j).trans (hfr.2 b j )⟩
  refine lv_aload_n hx hb dX13_costs_5 rfl (lv_at hl 0 rfl) ?_
  refine lv_iload_n hx hb dX13_costs_6 rfl (lv_at hl 1 rfl) ?_
  refine t_cVi (n := 1) (C := RX13) (T := TX13) (N := 37) (As := [.int p1]) (rest := []) X hT (km107_X13_isHouse l G tag L F hT.2.2.2 p0 p1 x0 m0 g0 mx0 gx0 pf0) m0 g0 rfl rfl qw_796 qw_797 qw_798 qw_5 qw_799 ⟨rfl, by decide +kernel, by decide +kernel, by decide +kernel⟩ ⟨Nat.le_of_ble_eq_true rfl, Nat.le_of_ble_eq_true rfl⟩ hl rfl rfl (Nat.le_of_ble_eq_true rfl) dX13_costs_7 ⟨Nat.le_of_ble_eq_true rfl, Nat.le_of_ble_eq_true rfl⟩ (fun z41076 F9 H locs hT hz41076 => ?_)
  obtain ⟨fz41076, hz41076⟩ := hz41076
  rw [fz41076] at hT
  obtain ⟨hz41076, iz41076⟩ := hz41076
  refine lv_if_eq (tgt := 21) hx hb dX13_costs_10 (by decide) (fun c41077 => ?_) (fun c41077 => ?_)
  · have w41078 := cv_eq (rfl : z41076.toInt = z41076.toInt) (by decide : (0 : Int32).toInt = 0) c41077
    refine lv_aload_n hx hb dX13_costs_21 rfl (lv_at hl 0 rfl) ?_
    refine lv_iconst (v := 1) hx hb dX13_costs_22 (by decide) ?_
    refine t_cVi (n := 1) (C := RX13) (T := TX13) (N := 37) (As := [.int 1]) (rest := []) X hT (km88_X13_refused l G tag L F hT.2.2.2 p0 1 m0 g0) m0 g0 rfl rfl qw_484 qw_485 qw_486 qw_5 qw_487 ⟨rfl, by decide +kernel, by decide +kernel, by decide +kernel⟩ ⟨Nat.le_of_ble_eq_true rfl, Nat.le_of_ble_eq_true rfl⟩ hl rfl rfl (Nat.le_of_ble_eq_true rfl) dX13_costs_23 ⟨Nat.le_of_ble_eq_true rfl, Nat.le_of_ble_eq_true rfl⟩ (fun z41079 F H locs hT hz41079 => ?_)
    obtain ⟨hz41079, yz41079⟩ := hz41079
    have pf0 := (yz41079.1 _ 3 (Or.inr (by decide)) (Or.inr (by decide))).trans pf0
    have v41075 := (yz41079.1 _ 0 (Or.inr (by decide)) (Or.inr (by decide))).trans v41075
    have hfr : (∀ b j : Nat, (tag b ≠ 46 ∨ j ≠ 0) → (tag b ≠ 46 ∨ j ≠ 1) → (tag b ≠ 46 ∨ j ≠ 2) → fld F b j = fld Fo b j) ∧ (∀ b j : Nat, elm F b j = elm Fo b j) := ⟨fun b j n46_0 n46_1 n46_2 => (yz41079.1 b j n46_1 n46_2).trans (hfr.1 b j n46_0 n46_1 n46_2), fun b j  => (yz41079.2 b j ).trans (hfr.2 b j )⟩
    exact t_iret hQ X hT (⟨rg_all _, hfr⟩) (Nat.le_of_ble_eq_true rfl) (Nat.le_of_ble_eq_true rfl) dX13_costs_26
  · have w41080 := cv_ne (rfl : z41076.toInt = z41076.toInt) (by decide : (0 : Int32).toInt = 0) c41077
    have w41081 := (fun h => (iz41076 h)) (by omega)
    refine lv_aload_n hx hb dX13_costs_13 rfl (lv_at hl 0 rfl) ?_
    refine lv_iload_n hx hb dX13_costs_14 rfl (lv_at hl 2 rfl) ?_
    refine t_cVi (n := 1) (C := RX13) (T := TX13) (N := 37) (As := [.int p2]) (rest := []) X hT (km150_X13_isStone l G tag L F hT.2.2.2 p0 p2 x0 m0 g0 mx0 gx0 pf0) m0 g0 rfl rfl qw_967 qw_968 qw_969 qw_5 qw_970 ⟨rfl, by decide +kernel, by decide +kernel, by decide +kernel⟩ ⟨Nat.le_of_ble_eq_true rfl, Nat.le_of_ble_eq_true rfl⟩ hl rfl rfl (Nat.le_of_ble_eq_true rfl) dX13_costs_15 ⟨Nat.le_of_ble_eq_true rfl, Nat.le_of_ble_eq_true rfl⟩ (fun z41082 F9 H locs hT hz41082 => ?_)
    obtain ⟨fz41082, hz41082⟩ := hz41082
    rw [fz41082] at hT
    obtain ⟨hz41082, iz41082⟩ := hz41082
    refine lv_if_ne (tgt := 27) hx hb dX13_costs_18 (by decide) (fun c41083 => ?_) (fun c41083 => ?_)
    · have w41084 := cv_ne (rfl : z41082.toInt = z41082.toInt) (by decide : (0 : Int32).toInt = 0) c41083
      have w41085 := (fun h => (iz41082 h)) (by omega)
      refine lv_aload_n hx hb dX13_costs_27 rfl (lv_at hl 0 rfl) ?_
      refine t_get (C := RX13) (T := TX13) (N := 37) X hT m0 g0 rfl rfl 16 (by decide) qw_112 inlX13 rfl dX13_costs_28 (fun v41086 hv41086 ov41086 => ?_)
      obtain ⟨b41087, rfl, mb41087, gb41087⟩ := okV_r ov41086
      have gb41087 : tag b41087 = 37 := tg_of gb41087
      refine lv_iconst (v := 0) hx hb dX13_costs_31 (by decide) ?_
      refine lv_iload_n hx hb dX13_costs_32 rfl (lv_at hl 1 rfl) ?_
      refine lv_iadd hx hb dX13_costs_33 ?_
      refine lv_topi (fun z41088 ez41088 => ?_)
      obtain rfl : p1 = z41088 := (ar_zadd ez41088).symm
      refine t_ild X hT mb41087 gb41087 rfl (by omega) dX13_costs_34 (fun z41089 vz41089 rz41089 => ?_)
      have rz41089 := row_ml (by omega) rz41089
      refine lv_bipush (v := 6) hx hb dX13_costs_35 (by decide) ?_
      refine lv_icmp_ne (tgt := 48) hx hb dX13_costs_37 (by decide) (fun c41090 => ?_) (fun c41090 => ?_)
      · have w41091 := cv_ne (rfl : z41089.toInt = z41089.toInt) (by decide : (6 : Int32).toInt = 6) c41090
        refine lv_aload_n hx hb dX13_costs_48 rfl (lv_at hl 0 rfl) ?_
        refine lv_aload_n hx hb dX13_costs_49 rfl (lv_at hl 0 rfl) ?_
        refine lv_aload_n hx hb dX13_costs_50 rfl (lv_at hl 0 rfl) ?_
        refine t_get (C := RX13) (T := TX13) (N := 37) X hT m0 g0 rfl rfl 16 (by decide) qw_112 inlX13 rfl dX13_costs_51 (fun v41092 hv41092 ov41092 => ?_)
        obtain rfl : v41092 = .ref b41087 := hv41092.symm.trans hv41086
        refine lv_iload_n hx hb dX13_costs_54 rfl (lv_at hl 1 rfl) ?_
        refine lv_iload_n hx hb dX13_costs_55 rfl (lv_at hl 2 rfl) ?_
        refine t_cVi (n := 3) (C := RX13) (T := TX13) (N := 37) (As := [.ref b41087, .int p1, .int p2]) (rest := [.ref p0]) X hT (km151_X13_costOf l G tag L F hT.2.2.2 p0 b41087 p1 p2 x0 m0 g0 mb41087 gb41087 (by omega) (by omega) mx0 gx0 pf0) m0 g0 rfl rfl qw_971 qw_972 qw_973 qw_5 qw_974 ⟨rfl, by decide +kernel, by decide +kernel, by decide +kernel⟩ ⟨Nat.le_of_ble_eq_true rfl, Nat.le_of_ble_eq_true rfl⟩ hl rfl rfl (Nat.le_of_ble_eq_true rfl) dX13_costs_56 ⟨Nat.le_of_ble_eq_true rfl, Nat.le_of_ble_eq_true rfl⟩ (fun z41093 F9 H locs hT hz41093 => ?_)
        obtain ⟨fz41093, hz41093⟩ := hz41093
        rw [fz41093] at hT
        refine t_cVi (n := 1) (C := RX13) (T := TX13) (N := 37) (As := [.int z41093]) (rest := []) X hT (km93_X13_good l G tag L F hT.2.2.2 p0 z41093 m0 g0) m0 g0 rfl rfl qw_687 qw_688 qw_689 qw_5 qw_690 ⟨rfl, by decide +kernel, by decide +kernel, by decide +kernel⟩ ⟨Nat.le_of_ble_eq_true rfl, Nat.le_of_ble_eq_true rfl⟩ hl rfl rfl (Nat.le_of_ble_eq_true rfl) dX13_costs_59 ⟨Nat.le_of_ble_eq_true rfl, Nat.le_of_ble_eq_true rfl⟩ (fun z41094 F H locs hT hz41094 => ?_)
        obtain ⟨hz41094, yz41094⟩ := hz41094
        have pf0 := (yz41094.1 _ 3 (Or.inr (by decide)) (Or.inr (by decide))).trans pf0
        have v41075 := (yz41094.1 _ 0 (Or.inr (by decide)) (Or.inr (by decide))).trans v41075
        have hv41086 := (yz41094.1 _ 16 (Or.inr (by decide)) (Or.inr (by decide))).trans hv41086
        have vz41089 := (yz41094.2 _ _ ).trans vz41089
        have hfr : (∀ b j : Nat, (tag b ≠ 46 ∨ j ≠ 0) → (tag b ≠ 46 ∨ j ≠ 1) → (tag b ≠ 46 ∨ j ≠ 2) → fld F b j = fld Fo b j) ∧ (∀ b j : Nat, elm F b j = elm Fo b j) := ⟨fun b j n46_0 n46_1 n46_2 => (yz41094.1 b j n46_1 n46_2).trans (hfr.1 b j n46_0 n46_1 n46_2), fun b j  => (yz41094.2 b j ).trans (hfr.2 b j )⟩
        exact t_iret hQ X hT (⟨rg_all _, hfr⟩) (Nat.le_of_ble_eq_true rfl) (Nat.le_of_ble_eq_true rfl) dX13_costs_62
      · have w41095 := cv_eq (rfl : z41089.toInt = z41089.toInt) (by decide : (6 : Int32).toInt = 6) c41090
        refine lv_aload_n hx hb dX13_costs_40 rfl (lv_at hl 0 rfl) ?_
        refine lv_iconst (v := 3) hx hb dX13_costs_41 (by decide) ?_
        refine t_cVi (n := 1) (C := RX13) (T := TX13) (N := 37) (As := [.int 3]) (rest := []) X hT (km88_X13_refused l G tag L F hT.2.2.2 p0 3 m0 g0) m0 g0 rfl rfl qw_484 qw_485 qw_486 qw_5 qw_487 ⟨rfl, by decide +kernel, by decide +kernel, by decide +kernel⟩ ⟨Nat.le_of_ble_eq_true rfl, Nat.le_of_ble_eq_true rfl⟩ hl rfl rfl (Nat.le_of_ble_eq_true rfl) dX13_costs_42 ⟨Nat.le_of_ble_eq_true rfl, Nat.le_of_ble_eq_true rfl⟩ (fun z41096 F H locs hT hz41096 => ?_)
        obtain ⟨hz41096, yz41096⟩ := hz41096
        have pf0 := (yz41096.1 _ 3 (Or.inr (by decide)) (Or.inr (by decide))).trans pf0
        have v41075 := (yz41096.1 _ 0 (Or.inr (by decide)) (Or.inr (by decide))).trans v41075
        have hv41086 := (yz41096.1 _ 16 (Or.inr (by decide)) (Or.inr (by decide))).trans hv41086
        have vz41089 := (yz41096.2 _ _ ).trans vz41089
        have hfr : (∀ b j : Nat, (tag b ≠ 46 ∨ j ≠ 0) → (tag b ≠ 46 ∨ j ≠ 1) → (tag b ≠ 46 ∨ j ≠ 2) → fld F b j = fld Fo b j) ∧ (∀ b j : Nat, elm F b j = elm Fo b j) := ⟨fun b j n46_0 n46_1 n46_2 => (yz41096.1 b j n46_1 n46_2).trans (hfr.1 b j n46_0 n46_1 n46_2), fun b j  => (yz41096.2 b j ).trans (hfr.2 b j )⟩
        refine lv_goto (tgt := 62) hx hb dX13_costs_45 (by decide) ?_
        exact t_iret hQ X hT (⟨rg_all _, hfr⟩) (Nat.le_of_ble_eq_true rfl) (Nat.le_of_ble_eq_true rfl) dX13_costs_62
    · have w41097 := cv_eq (rfl : z41082.toInt = z41082.toInt) (by decide : (0 : Int32).toInt = 0) c41083
      refine lv_aload_n hx hb dX13_costs_21 rfl (lv_at hl 0 rfl) ?_
      refine lv_iconst (v := 1) hx hb dX13_costs_22 (by decide) ?_
      refine t_cVi (n := 1) (C := RX13) (T := TX13) (N := 37) (As := [.int 1]) (rest := []) X hT (km88_X13_refused l G tag L F hT.2.2.2 p0 1 m0 g0) m0 g0 rfl rfl qw_484 qw_485 qw_486 qw_5 qw_487 ⟨rfl, by decide +kernel, by decide +kernel, by decide +kernel⟩ ⟨Nat.le_of_ble_eq_true rfl, Nat.le_of_ble_eq_true rfl⟩ hl rfl rfl (Nat.le_of_ble_eq_true rfl) dX13_costs_23 ⟨Nat.le_of_ble_eq_true rfl, Nat.le_of_ble_eq_true rfl⟩ (fun z41098 F H locs hT hz41098 => ?_)
      obtain ⟨hz41098, yz41098⟩ := hz41098
      have pf0 := (yz41098.1 _ 3 (Or.inr (by decide)) (Or.inr (by decide))).trans pf0
      have v41075 := (yz41098.1 _ 0 (Or.inr (by decide)) (Or.inr (by decide))).trans v41075
      have hfr : (∀ b j : Nat, (tag b ≠ 46 ∨ j ≠ 0) → (tag b ≠ 46 ∨ j ≠ 1) → (tag b ≠ 46 ∨ j ≠ 2) → fld F b j = fld Fo b j) ∧ (∀ b j : Nat, elm F b j = elm Fo b j) := ⟨fun b j n46_0 n46_1 n46_2 => (yz41098.1 b j n46_1 n46_2).trans (hfr.1 b j n46_0 n46_1 n46_2), fun b j  => (yz41098.2 b j ).trans (hfr.2 b j )⟩
      exact t_iret hQ X hT (⟨rg_all _, hfr⟩) (Nat.le_of_ble_eq_true rfl) (Nat.le_of_ble_eq_true rfl) dX13_costs_26
set_option maxHeartbeats 4000000 in
set_option maxRecDepth 100000 in
theorem km153_X13_costs (l : Launch) (G : KG) (tag : Nat → Nat) (L : List Nat) (Fo : Nat → va_E) (ho : okT G ttC tag L Fo) (p0 : Nat) (p1 : Int32) (p2 : Int32) (m0 : p0 ∈ L) (g0 : tag p0 = 46) (pf0 : fld Fo p0 3 = .null) : TMi l yX13_costs cX13_costs 3 (some .int) { frames := 1, cells := 0, slots := 0, locals := 23 } G ttC tag L Fo [.ref p0, .int p1, .int p2] (fun r F1 => ((-2147483648) ≤ r.toInt ∧ r.toInt ≤ 2147483647) ∧ ((∀ b j : Nat, (tag b ≠ 46 ∨ j ≠ 0) → (tag b ≠ 46 ∨ j ≠ 1) → (tag b ≠ 46 ∨ j ≠ 2) → fld F1 b j = fld Fo b j) ∧ (∀ b j : Nat, elm F1 b j = elm Fo b j))) := by
  refine t_bodyi (y := yX13_costs) (cd := cX13_costs) (mL := 3) (rt := (some .int)) (rm := { frames := 1, cells := 0, slots := 0, locals := 23 }) (av := [.ref p0, .int p1, .int p2]) (by decide) (Nat.le_of_ble_eq_true rfl) ho ?_
  intro p e s m args below meth c ls A Q hQ X hT hl
  have hx := X.1.1
  have hb := X.1.2.1
  have hl : lv_has ls 3 [(0, .ref p0), (1, .int p1), (2, .int p2)] := hl
  have rp1 := rg_all p1
  have rp2 := rg_all p2
  obtain ⟨F, hFo⟩ : ∃ F : Nat → va_E, F = Fo := ⟨_, rfl⟩
  rw [← hFo] at hT pf0
  have hfr : (∀ b j : Nat, (tag b ≠ 46 ∨ j ≠ 0) → (tag b ≠ 46 ∨ j ≠ 1) → (tag b ≠ 46 ∨ j ≠ 2) → fld F b j = fld Fo b j) ∧ (∀ b j : Nat, elm F b j = elm Fo b j) := by
    rw [hFo]
    exact ⟨by intros; rfl, by intros; rfl⟩
  refine lv_aload_n hx hb dX13_costs_0 rfl (lv_at hl 0 rfl) ?_
  refine lv_iconst (v := 0) hx hb dX13_costs_1 (by decide) ?_
  refine t_put (C := RX13) (T := TX13) (N := 37) (v := .int 0) X hT m0 g0 rfl tyX13 tyX13_ok nmX13 rfl 0 (by decide) qw_140 inlX13 rfl (by first | rfl | decide) (by first | rfl | decide) rfl (⟨_, rfl, (show (-2147483648) ≤ (0 : Int32).toInt from (by decide)), (show (0 : Int32).toInt ≤ 2147483647 from (by decide))⟩) dX13_costs_2 (fun F H locs hT v41165 h1v41165 h2v41165 => ?_)
  have pf0 := (h1v41165 _ _ (Or.inr (by decide))).trans pf0
  have hfr : (∀ b j : Nat, (tag b ≠ 46 ∨ j ≠ 0) → (tag b ≠ 46 ∨ j ≠ 1) → (tag b ≠ 46 ∨ j ≠ 2) → fld F b j = fld Fo b j) ∧ (∀ b j : Nat, elm F b j = elm Fo b j) := ⟨fun b j n46_0 n46_1 n46_2 => (h1v41165 b j (fr_ne g0 n46_0)).trans (hfr.1 b j n46_0 n46_1 n46_2), fun b j  => (h2v41165 b j).trans (hfr.2 b j )⟩
  refine lv_aload_n hx hb dX13_costs_5 rfl (lv_at hl 0 rfl) ?_
  refine lv_iload_n hx hb dX13_costs_6 rfl (lv_at hl 1 rfl) ?_
  refine t_cVi (n := 1) (C := RX13) (T := TX13) (N := 37) (As := [.int p1]) (rest := []) X hT (km116_X13_isHouse l G tag L F hT.2.2.2 p0 p1 m0 g0 pf0) m0 g0 rfl rfl qw_796 qw_797 qw_798 qw_5 qw_799 ⟨rfl, by decide +kernel, by decide +kernel, by decide +kernel⟩ ⟨Nat.le_of_ble_eq_true rfl, Nat.le_of_ble_eq_true rfl⟩ hl rfl rfl (Nat.le_of_ble_eq_true rfl) dX13_costs_7 ⟨Nat.le_of_ble_eq_true rfl, Nat.le_of_ble_eq_true rfl⟩ (fun z41166 F9 H locs hT hz41166 => ?_)
  obtain ⟨fz41166, hz41166⟩ := hz41166
  rw [fz41166] at hT
  refine lv_if_eq (tgt := 21) hx hb dX13_costs_10 (by decide) (fun c41167 => ?_) (fun c41167 => ?_)
  · have w41168 := cv_eq (rfl : z41166.toInt = z41166.toInt) (by decide : (0 : Int32).toInt = 0) c41167
    refine lv_aload_n hx hb dX13_costs_21 rfl (lv_at hl 0 rfl) ?_
    refine lv_iconst (v := 1) hx hb dX13_costs_22 (by decide) ?_
    refine t_cVi (n := 1) (C := RX13) (T := TX13) (N := 37) (As := [.int 1]) (rest := []) X hT (km88_X13_refused l G tag L F hT.2.2.2 p0 1 m0 g0) m0 g0 rfl rfl qw_484 qw_485 qw_486 qw_5 qw_487 ⟨rfl, by decide +kernel, by decide +kernel, by decide +kernel⟩ ⟨Nat.le_of_ble_eq_true rfl, Nat.le_of_ble_eq_true rfl⟩ hl rfl rfl (Nat.le_of_ble_eq_true rfl) dX13_costs_23 ⟨Nat.le_of_ble_eq_true rfl, Nat.le_of_ble_eq_true rfl⟩ (fun z41169 F H locs hT hz41169 => ?_)
    obtain ⟨hz41169, yz41169⟩ := hz41169
    have pf0 := (yz41169.1 _ 3 (Or.inr (by decide)) (Or.inr (by decide))).trans pf0
    have v41165 := (yz41169.1 _ 0 (Or.inr (by decide)) (Or.inr (by decide))).trans v41165
    have hfr : (∀ b j : Nat, (tag b ≠ 46 ∨ j ≠ 0) → (tag b ≠ 46 ∨ j ≠ 1) → (tag b ≠ 46 ∨ j ≠ 2) → fld F b j = fld Fo b j) ∧ (∀ b j : Nat, elm F b j = elm Fo b j) := ⟨fun b j n46_0 n46_1 n46_2 => (yz41169.1 b j n46_1 n46_2).trans (hfr.1 b j n46_0 n46_1 n46_2), fun b j  => (yz41169.2 b j ).trans (hfr.2 b j )⟩
    exact t_iret hQ X hT (⟨rg_all _, hfr⟩) (Nat.le_of_ble_eq_true rfl) (Nat.le_of_ble_eq_true rfl) dX13_costs_26
  · have w41170 := cv_ne (rfl : z41166.toInt = z41166.toInt) (by decide : (0 : Int32).toInt = 0) c41167
    exfalso
    omega
theorem kp_X13_costs (l : Launch) (G : KG) (tag : Nat → Nat) (L : List Nat) (Fo : Nat → va_E) (ho : okT G ttC tag L Fo) (p0 : Nat) (p1 : Int32) (p2 : Int32) (m0 : p0 ∈ L) (g0 : tag p0 = 46) : TMi l yX13_costs cX13_costs 3 (some .int) { frames := 1, cells := 0, slots := 0, locals := 23 } G ttC tag L Fo [.ref p0, .int p1, .int p2] (fun r F1 => ((-2147483648) ≤ r.toInt ∧ r.toInt ≤ 2147483647) ∧ ((∀ b j : Nat, (tag b ≠ 46 ∨ j ≠ 0) → (tag b ≠ 46 ∨ j ≠ 1) → (tag b ≠ 46 ∨ j ≠ 2) → fld F1 b j = fld Fo b j) ∧ (∀ b j : Nat, elm F1 b j = elm Fo b j))) := by
  rcases t_fldn ho m0 g0 rfl 3 rfl with h9 | ⟨b9, h9, m9, t9⟩
  · exact km153_X13_costs l G tag L Fo ho p0 p1 p2  m0 g0 h9 
  · exact km152_X13_costs l G tag L Fo ho p0 p1 p2 b9  m0 g0 m9 (tg_of t9) h9 
set_option maxHeartbeats 4000000 in
set_option maxRecDepth 100000 in
theorem km155_X13_roundIn (l : Launch) (G : KG) (tag : Nat → Nat) (L : List Nat) (F : Nat → va_E) (ho : okT G ttC tag L F) (p0 : Nat) (p1 : Int32) (p2 : Int32) (m0 : p0 ∈ L) (g0 : tag p0 = 37) (h1 : 0 ≤ p1.toInt ∧ p1.toInt ≤ 3) (h2 : 2 ≤ p2.toInt ∧ p2.toInt ≤ 6) : TMi l yX13_roundIn cX13_roundIn 3 (some .int) { frames := 2, cells := 0, slots := 0, locals := 44 } G ttC tag L F [.ref p0, .int p1, .int p2] (fun r F1 => F1 = F ∧ ((-2147483648) ≤ r.toInt ∧ r.toInt ≤ 2147483647)) := by
  refine t_bodyi (y := yX13_roundIn) (cd := cX13_roundIn) (mL := 3) (rt := (some .int)) (rm := { frames := 2, cells := 0, slots := 0, locals := 44 }) (av := [.ref p0, .int p1, .int p2]) (by decide) (Nat.le_of_ble_eq_true rfl) ho ?_
  intro p e s m args below meth c ls A Q hQ X hT hl
  have hx := X.1.1
  have hb := X.1.2.1
  have hl : lv_has ls 3 [(0, .ref p0), (1, .int p1), (2, .int p2)] := hl
  refine lv_iload_n hx hb dX13_roundIn_0 rfl (lv_at hl 2 rfl) ?_
  refine lv_iload_n hx hb dX13_roundIn_1 rfl (lv_at hl 2 rfl) ?_
  refine lv_aload_n hx hb dX13_roundIn_2 rfl (lv_at hl 0 rfl) ?_
  refine lv_iload_n hx hb dX13_roundIn_3 rfl (lv_at hl 1 rfl) ?_
  refine lv_iload_n hx hb dX13_roundIn_4 rfl (lv_at hl 2 rfl) ?_
  refine lv_iconst (v := 1) hx hb dX13_roundIn_5 (by decide) ?_
  refine t_cSi (n := 3) (As := [.int p1, .int p2, .int 1]) (rest := [.ref p0, .int p2, .int p2]) X hT (km49_X13_part l G tag L F hT.2.2.2 p1 p2 1 (by omega) (by omega) (by decide)) qw_661 qw_662 qw_5 qw_663 ⟨by decide +kernel, by decide +kernel, by decide +kernel⟩ ⟨Nat.le_of_ble_eq_true rfl, Nat.le_of_ble_eq_true rfl⟩ hl rfl rfl (Nat.le_of_ble_eq_true rfl) dX13_roundIn_6 ⟨Nat.le_of_ble_eq_true rfl, Nat.le_of_ble_eq_true rfl⟩ (fun z41400 F9 H locs hT hz41400 => ?_)
  obtain ⟨fz41400, hz41400, xz41400_0⟩ := hz41400
  rw [fz41400] at hT
  have k41401 : (1 : Int32).toInt = 1 := by decide
  refine t_ild X hT m0 g0 rfl (by omega) dX13_roundIn_9 (fun z41402 vz41402 rz41402 => ?_)
  have oz41402 := rz41402
  have rz41402 := rg_all z41402
  refine lv_aload_n hx hb dX13_roundIn_10 rfl (lv_at hl 0 rfl) ?_
  refine lv_iload_n hx hb dX13_roundIn_11 rfl (lv_at hl 1 rfl) ?_
  refine lv_iload_n hx hb dX13_roundIn_12 rfl (lv_at hl 2 rfl) ?_
  refine lv_iconst (v := 2) hx hb dX13_roundIn_13 (by decide) ?_
  refine t_cSi (n := 3) (As := [.int p1, .int p2, .int 2]) (rest := [.ref p0, .int z41402, .int p2, .int p2]) X hT (km49_X13_part l G tag L F hT.2.2.2 p1 p2 2 (by omega) (by omega) (by decide)) qw_661 qw_662 qw_5 qw_663 ⟨by decide +kernel, by decide +kernel, by decide +kernel⟩ ⟨Nat.le_of_ble_eq_true rfl, Nat.le_of_ble_eq_true rfl⟩ hl rfl rfl (Nat.le_of_ble_eq_true rfl) dX13_roundIn_14 ⟨Nat.le_of_ble_eq_true rfl, Nat.le_of_ble_eq_true rfl⟩ (fun z41403 F9 H locs hT hz41403 => ?_)
  obtain ⟨fz41403, hz41403, xz41403_0⟩ := hz41403
  rw [fz41403] at hT
  have k41404 : (2 : Int32).toInt = 2 := by decide
  refine t_ild X hT m0 g0 rfl (by omega) dX13_roundIn_17 (fun z41405 vz41405 rz41405 => ?_)
  have oz41405 := rz41405
  have rz41405 := rg_all z41405
  refine t_cSi (n := 3) (As := [.int p2, .int z41402, .int z41405]) (rest := [.int p2]) X hT (km143_X13_doorPlace l G tag L F hT.2.2.2 p2 z41402 z41405 ) qw_938 qw_939 qw_5 qw_940 ⟨by decide +kernel, by decide +kernel, by decide +kernel⟩ ⟨Nat.le_of_ble_eq_true rfl, Nat.le_of_ble_eq_true rfl⟩ hl rfl rfl (Nat.le_of_ble_eq_true rfl) dX13_roundIn_18 ⟨Nat.le_of_ble_eq_true rfl, Nat.le_of_ble_eq_true rfl⟩ (fun z41406 F9 H locs hT hz41406 => ?_)
  obtain ⟨fz41406, hz41406⟩ := hz41406
  rw [fz41406] at hT
  refine lv_iload_n hx hb dX13_roundIn_21 rfl (lv_at hl 2 rfl) ?_
  refine lv_iconst (v := 1) hx hb dX13_roundIn_22 (by decide) ?_
  refine lv_isub hx hb dX13_roundIn_23 ?_
  refine lv_topi (fun z41407 ez41407 => ?_)
  have hz41407 : z41407.toInt = p2.toInt - 1 := ar_sub ez41407 (rfl : p2.toInt = p2.toInt) (by decide : (1 : Int32).toInt = 1) (by omega) (by omega)
  have rz41407 : 1 ≤ z41407.toInt ∧ z41407.toInt ≤ 5 := by omega
  refine lv_aload_n hx hb dX13_roundIn_24 rfl (lv_at hl 0 rfl) ?_
  refine lv_iload_n hx hb dX13_roundIn_25 rfl (lv_at hl 1 rfl) ?_
  refine lv_iload_n hx hb dX13_roundIn_26 rfl (lv_at hl 2 rfl) ?_
  refine lv_iconst (v := 1) hx hb dX13_roundIn_27 (by decide) ?_
  refine lv_isub hx hb dX13_roundIn_28 ?_
  refine lv_topi (fun z41408 ez41408 => ?_)
  have hz41408 : z41408.toInt = p2.toInt - 1 := ar_sub ez41408 (rfl : p2.toInt = p2.toInt) (by decide : (1 : Int32).toInt = 1) (by omega) (by omega)
  have rz41408 : 1 ≤ z41408.toInt ∧ z41408.toInt ≤ 5 := by omega
  refine lv_iconst (v := 1) hx hb dX13_roundIn_29 (by decide) ?_
  refine t_cSi (n := 3) (As := [.int p1, .int z41408, .int 1]) (rest := [.ref p0, .int z41407, .int z41406, .int p2]) X hT (km49_X13_part l G tag L F hT.2.2.2 p1 z41408 1 (by omega) (by omega) (by decide)) qw_661 qw_662 qw_5 qw_663 ⟨by decide +kernel, by decide +kernel, by decide +kernel⟩ ⟨Nat.le_of_ble_eq_true rfl, Nat.le_of_ble_eq_true rfl⟩ hl rfl rfl (Nat.le_of_ble_eq_true rfl) dX13_roundIn_30 ⟨Nat.le_of_ble_eq_true rfl, Nat.le_of_ble_eq_true rfl⟩ (fun z41409 F9 H locs hT hz41409 => ?_)
  obtain ⟨fz41409, hz41409, xz41409_0⟩ := hz41409
  rw [fz41409] at hT
  have k41410 : (1 : Int32).toInt = 1 := by decide
  refine t_ild X hT m0 g0 rfl (by omega) dX13_roundIn_33 (fun z41411 vz41411 rz41411 => ?_)
  have oz41411 := rz41411
  have rz41411 := rg_all z41411
  refine lv_aload_n hx hb dX13_roundIn_34 rfl (lv_at hl 0 rfl) ?_
  refine lv_iload_n hx hb dX13_roundIn_35 rfl (lv_at hl 1 rfl) ?_
  refine lv_iload_n hx hb dX13_roundIn_36 rfl (lv_at hl 2 rfl) ?_
  refine lv_iconst (v := 1) hx hb dX13_roundIn_37 (by decide) ?_
  refine lv_isub hx hb dX13_roundIn_38 ?_
  refine lv_topi (fun z41412 ez41412 => ?_)
  have hz41412 : z41412.toInt = p2.toInt - 1 := ar_sub ez41412 (rfl : p2.toInt = p2.toInt) (by decide : (1 : Int32).toInt = 1) (by omega) (by omega)
  have rz41412 : 1 ≤ z41412.toInt ∧ z41412.toInt ≤ 5 := by omega
  refine lv_iconst (v := 2) hx hb dX13_roundIn_39 (by decide) ?_
  refine t_cSi (n := 3) (As := [.int p1, .int z41412, .int 2]) (rest := [.ref p0, .int z41411, .int z41407, .int z41406, .int p2]) X hT (km49_X13_part l G tag L F hT.2.2.2 p1 z41412 2 (by omega) (by omega) (by decide)) qw_661 qw_662 qw_5 qw_663 ⟨by decide +kernel, by decide +kernel, by decide +kernel⟩ ⟨Nat.le_of_ble_eq_true rfl, Nat.le_of_ble_eq_true rfl⟩ hl rfl rfl (Nat.le_of_ble_eq_true rfl) dX13_roundIn_40 ⟨Nat.le_of_ble_eq_true rfl, Nat.le_of_ble_eq_true rfl⟩ (fun z41413 F9 H locs hT hz41413 => ?_)
  obtain ⟨fz41413, hz41413, xz41413_0⟩ := hz41413
  rw [fz41413] at hT
  have k41414 : (2 : Int32).toInt = 2 := by decide
  refine t_ild X hT m0 g0 rfl (by omega) dX13_roundIn_43 (fun z41415 vz41415 rz41415 => ?_)
  have oz41415 := rz41415
  have rz41415 := rg_all z41415
  refine t_cSi (n := 3) (As := [.int z41407, .int z41411, .int z41415]) (rest := [.int z41406, .int p2]) X hT (km144_X13_frontPlace l G tag L F hT.2.2.2 z41407 z41411 z41415 ) qw_944 qw_945 qw_5 qw_946 ⟨by decide +kernel, by decide +kernel, by decide +kernel⟩ ⟨Nat.le_of_ble_eq_true rfl, Nat.le_of_ble_eq_true rfl⟩ hl rfl rfl (Nat.le_of_ble_eq_true rfl) dX13_roundIn_44 ⟨Nat.le_of_ble_eq_true rfl, Nat.le_of_ble_eq_true rfl⟩ (fun z41416 F9 H locs hT hz41416 => ?_)
  obtain ⟨fz41416, hz41416⟩ := hz41416
  rw [fz41416] at hT
  refine t_cSi (n := 3) (As := [.int p2, .int z41406, .int z41416]) (rest := []) X hT (km145_X13_roundOf l G tag L F hT.2.2.2 p2 z41406 z41416 ) qw_947 qw_948 qw_5 qw_949 ⟨by decide +kernel, by decide +kernel, by decide +kernel⟩ ⟨Nat.le_of_ble_eq_true rfl, Nat.le_of_ble_eq_true rfl⟩ hl rfl rfl (Nat.le_of_ble_eq_true rfl) dX13_roundIn_47 ⟨Nat.le_of_ble_eq_true rfl, Nat.le_of_ble_eq_true rfl⟩ (fun z41417 F9 H locs hT hz41417 => ?_)
  obtain ⟨fz41417, hz41417⟩ := hz41417
  rw [fz41417] at hT
  exact t_iret hQ X hT (⟨rfl, rg_all _⟩) (Nat.le_of_ble_eq_true rfl) (Nat.le_of_ble_eq_true rfl) dX13_roundIn_50
set_option maxHeartbeats 4000000 in
set_option maxRecDepth 100000 in
theorem km156_X13_plainWay (l : Launch) (G : KG) (tag : Nat → Nat) (L : List Nat) (F : Nat → va_E) (ho : okT G ttC tag L F) (p0 : Nat) (p1 : Int32) (p2 : Int32) (m0 : p0 ∈ L) (g0 : tag p0 = 37) (h1 : 0 ≤ p1.toInt ∧ p1.toInt ≤ 3) (h2 : 0 ≤ p2.toInt ∧ p2.toInt ≤ 6) : TMi l yX13_plainWay cX13_plainWay 5 (some .int) { frames := 3, cells := 0, slots := 0, locals := 66 } G ttC tag L F [.ref p0, .int p1, .int p2] (fun r F1 => F1 = F ∧ ((-2147483648) ≤ r.toInt ∧ r.toInt ≤ 2147483647)) := by
  refine t_bodyi (y := yX13_plainWay) (cd := cX13_plainWay) (mL := 5) (rt := (some .int)) (rm := { frames := 3, cells := 0, slots := 0, locals := 66 }) (av := [.ref p0, .int p1, .int p2]) (by decide) (Nat.le_of_ble_eq_true rfl) ho ?_
  intro p e s m args below meth c ls A Q hQ X hT hl
  have hx := X.1.1
  have hb := X.1.2.1
  have hl : lv_has ls 5 [(0, .ref p0), (1, .int p1), (2, .int p2)] := hl
  have K54 : ∀ (z41764 : Int32) (z41765 : Int32) (z41766 : Int32) (H : Heap) (locs : List Loc) (ls : Array Slot), (0 ≤ z41765.toInt ∧ z41765.toInt ≤ 5) → (0 ≤ z41766.toInt ∧ z41766.toInt ≤ 6) → TH G ttC A s tag L F H locs → (elm F p0 p1.toNatClampNeg = z41766) → lv_has ls 5 [(0, .ref p0), (1, .int p1), (2, .int p2), (3, .int z41764), (4, .int z41765)] → W p l e { frames := 3, cells := 0, slots := 0, locals := 66 } s m args below meth c H locs 0 0 Q (F0 m 54 ls []) := by
    intro z41764 z41765 z41766 H locs ls rz41765 rz41766 hT qz41766 hl
    have rz41764 := rg_all z41764
    refine lv_iload_n hx hb dX13_plainWay_54 rfl (lv_at hl 2 rfl) ?_
    refine lv_if_ne (tgt := 72) hx hb dX13_plainWay_55 (by decide) (fun c41767 => ?_) (fun c41767 => ?_)
    · have w41768 := cv_ne (rfl : p2.toInt = p2.toInt) (by decide : (0 : Int32).toInt = 0) c41767
      refine lv_iload_n hx hb dX13_plainWay_72 rfl (lv_at hl 3 rfl) ?_
      exact t_iret hQ X hT (⟨rfl, rg_all _⟩) (Nat.le_of_ble_eq_true rfl) (Nat.le_of_ble_eq_true rfl) dX13_plainWay_73
    · have w41769 := cv_eq (rfl : p2.toInt = p2.toInt) (by decide : (0 : Int32).toInt = 0) c41767
      refine lv_aload_n hx hb dX13_plainWay_58 rfl (lv_at hl 0 rfl) ?_
      refine lv_iconst (v := 0) hx hb dX13_plainWay_59 (by decide) ?_
      refine lv_iload_n hx hb dX13_plainWay_60 rfl (lv_at hl 1 rfl) ?_
      refine lv_iadd hx hb dX13_plainWay_61 ?_
      refine lv_topi (fun z41770 ez41770 => ?_)
      obtain rfl : p1 = z41770 := (ar_zadd ez41770).symm
      refine t_ild X hT m0 g0 rfl (by omega) dX13_plainWay_62 (fun z41771 vz41771 rz41771 => ?_)
      obtain rfl : z41766 = z41771 := qz41766.symm.trans vz41771
      refine lv_if_le (tgt := 72) hx hb dX13_plainWay_63 (by decide) (fun c41772 => ?_) (fun c41772 => ?_)
      · have w41773 := cv_le (rfl : z41766.toInt = z41766.toInt) (by decide : (0 : Int32).toInt = 0) c41772
        refine lv_iload_n hx hb dX13_plainWay_72 rfl (lv_at hl 3 rfl) ?_
        exact t_iret hQ X hT (⟨rfl, rg_all _⟩) (Nat.le_of_ble_eq_true rfl) (Nat.le_of_ble_eq_true rfl) dX13_plainWay_73
      · have w41774 := cv_nle (rfl : z41766.toInt = z41766.toInt) (by decide : (0 : Int32).toInt = 0) c41772
        refine lv_iload_n hx hb dX13_plainWay_66 rfl (lv_at hl 3 rfl) ?_
        refine lv_iconst (v := 1) hx hb dX13_plainWay_67 (by decide) ?_
        refine lv_iadd hx hb dX13_plainWay_68 ?_
        refine lv_topi (fun z41775 ez41775 => ?_)
        have rz41775 := rg_all z41775
        refine lv_goto (tgt := 73) hx hb dX13_plainWay_69 (by decide) ?_
        exact t_iret hQ X hT (⟨rfl, rg_all _⟩) (Nat.le_of_ble_eq_true rfl) (Nat.le_of_ble_eq_true rfl) dX13_plainWay_73
  have K9 : ∀ (n : Nat) (z41776 : Int32) (z41777 : Int32) (z41778 : Int32) (H : Heap) (locs : List Loc) (ls : Array Slot), (z41777.toInt - 0 < (n : Int)) → (0 ≤ z41777.toInt ∧ z41777.toInt ≤ 6) → (0 ≤ z41778.toInt ∧ z41778.toInt ≤ 6) → TH G ttC A s tag L F H locs → (elm F p0 p1.toNatClampNeg = z41778) → lv_has ls 5 [(0, .ref p0), (1, .int p1), (2, .int p2), (3, .int z41776), (4, .int z41777)] → W p l e { frames := 3, cells := 0, slots := 0, locals := 66 } s m args below meth c H locs 0 0 Q (F0 m 9 ls []) := by
    intro n
    induction n with
    | zero =>
      intro z41776 z41777 z41778 H locs ls hn rz41777 rz41778 hT qz41778 hl
      have rz41776 := rg_all z41776
      exfalso
      omega
    | succ n ih9 =>
      intro z41776 z41777 z41778 H locs ls hn rz41777 rz41778 hT qz41778 hl
      have rz41776 := rg_all z41776
      have K45 : ∀ (z41780 : Int32) (z41781 : Int32) (z41782 : Int32) (z41783 : Int32) (H : Heap) (locs : List Loc) (ls : Array Slot), (1 ≤ z41781.toInt ∧ z41781.toInt ≤ 1) → (0 ≤ z41783.toInt ∧ z41783.toInt ≤ 6) → (1 ≤ z41777.toInt ∧ z41777.toInt ≤ 6) → TH G ttC A s tag L F H locs → (elm F p0 p1.toNatClampNeg = z41783) → lv_has ls 5 [(0, .ref p0), (1, .int p1), (2, .int p2), (3, .int z41776), (4, .int z41777)] → W p l e { frames := 3, cells := 0, slots := 0, locals := 66 } s m args below meth c H locs 0 0 Q (F0 m 45 ls [.int z41780, .int z41781, .int z41782]) := by
        intro z41780 z41781 z41782 z41783 H locs ls rz41781 rz41783 r9s41779 hT qz41783 hl
        have rz41780 := rg_all z41780
        have rz41782 := rg_all z41782
        refine lv_iadd hx hb dX13_plainWay_45 ?_
        refine lv_topi (fun z41784 ez41784 => ?_)
        have rz41784 := rg_all z41784
        refine lv_iadd hx hb dX13_plainWay_46 ?_
        refine lv_topi (fun z41785 ez41785 => ?_)
        have rz41785 := rg_all z41785
        refine lv_istore_n (lv' := [(3, .int z41785), (0, .ref p0), (1, .int p1), (2, .int p2), (4, .int z41777)]) hx hb dX13_plainWay_47 rfl hl (by decide) rfl (fun ls hl => ?_)
        obtain ⟨z41786, ez41786⟩ : ∃ y : Int32, y = z41777 + (-1) := ⟨_, rfl⟩
        have hz41786 : z41786.toInt = z41777.toInt + (-1) := ar_add ez41786 rfl (by decide : ((-1) : Int32).toInt = (-1)) (by omega) (by omega)
        refine lv_iinc (v := z41786) (lv' := [(4, .int z41786), (3, .int z41785), (0, .ref p0), (1, .int p1), (2, .int p2)]) hx hb dX13_plainWay_48 hl (k := 4) rfl (by rw [ez41786]; rfl) (by decide) rfl (fun ls hl => ?_)
        refine lv_goto (tgt := 9) hx hb dX13_plainWay_51 (by decide) ?_
        exact ih9 z41785 z41786 z41783 _ _ _ (by omega) (by omega) (by omega) hT qz41783 (lv_sub hl [2, 3, 4, 1, 0] rfl)
      have K44 : ∀ (z41788 : Int32) (z41789 : Int32) (z41790 : Int32) (H : Heap) (locs : List Loc) (ls : Array Slot), (1 ≤ z41788.toInt ∧ z41788.toInt ≤ 1) → (0 ≤ z41790.toInt ∧ z41790.toInt ≤ 6) → (1 ≤ z41777.toInt ∧ z41777.toInt ≤ 6) → TH G ttC A s tag L F H locs → (elm F p0 p1.toNatClampNeg = z41790) → lv_has ls 5 [(0, .ref p0), (1, .int p1), (2, .int p2), (3, .int z41776), (4, .int z41777)] → W p l e { frames := 3, cells := 0, slots := 0, locals := 66 } s m args below meth c H locs 0 0 Q (F0 m 44 ls [.int z41788, .int z41789]) := by
        intro z41788 z41789 z41790 H locs ls rz41788 rz41790 r9s41787 hT qz41790 hl
        have rz41789 := rg_all z41789
        refine lv_iconst (v := 0) hx hb dX13_plainWay_44 (by decide) ?_
        have k41791 : (0 : Int32).toInt = 0 := by decide
        exact K45 0 z41788 z41789 z41790 _ _ _ (by omega) (by omega) (by omega) hT qz41790 (lv_sub hl [0, 1, 2, 3, 4] rfl)
      refine lv_iload hx hb dX13_plainWay_9 (lv_at hl 4 rfl) ?_
      refine lv_if_le (tgt := 54) hx hb dX13_plainWay_11 (by decide) (fun c41792 => ?_) (fun c41792 => ?_)
      · have w41793 := cv_le (rfl : z41777.toInt = z41777.toInt) (by decide : (0 : Int32).toInt = 0) c41792
        exact K54 z41776 z41777 z41778 _ _ _ (by omega) (by omega) hT qz41778 (lv_sub hl [0, 1, 2, 3, 4] rfl)
      · have w41794 := cv_nle (rfl : z41777.toInt = z41777.toInt) (by decide : (0 : Int32).toInt = 0) c41792
        refine lv_iload hx hb dX13_plainWay_14 (lv_at hl 4 rfl) ?_
        refine lv_iload_n hx hb dX13_plainWay_16 rfl (lv_at hl 2 rfl) ?_
        refine lv_icmp_lt (tgt := 54) hx hb dX13_plainWay_17 (by decide) (fun c41795 => ?_) (fun c41795 => ?_)
        · have w41796 := cv_lt (rfl : z41777.toInt = z41777.toInt) (rfl : p2.toInt = p2.toInt) c41795
          exact K54 z41776 z41777 z41778 _ _ _ (by omega) (by omega) hT qz41778 (lv_sub hl [0, 1, 2, 3, 4] rfl)
        · have w41797 := cv_nlt (rfl : z41777.toInt = z41777.toInt) (rfl : p2.toInt = p2.toInt) c41795
          refine lv_iload_n hx hb dX13_plainWay_20 rfl (lv_at hl 3 rfl) ?_
          refine lv_iconst (v := 1) hx hb dX13_plainWay_21 (by decide) ?_
          refine lv_iload hx hb dX13_plainWay_22 (lv_at hl 4 rfl) ?_
          refine lv_iconst (v := 1) hx hb dX13_plainWay_24 (by decide) ?_
          refine lv_icmp_le (tgt := 44) hx hb dX13_plainWay_25 (by decide) (fun c41798 => ?_) (fun c41798 => ?_)
          · have w41799 := cv_le (rfl : z41777.toInt = z41777.toInt) (by decide : (1 : Int32).toInt = 1) c41798
            have k41800 : (1 : Int32).toInt = 1 := by decide
            exact K44 1 z41776 z41778 _ _ _ (by decide) (by omega) (by omega) hT qz41778 (lv_sub hl [0, 1, 2, 3, 4] rfl)
          · have w41801 := cv_nle (rfl : z41777.toInt = z41777.toInt) (by decide : (1 : Int32).toInt = 1) c41798
            refine lv_iload hx hb dX13_plainWay_28 (lv_at hl 4 rfl) ?_
            refine lv_iload_n hx hb dX13_plainWay_30 rfl (lv_at hl 2 rfl) ?_
            refine lv_icmp_le (tgt := 44) hx hb dX13_plainWay_31 (by decide) (fun c41802 => ?_) (fun c41802 => ?_)
            · have w41803 := cv_le (rfl : z41777.toInt = z41777.toInt) (rfl : p2.toInt = p2.toInt) c41802
              have k41804 : (1 : Int32).toInt = 1 := by decide
              exact K44 1 z41776 z41778 _ _ _ (by decide) (by omega) (by omega) hT qz41778 (lv_sub hl [0, 1, 2, 3, 4] rfl)
            · have w41805 := cv_nle (rfl : z41777.toInt = z41777.toInt) (rfl : p2.toInt = p2.toInt) c41802
              refine lv_aload_n hx hb dX13_plainWay_34 rfl (lv_at hl 0 rfl) ?_
              refine lv_iload_n hx hb dX13_plainWay_35 rfl (lv_at hl 1 rfl) ?_
              refine lv_iload hx hb dX13_plainWay_36 (lv_at hl 4 rfl) ?_
              refine t_cSi (n := 3) (As := [.ref p0, .int p1, .int z41777]) (rest := [.int 1, .int z41776]) X hT (km155_X13_roundIn l G tag L F hT.2.2.2 p0 p1 z41777 m0 g0 (by omega) (by omega)) qw_1005 qw_1006 qw_5 qw_1007 ⟨by decide +kernel, by decide +kernel, by decide +kernel⟩ ⟨Nat.le_of_ble_eq_true rfl, Nat.le_of_ble_eq_true rfl⟩ hl rfl rfl (Nat.le_of_ble_eq_true rfl) dX13_plainWay_38 ⟨Nat.le_of_ble_eq_true rfl, Nat.le_of_ble_eq_true rfl⟩ (fun z41806 F9 H locs hT hz41806 => ?_)
              obtain ⟨fz41806, hz41806⟩ := hz41806
              rw [fz41806] at hT
              refine lv_goto (tgt := 45) hx hb dX13_plainWay_41 (by decide) ?_
              have k41807 : (1 : Int32).toInt = 1 := by decide
              exact K45 z41806 1 z41776 z41778 _ _ _ (by decide) (by omega) (by omega) hT qz41778 (lv_sub hl [0, 1, 2, 3, 4] rfl)
  refine lv_iconst (v := 0) hx hb dX13_plainWay_0 (by decide) ?_
  refine lv_istore_n (lv' := [(3, .int 0), (0, .ref p0), (1, .int p1), (2, .int p2)]) hx hb dX13_plainWay_1 rfl hl (by decide) rfl (fun ls hl => ?_)
  refine lv_aload_n hx hb dX13_plainWay_2 rfl (lv_at hl 1 rfl) ?_
  refine lv_iconst (v := 0) hx hb dX13_plainWay_3 (by decide) ?_
  refine lv_iload_n hx hb dX13_plainWay_4 rfl (lv_at hl 2 rfl) ?_
  refine lv_iadd hx hb dX13_plainWay_5 ?_
  refine lv_topi (fun z41808 ez41808 => ?_)
  obtain rfl : p1 = z41808 := (ar_zadd ez41808).symm
  refine t_ild X hT m0 g0 rfl (by omega) dX13_plainWay_6 (fun z41809 vz41809 rz41809 => ?_)
  have rz41809 := row_ml (by omega) rz41809
  refine lv_istore (lv' := [(4, .int z41809), (3, .int 0), (0, .ref p0), (1, .int p1), (2, .int p2)]) hx hb dX13_plainWay_7 hl (by decide) rfl (fun ls hl => ?_)
  have k41810 : (0 : Int32).toInt = 0 := by decide
  exact K9 7 0 z41809 z41809 _ _ _ (by omega) (by omega) (by omega) hT vz41809 (lv_sub hl [2, 3, 4, 1, 0] rfl)
set_option maxHeartbeats 4000000 in
set_option maxRecDepth 100000 in
theorem km157_X13_wayTo (l : Launch) (G : KG) (tag : Nat → Nat) (L : List Nat) (F : Nat → va_E) (ho : okT G ttC tag L F) (p0 : Nat) (p1 : Int32) (p2 : Int32) (m0 : p0 ∈ L) (g0 : tag p0 = 37) (h1 : 0 ≤ p1.toInt ∧ p1.toInt ≤ 3) (h2 : 0 ≤ p2.toInt ∧ p2.toInt ≤ 6) : TMi l yX13_wayTo cX13_wayTo 4 (some .int) { frames := 4, cells := 0, slots := 0, locals := 90 } G ttC tag L F [.ref p0, .int p1, .int p2] (fun r F1 => F1 = F ∧ ((-2147483648) ≤ r.toInt ∧ r.toInt ≤ 2147483647)) := by
  refine t_bodyi (y := yX13_wayTo) (cd := cX13_wayTo) (mL := 4) (rt := (some .int)) (rm := { frames := 4, cells := 0, slots := 0, locals := 90 }) (av := [.ref p0, .int p1, .int p2]) (by decide) (Nat.le_of_ble_eq_true rfl) ho ?_
  intro p e s m args below meth c ls A Q hQ X hT hl
  have hx := X.1.1
  have hb := X.1.2.1
  have hl : lv_has ls 4 [(0, .ref p0), (1, .int p1), (2, .int p2)] := hl
  have K10 : ∀ (n : Nat) (z42065 : Int32) (H : Heap) (locs : List Loc) (ls : Array Slot), (7 - z42065.toInt < (n : Int)) → (1 ≤ z42065.toInt ∧ z42065.toInt ≤ 7) → TH G ttC A s tag L F H locs → lv_has ls 4 [(0, .ref p0), (1, .int p1), (2, .int p2), (3, .int z42065)] → W p l e { frames := 4, cells := 0, slots := 0, locals := 90 } s m args below meth c H locs 0 0 Q (F0 m 10 ls []) := by
    intro n
    induction n with
    | zero =>
      intro z42065 H locs ls hn rz42065 hT hl
      exfalso
      omega
    | succ n ih10 =>
      intro z42065 H locs ls hn rz42065 hT hl
      refine lv_iload_n hx hb dX13_wayTo_10 rfl (lv_at hl 3 rfl) ?_
      refine lv_aload_n hx hb dX13_wayTo_11 rfl (lv_at hl 0 rfl) ?_
      refine lv_iconst (v := 0) hx hb dX13_wayTo_12 (by decide) ?_
      refine lv_iload_n hx hb dX13_wayTo_13 rfl (lv_at hl 1 rfl) ?_
      refine lv_iadd hx hb dX13_wayTo_14 ?_
      refine lv_topi (fun z42066 ez42066 => ?_)
      obtain rfl : p1 = z42066 := (ar_zadd ez42066).symm
      refine t_ild X hT m0 g0 rfl (by omega) dX13_wayTo_15 (fun z42067 vz42067 rz42067 => ?_)
      have rz42067 := row_ml (by omega) rz42067
      refine lv_icmp_gt (tgt := 53) hx hb dX13_wayTo_16 (by decide) (fun c42068 => ?_) (fun c42068 => ?_)
      · have w42069 := cv_lt (rfl : z42067.toInt = z42067.toInt) (rfl : z42065.toInt = z42065.toInt) c42068
        refine lv_aload_n hx hb dX13_wayTo_53 rfl (lv_at hl 0 rfl) ?_
        refine lv_iload_n hx hb dX13_wayTo_54 rfl (lv_at hl 1 rfl) ?_
        refine lv_iload_n hx hb dX13_wayTo_55 rfl (lv_at hl 2 rfl) ?_
        refine t_cSi (n := 3) (As := [.ref p0, .int p1, .int p2]) (rest := []) X hT (km156_X13_plainWay l G tag L F hT.2.2.2 p0 p1 p2 m0 g0 (by omega) (by omega)) qw_1002 qw_1003 qw_5 qw_1004 ⟨by decide +kernel, by decide +kernel, by decide +kernel⟩ ⟨Nat.le_of_ble_eq_true rfl, Nat.le_of_ble_eq_true rfl⟩ hl rfl rfl (Nat.le_of_ble_eq_true rfl) dX13_wayTo_56 ⟨Nat.le_of_ble_eq_true rfl, Nat.le_of_ble_eq_true rfl⟩ (fun z42070 F9 H locs hT hz42070 => ?_)
        obtain ⟨fz42070, hz42070⟩ := hz42070
        rw [fz42070] at hT
        exact t_iret hQ X hT (⟨rfl, rg_all _⟩) (Nat.le_of_ble_eq_true rfl) (Nat.le_of_ble_eq_true rfl) dX13_wayTo_59
      · have w42071 := cv_nlt (rfl : z42067.toInt = z42067.toInt) (rfl : z42065.toInt = z42065.toInt) c42068
        refine lv_aload_n hx hb dX13_wayTo_19 rfl (lv_at hl 0 rfl) ?_
        refine lv_iload_n hx hb dX13_wayTo_20 rfl (lv_at hl 1 rfl) ?_
        refine lv_iload_n hx hb dX13_wayTo_21 rfl (lv_at hl 3 rfl) ?_
        refine lv_iconst (v := 5) hx hb dX13_wayTo_22 (by decide) ?_
        refine t_cSi (n := 3) (As := [.int p1, .int z42065, .int 5]) (rest := [.ref p0]) X hT (km49_X13_part l G tag L F hT.2.2.2 p1 z42065 5 (by omega) (by omega) (by decide)) qw_661 qw_662 qw_5 qw_663 ⟨by decide +kernel, by decide +kernel, by decide +kernel⟩ ⟨Nat.le_of_ble_eq_true rfl, Nat.le_of_ble_eq_true rfl⟩ hl rfl rfl (Nat.le_of_ble_eq_true rfl) dX13_wayTo_23 ⟨Nat.le_of_ble_eq_true rfl, Nat.le_of_ble_eq_true rfl⟩ (fun z42072 F9 H locs hT hz42072 => ?_)
        obtain ⟨fz42072, hz42072, xz42072_0⟩ := hz42072
        rw [fz42072] at hT
        have k42073 : (5 : Int32).toInt = 5 := by decide
        refine t_ild X hT m0 g0 rfl (by omega) dX13_wayTo_26 (fun z42074 vz42074 rz42074 => ?_)
        have oz42074 := rz42074
        have rz42074 := rg_all z42074
        refine lv_iconst (v := 1) hx hb dX13_wayTo_27 (by decide) ?_
        refine lv_icmp_eq (tgt := 44) hx hb dX13_wayTo_28 (by decide) (fun c42075 => ?_) (fun c42075 => ?_)
        · have w42076 := cv_eq (rfl : z42074.toInt = z42074.toInt) (by decide : (1 : Int32).toInt = 1) c42075
          refine lv_bipush (v := (-2)) hx hb dX13_wayTo_44 (by decide) ?_
          have k42077 : ((-2) : Int32).toInt = (-2) := by decide
          exact t_iret hQ X hT (⟨rfl, rg_all _⟩) (Nat.le_of_ble_eq_true rfl) (Nat.le_of_ble_eq_true rfl) dX13_wayTo_46
        · have w42078 := cv_ne (rfl : z42074.toInt = z42074.toInt) (by decide : (1 : Int32).toInt = 1) c42075
          refine lv_aload_n hx hb dX13_wayTo_31 rfl (lv_at hl 0 rfl) ?_
          refine lv_iload_n hx hb dX13_wayTo_32 rfl (lv_at hl 1 rfl) ?_
          refine lv_iload_n hx hb dX13_wayTo_33 rfl (lv_at hl 3 rfl) ?_
          refine lv_bipush (v := 6) hx hb dX13_wayTo_34 (by decide) ?_
          refine t_cSi (n := 3) (As := [.int p1, .int z42065, .int 6]) (rest := [.ref p0]) X hT (km49_X13_part l G tag L F hT.2.2.2 p1 z42065 6 (by omega) (by omega) (by decide)) qw_661 qw_662 qw_5 qw_663 ⟨by decide +kernel, by decide +kernel, by decide +kernel⟩ ⟨Nat.le_of_ble_eq_true rfl, Nat.le_of_ble_eq_true rfl⟩ hl rfl rfl (Nat.le_of_ble_eq_true rfl) dX13_wayTo_36 ⟨Nat.le_of_ble_eq_true rfl, Nat.le_of_ble_eq_true rfl⟩ (fun z42079 F9 H locs hT hz42079 => ?_)
          obtain ⟨fz42079, hz42079, xz42079_0⟩ := hz42079
          rw [fz42079] at hT
          have k42080 : (6 : Int32).toInt = 6 := by decide
          refine t_ild X hT m0 g0 rfl (by omega) dX13_wayTo_39 (fun z42081 vz42081 rz42081 => ?_)
          have oz42081 := rz42081
          have rz42081 := rg_all z42081
          refine lv_iconst (v := 1) hx hb dX13_wayTo_40 (by decide) ?_
          refine lv_icmp_ne (tgt := 47) hx hb dX13_wayTo_41 (by decide) (fun c42082 => ?_) (fun c42082 => ?_)
          · have w42083 := cv_ne (rfl : z42081.toInt = z42081.toInt) (by decide : (1 : Int32).toInt = 1) c42082
            obtain ⟨z42084, ez42084⟩ : ∃ y : Int32, y = z42065 + 1 := ⟨_, rfl⟩
            have hz42084 : z42084.toInt = z42065.toInt + 1 := ar_add ez42084 rfl (by decide : (1 : Int32).toInt = 1) (by omega) (by omega)
            refine lv_iinc (v := z42084) (lv' := [(3, .int z42084), (0, .ref p0), (1, .int p1), (2, .int p2)]) hx hb dX13_wayTo_47 hl (k := 3) rfl (by rw [ez42084]; rfl) (by decide) rfl (fun ls hl => ?_)
            refine lv_goto (tgt := 10) hx hb dX13_wayTo_50 (by decide) ?_
            exact ih10 z42084 _ _ _ (by omega) (by omega) hT  (lv_sub hl [1, 2, 3, 0] rfl)
          · have w42085 := cv_eq (rfl : z42081.toInt = z42081.toInt) (by decide : (1 : Int32).toInt = 1) c42082
            refine lv_bipush (v := (-2)) hx hb dX13_wayTo_44 (by decide) ?_
            have k42086 : ((-2) : Int32).toInt = (-2) := by decide
            exact t_iret hQ X hT (⟨rfl, rg_all _⟩) (Nat.le_of_ble_eq_true rfl) (Nat.le_of_ble_eq_true rfl) dX13_wayTo_46
  have K9 : ∀ (z42087 : Int32) (H : Heap) (locs : List Loc) (ls : Array Slot), (1 ≤ z42087.toInt ∧ z42087.toInt ≤ 6) → TH G ttC A s tag L F H locs → lv_has ls 4 [(0, .ref p0), (1, .int p1), (2, .int p2)] → W p l e { frames := 4, cells := 0, slots := 0, locals := 90 } s m args below meth c H locs 0 0 Q (F0 m 9 ls [.int z42087]) := by
    intro z42087 H locs ls rz42087 hT hl
    refine lv_istore_n (lv' := [(3, .int z42087), (0, .ref p0), (1, .int p1), (2, .int p2)]) hx hb dX13_wayTo_9 rfl hl (by decide) rfl (fun ls hl => ?_)
    exact K10 7 z42087 _ _ _ (by omega) (by omega) hT  (lv_sub hl [1, 2, 3, 0] rfl)
  refine lv_iload_n hx hb dX13_wayTo_0 rfl (lv_at hl 2 rfl) ?_
  refine lv_if_le (tgt := 8) hx hb dX13_wayTo_1 (by decide) (fun c42088 => ?_) (fun c42088 => ?_)
  · have w42089 := cv_le (rfl : p2.toInt = p2.toInt) (by decide : (0 : Int32).toInt = 0) c42088
    refine lv_iconst (v := 1) hx hb dX13_wayTo_8 (by decide) ?_
    have k42090 : (1 : Int32).toInt = 1 := by decide
    exact K9 1 _ _ _ (by decide) hT  (lv_sub hl [0, 1, 2] rfl)
  · have w42091 := cv_nle (rfl : p2.toInt = p2.toInt) (by decide : (0 : Int32).toInt = 0) c42088
    refine lv_iload_n hx hb dX13_wayTo_4 rfl (lv_at hl 2 rfl) ?_
    refine lv_goto (tgt := 9) hx hb dX13_wayTo_5 (by decide) ?_
    exact K9 p2 _ _ _ (by omega) hT  (lv_sub hl [0, 1, 2] rfl)
set_option maxHeartbeats 4000000 in
set_option maxRecDepth 100000 in
theorem km158_X13_way (l : Launch) (G : KG) (tag : Nat → Nat) (L : List Nat) (Fo : Nat → va_E) (ho : okT G ttC tag L Fo) (p0 : Nat) (p1 : Int32) (p2 : Int32) (x0 : Nat) (m0 : p0 ∈ L) (g0 : tag p0 = 46) (mx0 : x0 ∈ L) (gx0 : tag x0 = 45) (pf0 : fld Fo p0 3 = .ref x0) : TMi l yX13_way cX13_way 3 (some .int) { frames := 5, cells := 0, slots := 0, locals := 113 } G ttC tag L Fo [.ref p0, .int p1, .int p2] (fun r F1 => ((-2147483648) ≤ r.toInt ∧ r.toInt ≤ 2147483647) ∧ ((∀ b j : Nat, (tag b ≠ 46 ∨ j ≠ 0) → (tag b ≠ 46 ∨ j ≠ 1) → (tag b ≠ 46 ∨ j ≠ 2) → fld F1 b j = fld Fo b j) ∧ (∀ b j : Nat, elm F1 b j = elm Fo b j))) := by
  refine t_bodyi (y := yX13_way) (cd := cX13_way) (mL := 3) (rt := (some .int)) (rm := { frames := 5, cells := 0, slots := 0, locals := 113 }) (av := [.ref p0, .int p1, .int p2]) (by decide) (Nat.le_of_ble_eq_true rfl) ho ?_
  intro p e s m args below meth c ls A Q hQ X hT hl
  have hx := X.1.1
  have hb := X.1.2.1
  have hl : lv_has ls 3 [(0, .ref p0), (1, .int p1), (2, .int p2)] := hl
  have rp1 := rg_all p1
  have rp2 := rg_all p2
  obtain ⟨F, hFo⟩ : ∃ F : Nat → va_E, F = Fo := ⟨_, rfl⟩
  rw [← hFo] at hT pf0
  have hfr : (∀ b j : Nat, (tag b ≠ 46 ∨ j ≠ 0) → (tag b ≠ 46 ∨ j ≠ 1) → (tag b ≠ 46 ∨ j ≠ 2) → fld F b j = fld Fo b j) ∧ (∀ b j : Nat, elm F b j = elm Fo b j) := by
    rw [hFo]
    exact ⟨by intros; rfl, by intros; rfl⟩
  refine lv_aload_n hx hb dX13_way_0 rfl (lv_at hl 0 rfl) ?_
  refine lv_iconst (v := 0) hx hb dX13_way_1 (by decide) ?_
  refine t_put (C := RX13) (T := TX13) (N := 37) (v := .int 0) X hT m0 g0 rfl tyX13 tyX13_ok nmX13 rfl 0 (by decide) qw_140 inlX13 rfl (by first | rfl | decide) (by first | rfl | decide) rfl (⟨_, rfl, (show (-2147483648) ≤ (0 : Int32).toInt from (by decide)), (show (0 : Int32).toInt ≤ 2147483647 from (by decide))⟩) dX13_way_2 (fun F H locs hT v42214 h1v42214 h2v42214 => ?_)
  have pf0 := (h1v42214 _ _ (Or.inr (by decide))).trans pf0
  have hfr : (∀ b j : Nat, (tag b ≠ 46 ∨ j ≠ 0) → (tag b ≠ 46 ∨ j ≠ 1) → (tag b ≠ 46 ∨ j ≠ 2) → fld F b j = fld Fo b j) ∧ (∀ b j : Nat, elm F b j = elm Fo b j) := ⟨fun b j n46_0 n46_1 n46_2 => (h1v42214 b j (fr_ne g0 n46_0)).trans (hfr.1 b j n46_0 n46_1 n46_2), fun b j  => (h2v42214 b j).trans (hfr.2 b j )⟩
  refine lv_aload_n hx hb dX13_way_5 rfl (lv_at hl 0 rfl) ?_
  refine lv_iload_n hx hb dX13_way_6 rfl (lv_at hl 1 rfl) ?_
  refine lv_iload_n hx hb dX13_way_7 rfl (lv_at hl 2 rfl) ?_
  refine t_cVi (n := 2) (C := RX13) (T := TX13) (N := 37) (As := [.int p1, .int p2]) (rest := []) X hT (km124_X13_isDepth l G tag L F hT.2.2.2 p0 p1 p2 x0 m0 g0 mx0 gx0 pf0) m0 g0 rfl rfl qw_865 qw_866 qw_867 qw_5 qw_868 ⟨rfl, by decide +kernel, by decide +kernel, by decide +kernel⟩ ⟨Nat.le_of_ble_eq_true rfl, Nat.le_of_ble_eq_true rfl⟩ hl rfl rfl (Nat.le_of_ble_eq_true rfl) dX13_way_8 ⟨Nat.le_of_ble_eq_true rfl, Nat.le_of_ble_eq_true rfl⟩ (fun z42215 F9 H locs hT hz42215 => ?_)
  obtain ⟨fz42215, hz42215⟩ := hz42215
  rw [fz42215] at hT
  obtain ⟨hz42215, iz42215⟩ := hz42215
  refine lv_if_eq (tgt := 30) hx hb dX13_way_11 (by decide) (fun c42216 => ?_) (fun c42216 => ?_)
  · have w42217 := cv_eq (rfl : z42215.toInt = z42215.toInt) (by decide : (0 : Int32).toInt = 0) c42216
    refine lv_aload_n hx hb dX13_way_30 rfl (lv_at hl 0 rfl) ?_
    refine lv_iconst (v := 1) hx hb dX13_way_31 (by decide) ?_
    refine t_cVi (n := 1) (C := RX13) (T := TX13) (N := 37) (As := [.int 1]) (rest := []) X hT (km88_X13_refused l G tag L F hT.2.2.2 p0 1 m0 g0) m0 g0 rfl rfl qw_484 qw_485 qw_486 qw_5 qw_487 ⟨rfl, by decide +kernel, by decide +kernel, by decide +kernel⟩ ⟨Nat.le_of_ble_eq_true rfl, Nat.le_of_ble_eq_true rfl⟩ hl rfl rfl (Nat.le_of_ble_eq_true rfl) dX13_way_32 ⟨Nat.le_of_ble_eq_true rfl, Nat.le_of_ble_eq_true rfl⟩ (fun z42218 F H locs hT hz42218 => ?_)
    obtain ⟨hz42218, yz42218⟩ := hz42218
    have pf0 := (yz42218.1 _ 3 (Or.inr (by decide)) (Or.inr (by decide))).trans pf0
    have v42214 := (yz42218.1 _ 0 (Or.inr (by decide)) (Or.inr (by decide))).trans v42214
    have hfr : (∀ b j : Nat, (tag b ≠ 46 ∨ j ≠ 0) → (tag b ≠ 46 ∨ j ≠ 1) → (tag b ≠ 46 ∨ j ≠ 2) → fld F b j = fld Fo b j) ∧ (∀ b j : Nat, elm F b j = elm Fo b j) := ⟨fun b j n46_0 n46_1 n46_2 => (yz42218.1 b j n46_1 n46_2).trans (hfr.1 b j n46_0 n46_1 n46_2), fun b j  => (yz42218.2 b j ).trans (hfr.2 b j )⟩
    exact t_iret hQ X hT (⟨rg_all _, hfr⟩) (Nat.le_of_ble_eq_true rfl) (Nat.le_of_ble_eq_true rfl) dX13_way_35
  · have w42219 := cv_ne (rfl : z42215.toInt = z42215.toInt) (by decide : (0 : Int32).toInt = 0) c42216
    have w42220 := (fun h => (iz42215 h).1) (by omega)
    have w42221 := (fun h => (iz42215 h).2) (by omega)
    refine lv_aload_n hx hb dX13_way_14 rfl (lv_at hl 0 rfl) ?_
    refine lv_aload_n hx hb dX13_way_15 rfl (lv_at hl 0 rfl) ?_
    refine t_get (C := RX13) (T := TX13) (N := 37) X hT m0 g0 rfl rfl 16 (by decide) qw_112 inlX13 rfl dX13_way_16 (fun v42222 hv42222 ov42222 => ?_)
    obtain ⟨b42223, rfl, mb42223, gb42223⟩ := okV_r ov42222
    have gb42223 : tag b42223 = 37 := tg_of gb42223
    refine lv_iload_n hx hb dX13_way_19 rfl (lv_at hl 1 rfl) ?_
    refine lv_iload_n hx hb dX13_way_20 rfl (lv_at hl 2 rfl) ?_
    refine t_cSi (n := 3) (As := [.ref b42223, .int p1, .int p2]) (rest := [.ref p0]) X hT (km157_X13_wayTo l G tag L F hT.2.2.2 b42223 p1 p2 mb42223 gb42223 (by omega) (by omega)) qw_999 qw_1000 qw_5 qw_1001 ⟨by decide +kernel, by decide +kernel, by decide +kernel⟩ ⟨Nat.le_of_ble_eq_true rfl, Nat.le_of_ble_eq_true rfl⟩ hl rfl rfl (Nat.le_of_ble_eq_true rfl) dX13_way_21 ⟨Nat.le_of_ble_eq_true rfl, Nat.le_of_ble_eq_true rfl⟩ (fun z42224 F9 H locs hT hz42224 => ?_)
    obtain ⟨fz42224, hz42224⟩ := hz42224
    rw [fz42224] at hT
    refine t_cVi (n := 1) (C := RX13) (T := TX13) (N := 37) (As := [.int z42224]) (rest := []) X hT (km93_X13_good l G tag L F hT.2.2.2 p0 z42224 m0 g0) m0 g0 rfl rfl qw_687 qw_688 qw_689 qw_5 qw_690 ⟨rfl, by decide +kernel, by decide +kernel, by decide +kernel⟩ ⟨Nat.le_of_ble_eq_true rfl, Nat.le_of_ble_eq_true rfl⟩ hl rfl rfl (Nat.le_of_ble_eq_true rfl) dX13_way_24 ⟨Nat.le_of_ble_eq_true rfl, Nat.le_of_ble_eq_true rfl⟩ (fun z42225 F H locs hT hz42225 => ?_)
    obtain ⟨hz42225, yz42225⟩ := hz42225
    have pf0 := (yz42225.1 _ 3 (Or.inr (by decide)) (Or.inr (by decide))).trans pf0
    have v42214 := (yz42225.1 _ 0 (Or.inr (by decide)) (Or.inr (by decide))).trans v42214
    have hv42222 := (yz42225.1 _ 16 (Or.inr (by decide)) (Or.inr (by decide))).trans hv42222
    have hfr : (∀ b j : Nat, (tag b ≠ 46 ∨ j ≠ 0) → (tag b ≠ 46 ∨ j ≠ 1) → (tag b ≠ 46 ∨ j ≠ 2) → fld F b j = fld Fo b j) ∧ (∀ b j : Nat, elm F b j = elm Fo b j) := ⟨fun b j n46_0 n46_1 n46_2 => (yz42225.1 b j n46_1 n46_2).trans (hfr.1 b j n46_0 n46_1 n46_2), fun b j  => (yz42225.2 b j ).trans (hfr.2 b j )⟩
    refine lv_goto (tgt := 35) hx hb dX13_way_27 (by decide) ?_
    exact t_iret hQ X hT (⟨rg_all _, hfr⟩) (Nat.le_of_ble_eq_true rfl) (Nat.le_of_ble_eq_true rfl) dX13_way_35
