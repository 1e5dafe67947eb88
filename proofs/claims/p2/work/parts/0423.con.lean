set_option maxHeartbeats 4000000 in
set_option maxRecDepth 100000 in
theorem km148_X13_door (l : Launch) (G : KG) (tag : Nat → Nat) (L : List Nat) (Fo : Nat → va_E) (ho : okT G ttC tag L Fo) (p0 : Nat) (p1 : Int32) (m0 : p0 ∈ L) (g0 : tag p0 = 46) (pf0 : fld Fo p0 3 = .null) : TMi l yX13_door cX13_door 2 (some .int) { frames := 5, cells := 0, slots := 0, locals := 125 } G ttC tag L Fo [.ref p0, .int p1] (fun r F1 => ((-2147483648) ≤ r.toInt ∧ r.toInt ≤ 2147483647) ∧ ((∀ b j : Nat, (tag b ≠ 46 ∨ j ≠ 0) → (tag b ≠ 46 ∨ j ≠ 1) → (tag b ≠ 46 ∨ j ≠ 2) → (tag b ≠ 46 ∨ j ≠ 22) → (tag b ≠ 46 ∨ j ≠ 23) → fld F1 b j = fld Fo b j) ∧ (∀ b j : Nat, elm F1 b j = elm Fo b j))) := by
  refine t_bodyi (y := yX13_door) (cd := cX13_door) (mL := 2) (rt := (some .int)) (rm := { frames := 5, cells := 0, slots := 0, locals := 125 }) (av := [.ref p0, .int p1]) (by decide) (Nat.le_of_ble_eq_true rfl) ho ?_
  intro p e s m args below meth c ls A Q hQ X hT hl
  have hx := X.1.1
  have hb := X.1.2.1
  have hl : lv_has ls 2 [(0, .ref p0), (1, .int p1)] := hl
  have rp1 := rg_all p1
  obtain ⟨F, hFo⟩ : ∃ F : Nat → va_E, F = Fo := ⟨_, rfl⟩
  rw [← hFo] at hT pf0
  have hfr : (∀ b j : Nat, (tag b ≠ 46 ∨ j ≠ 0) → (tag b ≠ 46 ∨ j ≠ 1) → (tag b ≠ 46 ∨ j ≠ 2) → (tag b ≠ 46 ∨ j ≠ 22) → (tag b ≠ 46 ∨ j ≠ 23) → fld F b j = fld Fo b j) ∧ (∀ b j : Nat, elm F b j = elm Fo b j) := by
    rw [hFo]
    exact ⟨by intros; rfl, by intros; rfl⟩
  refine lv_aload_n hx hb dX13_door_0 rfl (lv_at hl 0 rfl) ?_
  refine lv_iconst (v := 0) hx hb dX13_door_1 (by decide) ?_
  refine t_put (C := RX13) (T := TX13) (N := 37) (v := .int 0) X hT m0 g0 rfl tyX13 tyX13_ok nmX13 rfl 0 (by decide) qw_140 inlX13 rfl (by first | rfl | decide) (by first | rfl | decide) rfl (⟨_, rfl, (show (-2147483648) ≤ (0 : Int32).toInt from (by decide)), (show (0 : Int32).toInt ≤ 2147483647 from (by decide))⟩) dX13_door_2 (fun F H locs hT v40751 h1v40751 h2v40751 => ?_)
  have pf0 := (h1v40751 _ _ (Or.inr (by decide))).trans pf0
  have hfr : (∀ b j : Nat, (tag b ≠ 46 ∨ j ≠ 0) → (tag b ≠ 46 ∨ j ≠ 1) → (tag b ≠ 46 ∨ j ≠ 2) → (tag b ≠ 46 ∨ j ≠ 22) → (tag b ≠ 46 ∨ j ≠ 23) → fld F b j = fld Fo b j) ∧ (∀ b j : Nat, elm F b j = elm Fo b j) := ⟨fun b j n46_0 n46_1 n46_2 n46_22 n46_23 => (h1v40751 b j (fr_ne g0 n46_0)).trans (hfr.1 b j n46_0 n46_1 n46_2 n46_22 n46_23), fun b j  => (h2v40751 b j).trans (hfr.2 b j )⟩
  refine lv_aload_n hx hb dX13_door_5 rfl (lv_at hl 0 rfl) ?_
  refine lv_iload_n hx hb dX13_door_6 rfl (lv_at hl 1 rfl) ?_
  refine t_cVi (n := 1) (C := RX13) (T := TX13) (N := 37) (As := [.int p1]) (rest := []) X hT (km116_X13_isHouse l G tag L F hT.2.2.2 p0 p1 m0 g0 pf0) m0 g0 rfl rfl qw_796 qw_797 qw_798 qw_5 qw_799 ⟨rfl, by decide +kernel, by decide +kernel, by decide +kernel⟩ ⟨Nat.le_of_ble_eq_true rfl, Nat.le_of_ble_eq_true rfl⟩ hl rfl rfl (Nat.le_of_ble_eq_true rfl) dX13_door_7 ⟨Nat.le_of_ble_eq_true rfl, Nat.le_of_ble_eq_true rfl⟩ (fun z40752 F9 H locs hT hz40752 => ?_)
  obtain ⟨fz40752, hz40752⟩ := hz40752
  rw [fz40752] at hT
  refine lv_if_ne (tgt := 19) hx hb dX13_door_10 (by decide) (fun c40753 => ?_) (fun c40753 => ?_)
  · have w40754 := cv_ne (rfl : z40752.toInt = z40752.toInt) (by decide : (0 : Int32).toInt = 0) c40753
    exfalso
    omega
  · have w40755 := cv_eq (rfl : z40752.toInt = z40752.toInt) (by decide : (0 : Int32).toInt = 0) c40753
    refine lv_aload_n hx hb dX13_door_13 rfl (lv_at hl 0 rfl) ?_
    refine lv_iconst (v := 1) hx hb dX13_door_14 (by decide) ?_
    refine t_cVi (n := 1) (C := RX13) (T := TX13) (N := 37) (As := [.int 1]) (rest := []) X hT (km88_X13_refused l G tag L F hT.2.2.2 p0 1 m0 g0) m0 g0 rfl rfl qw_484 qw_485 qw_486 qw_5 qw_487 ⟨rfl, by decide +kernel, by decide +kernel, by decide +kernel⟩ ⟨Nat.le_of_ble_eq_true rfl, Nat.le_of_ble_eq_true rfl⟩ hl rfl rfl (Nat.le_of_ble_eq_true rfl) dX13_door_15 ⟨Nat.le_of_ble_eq_true rfl, Nat.le_of_ble_eq_true rfl⟩ (fun z40756 F H locs hT hz40756 => ?_)
    obtain ⟨hz40756, yz40756⟩ := hz40756
    have pf0 := (yz40756.1 _ 3 (Or.inr (by decide)) (Or.inr (by decide))).trans pf0
    have v40751 := (yz40756.1 _ 0 (Or.inr (by decide)) (Or.inr (by decide))).trans v40751
    have hfr : (∀ b j : Nat, (tag b ≠ 46 ∨ j ≠ 0) → (tag b ≠ 46 ∨ j ≠ 1) → (tag b ≠ 46 ∨ j ≠ 2) → (tag b ≠ 46 ∨ j ≠ 22) → (tag b ≠ 46 ∨ j ≠ 23) → fld F b j = fld Fo b j) ∧ (∀ b j : Nat, elm F b j = elm Fo b j) := ⟨fun b j n46_0 n46_1 n46_2 n46_22 n46_23 => (yz40756.1 b j n46_1 n46_2).trans (hfr.1 b j n46_0 n46_1 n46_2 n46_22 n46_23), fun b j  => (yz40756.2 b j ).trans (hfr.2 b j )⟩
    exact t_iret hQ X hT (⟨rg_all _, hfr⟩) (Nat.le_of_ble_eq_true rfl) (Nat.le_of_ble_eq_true rfl) dX13_door_18
theorem kp_X13_door (l : Launch) (G : KG) (tag : Nat → Nat) (L : List Nat) (Fo : Nat → va_E) (ho : okT G ttC tag L Fo) (p0 : Nat) (p1 : Int32) (m0 : p0 ∈ L) (g0 : tag p0 = 46) : TMi l yX13_door cX13_door 2 (some .int) { frames := 5, cells := 0, slots := 0, locals := 125 } G ttC tag L Fo [.ref p0, .int p1] (fun r F1 => ((-2147483648) ≤ r.toInt ∧ r.toInt ≤ 2147483647) ∧ ((∀ b j : Nat, (tag b ≠ 46 ∨ j ≠ 0) → (tag b ≠ 46 ∨ j ≠ 1) → (tag b ≠ 46 ∨ j ≠ 2) → (tag b ≠ 46 ∨ j ≠ 22) → (tag b ≠ 46 ∨ j ≠ 23) → fld F1 b j = fld Fo b j) ∧ (∀ b j : Nat, elm F1 b j = elm Fo b j))) := by
  rcases t_fldn ho m0 g0 rfl 3 rfl with h9 | ⟨b9, h9, m9, t9⟩
  · exact km148_X13_door l G tag L Fo ho p0 p1  m0 g0 h9 
  · exact km147_X13_door l G tag L Fo ho p0 p1 b9  m0 g0 m9 (tg_of t9) h9 
set_option maxHeartbeats 4000000 in
set_option maxRecDepth 100000 in
theorem km150_X13_isStone (l : Launch) (G : KG) (tag : Nat → Nat) (L : List Nat) (F : Nat → va_E) (ho : okT G ttC tag L F) (p0 : Nat) (p1 : Int32) (x0 : Nat) (m0 : p0 ∈ L) (g0 : tag p0 = 46) (mx0 : x0 ∈ L) (gx0 : tag x0 = 45) (pf0 : fld F p0 3 = .ref x0) : TMi l yX13_isStone cX13_isStone 2 (some .boolean) { frames := 0, cells := 0, slots := 0, locals := 0 } G ttC tag L F [.ref p0, .int p1] (fun r F1 => F1 = F ∧ ((0 ≤ r.toInt ∧ r.toInt ≤ 1) ∧ (r.toInt ≠ 0 → (0 ≤ p1.toInt ∧ p1.toInt ≤ 3)))) := by
  refine t_bodyi (y := yX13_isStone) (cd := cX13_isStone) (mL := 2) (rt := (some .boolean)) (rm := { frames := 0, cells := 0, slots := 0, locals := 0 }) (av := [.ref p0, .int p1]) (by decide) (Nat.le_of_ble_eq_true rfl) ho ?_
  intro p e s m args below meth c ls A Q hQ X hT hl
  have hx := X.1.1
  have hb := X.1.2.1
  have hl : lv_has ls 2 [(0, .ref p0), (1, .int p1)] := hl
  have rp1 := rg_all p1
  refine lv_aload_n hx hb dX13_isStone_0 rfl (lv_at hl 0 rfl) ?_
  refine t_get (C := RX13) (T := TX13) (N := 37) X hT m0 g0 rfl rfl 3 (by decide) qw_481 inlX13 rfl dX13_isStone_1 (fun v40874 hv40874 ov40874 => ?_)
  obtain rfl : v40874 = .ref x0 := hv40874.symm.trans pf0
  refine lv_ifnull hx hb dX13_isStone_4 ?_
  refine lv_iload_n hx hb dX13_isStone_7 rfl (lv_at hl 1 rfl) ?_
  refine lv_if_lt (tgt := 26) hx hb dX13_isStone_8 (by decide) (fun c40875 => ?_) (fun c40875 => ?_)
  · have w40876 := cv_lt (rfl : p1.toInt = p1.toInt) (by decide : (0 : Int32).toInt = 0) c40875
    refine lv_iconst (v := 0) hx hb dX13_isStone_26 (by decide) ?_
    have k40877 : (0 : Int32).toInt = 0 := by decide
    exact t_zret hQ X hT (by decide) (⟨rfl, ⟨(by decide), fun h => absurd (by decide) h⟩⟩) (Nat.le_of_ble_eq_true rfl) (Nat.le_of_ble_eq_true rfl) dX13_isStone_27
  · have w40878 := cv_nlt (rfl : p1.toInt = p1.toInt) (by decide : (0 : Int32).toInt = 0) c40875
    refine lv_iload_n hx hb dX13_isStone_11 rfl (lv_at hl 1 rfl) ?_
    refine lv_aload_n hx hb dX13_isStone_12 rfl (lv_at hl 0 rfl) ?_
    refine t_get (C := RX13) (T := TX13) (N := 37) X hT m0 g0 rfl rfl 3 (by decide) qw_481 inlX13 rfl dX13_isStone_13 (fun v40879 hv40879 ov40879 => ?_)
    obtain rfl : v40879 = .ref x0 := hv40879.symm.trans pf0
    refine t_getN (C := RX12) (T := TX12) (N := 31) X hT mx0 gx0 rfl rfl 7 (by decide) (List.mem_of_getElem? (i := 11) rfl) inlX12 rfl dX13_isStone_16 (fun v40880 hv40880 ov40880 => ?_)
    obtain ⟨z40881, rfl, rz40881⟩ := okV_i ov40880
    refine lv_icmp_ge (tgt := 26) hx hb dX13_isStone_19 (by decide) (fun c40882 => ?_) (fun c40882 => ?_)
    · have w40883 := cv_le (rfl : z40881.toInt = z40881.toInt) (rfl : p1.toInt = p1.toInt) c40882
      refine lv_iconst (v := 0) hx hb dX13_isStone_26 (by decide) ?_
      have k40884 : (0 : Int32).toInt = 0 := by decide
      exact t_zret hQ X hT (by decide) (⟨rfl, ⟨(by decide), fun h => absurd (by decide) h⟩⟩) (Nat.le_of_ble_eq_true rfl) (Nat.le_of_ble_eq_true rfl) dX13_isStone_27
    · have w40885 := cv_nle (rfl : z40881.toInt = z40881.toInt) (rfl : p1.toInt = p1.toInt) c40882
      refine lv_iconst (v := 1) hx hb dX13_isStone_22 (by decide) ?_
      refine lv_goto (tgt := 27) hx hb dX13_isStone_23 (by decide) ?_
      have k40886 : (1 : Int32).toInt = 1 := by decide
      exact t_zret hQ X hT (by decide) (⟨rfl, ⟨(by decide), fun _ => by omega⟩⟩) (Nat.le_of_ble_eq_true rfl) (Nat.le_of_ble_eq_true rfl) dX13_isStone_27
set_option maxHeartbeats 4000000 in
set_option maxRecDepth 100000 in
theorem km151_X13_costOf (l : Launch) (G : KG) (tag : Nat → Nat) (L : List Nat) (F : Nat → va_E) (ho : okT G ttC tag L F) (p0 : Nat) (p1 : Nat) (p2 : Int32) (p3 : Int32) (x0 : Nat) (m0 : p0 ∈ L) (g0 : tag p0 = 46) (m1 : p1 ∈ L) (g1 : tag p1 = 37) (h2 : 0 ≤ p2.toInt ∧ p2.toInt ≤ 3) (h3 : 0 ≤ p3.toInt ∧ p3.toInt ≤ 3) (mx0 : x0 ∈ L) (gx0 : tag x0 = 45) (pf0 : fld F p0 3 = .ref x0) : TMi l yX13_costOf cX13_costOf 4 (some .int) { frames := 0, cells := 0, slots := 0, locals := 0 } G ttC tag L F [.ref p0, .ref p1, .int p2, .int p3] (fun r F1 => F1 = F ∧ ((-2147483648) ≤ r.toInt ∧ r.toInt ≤ 2147483647)) := by
  refine t_bodyi (y := yX13_costOf) (cd := cX13_costOf) (mL := 4) (rt := (some .int)) (rm := { frames := 0, cells := 0, slots := 0, locals := 0 }) (av := [.ref p0, .ref p1, .int p2, .int p3]) (by decide) (Nat.le_of_ble_eq_true rfl) ho ?_
  intro p e s m args below meth c ls A Q hQ X hT hl
  have hx := X.1.1
  have hb := X.1.2.1
  have hl : lv_has ls 4 [(0, .ref p0), (1, .ref p1), (2, .int p2), (3, .int p3)] := hl
  refine lv_aload_n hx hb dX13_costOf_0 rfl (lv_at hl 0 rfl) ?_
  refine t_get (C := RX13) (T := TX13) (N := 37) X hT m0 g0 rfl rfl 3 (by decide) qw_481 inlX13 rfl dX13_costOf_1 (fun v40997 hv40997 ov40997 => ?_)
  obtain rfl : v40997 = .ref x0 := hv40997.symm.trans pf0
  refine t_getN (C := RX12) (T := TX12) (N := 31) X hT mx0 gx0 rfl rfl 17 (by decide) (List.mem_of_getElem? (i := 21) rfl) inlX12 rfl dX13_costOf_4 (fun v40998 hv40998 ov40998 => ?_)
  obtain ⟨b40999, rfl, mb40999, gb40999⟩ := okV_r ov40998
  have gb40999 : tag b40999 = 29 := tg_of gb40999
  refine lv_iload_n hx hb dX13_costOf_7 rfl (lv_at hl 3 rfl) ?_
  refine t_ild X hT mb40999 gb40999 rfl (by omega) dX13_costOf_8 (fun z41000 vz41000 rz41000 => ?_)
  have rz41000 : (-2147483648) ≤ z41000.toInt ∧ z41000.toInt ≤ 2147483647 := rz41000
  refine lv_bipush (v := 8) hx hb dX13_costOf_9 (by decide) ?_
  refine lv_imul hx hb dX13_costOf_11 ?_
  refine lv_topi (fun z41001 ez41001 => ?_)
  have rz41001 := rg_all z41001
  refine lv_aload_n hx hb dX13_costOf_12 rfl (lv_at hl 1 rfl) ?_
  refine lv_iconst (v := 0) hx hb dX13_costOf_13 (by decide) ?_
  refine lv_iload_n hx hb dX13_costOf_14 rfl (lv_at hl 2 rfl) ?_
  refine lv_iadd hx hb dX13_costOf_15 ?_
  refine lv_topi (fun z41002 ez41002 => ?_)
  obtain rfl : p2 = z41002 := (ar_zadd ez41002).symm
  refine t_ild X hT m1 g1 rfl (by omega) dX13_costOf_16 (fun z41003 vz41003 rz41003 => ?_)
  have rz41003 := row_ml (by omega) rz41003
  refine lv_iconst (v := 1) hx hb dX13_costOf_17 (by decide) ?_
  refine lv_iadd hx hb dX13_costOf_18 ?_
  refine lv_topi (fun z41004 ez41004 => ?_)
  have hz41004 : z41004.toInt = z41003.toInt + 1 := ar_add ez41004 (rfl : z41003.toInt = z41003.toInt) (by decide : (1 : Int32).toInt = 1) (by omega) (by omega)
  have rz41004 : 1 ≤ z41004.toInt ∧ z41004.toInt ≤ 7 := by omega
  refine lv_imul hx hb dX13_costOf_19 ?_
  refine lv_topi (fun z41005 ez41005 => ?_)
  have rz41005 := rg_all z41005
  exact t_iret hQ X hT (⟨rfl, rg_all _⟩) (Nat.le_of_ble_eq_true rfl) (Nat.le_of_ble_eq_true rfl) dX13_costOf_20
set_option maxHeartbeats 4000000 in
set_option maxRecDepth 100000 in
theorem km152_X13_costs (l : Launch) (G : KG) (tag : Nat → Nat) (L : List Nat) (Fo : Nat → va_E) (ho : okT G ttC tag L Fo) (p0 : Nat) (p1 : Int32) (p2 : Int32) (x0 : Nat) (m0 : p0 ∈ L) (g0 : tag p0 = 46) (mx0 : x0 ∈ L) (gx0 : tag x0 = 45) (pf0 : fld Fo p0 3 = .ref x0) : TMi l yX13_costs cX13_costs 3 (some .int) { frames := 1, cells := 0, slots := 0, locals := 23 } G ttC tag L Fo [.ref p0, .int p1, .int p2] (fun r F1 => ((-2147483648) ≤ r.toInt ∧ r.toInt ≤ 2147483647) ∧ ((∀ b j : Nat, (tag b ≠ 46 ∨ j ≠ 0) → (tag b ≠ 46 ∨ j ≠ 1) → (tag b ≠ 46 ∨ j ≠ 2) → fld F1 b j = fld Fo b j) ∧ (∀ b j : Nat, elm F1 b j = elm Fo b j))) := by
  refine t_bodyi (y := yX13_costs) (cd := cX13_costs) (mL := 3) (rt := (some .int)) (rm := { frames := 1, cells := 0, slots := 0, locals := 23 }) (av := [.ref p0, .int p1, .int p2]) (by decide) (Nat.le_of_ble_eq_true rfl) ho ?_
  intro p e s m args below meth c ls A Q hQ X hT hl
  have hx := X.1.1
  have hb := X.1.2.1
  have hl : lv_has ls 3 [(0, .ref p0), (1, .int p1), (2, .int p2)] := hl
  have rp1 := rg_all p1
  have rp2 := rg_all p2
  obtain ⟨F, hFo⟩ : ∃ F : Nat → va_E, F = Fo := ⟨_, rfl⟩
  rw [← hFo] at hT pf0
  have hfr : (∀ b j : Nat, (tag b ≠ 46 ∨ j ≠ 0) → (tag b ≠ 46 ∨ j ≠ 1) → (tag b ≠ 46 ∨ j ≠ 2) → fld F b j = fld Fo b j) ∧ (∀ b j : Nat, elm F b j = elm Fo b j) := by
    rw [hFo]
    exact ⟨by intros; rfl, by intros; rfl⟩
  refine lv_aload_n hx hb dX13_costs_0 rfl (lv_at hl 0 rfl) ?_
  refine lv_iconst (v := 0) hx hb dX13_costs_1 (by decide) ?_
  refine t_put (C := RX13) (T := TX13) (N := 37) (v := .int 0) X hT m0 g0 rfl tyX13 tyX13_ok nmX13 rfl 0 (by decide) qw_140 inlX13 rfl (by first | rfl | decide) (by first | rfl | decide) rfl (⟨_, rfl, (show (-2147483648) ≤ (0 : Int32).toInt from (by decide)), (show (0 : Int32).toInt ≤ 2147483647 from (by decide))⟩) dX13_costs_2 (fun F H locs hT v41252 h1v41252 h2v41252 => ?_)
  have pf0 := (h1v41252 _ _ (Or.inr (by decide))).trans pf0
  have hfr : (∀ b j : Nat, (tag b ≠ 46 ∨ j ≠ 0) → (tag b ≠ 46 ∨ j ≠ 1) → (tag b ≠ 46 ∨ j ≠ 2) → fld F b j = fld Fo b j) ∧ (∀ b j : Nat, elm F b j = elm Fo b j) := ⟨fun b j n46_0 n46_1 n46_2 => (h1v41252 b j (fr_ne g0 n46_0)).trans (hfr.1 b j n46_0 n46_1 n46_2), fun b j  => (h2v41252 b j).trans (hfr.2 b j )⟩
  refine lv_aload_n hx hb dX13_costs_5 rfl (lv_at hl 0 rfl) ?_
  refine lv_iload_n hx hb dX13_costs_6 rfl (lv_at hl 1 rfl) ?_
  refine t_cVi (n := 1) (C := RX13) (T := TX13) (N := 37) (As := [.int p1]) (rest := []) X hT (km107_X13_isHouse l G tag L F hT.2.2.2 p0 p1 x0 m0 g0 mx0 gx0 pf0) m0 g0 rfl rfl qw_796 qw_797 qw_798 qw_5 qw_799 ⟨rfl, by decide +kernel, by decide +kernel, by decide +kernel⟩ ⟨Nat.le_of_ble_eq_true rfl, Nat.le_of_ble_eq_true rfl⟩ hl rfl rfl (Nat.le_of_ble_eq_true rfl) dX13_costs_7 ⟨Nat.le_of_ble_eq_true rfl, Nat.le_of_ble_eq_true rfl⟩ (fun z41253 F9 H locs hT hz41253 => ?_)
  obtain ⟨fz41253, hz41253⟩ := hz41253
  rw [fz41253] at hT
  obtain ⟨hz41253, iz41253⟩ := hz41253
  refine lv_if_eq (tgt := 21) hx hb dX13_costs_10 (by decide) (fun c41254 => ?_) (fun c41254 => ?_)
  · have w41255 := cv_eq (rfl : z41253.toInt = z41253.toInt) (by decide : (0 : Int32).toInt = 0) c41254
    refine lv_aload_n hx hb dX13_costs_21 rfl (lv_at hl 0 rfl) ?_
    refine lv_iconst (v := 1) hx hb dX13_costs_22 (by decide) ?_
    refine t_cVi (n := 1) (C := RX13) (T := TX13) (N := 37) (As := [.int 1]) (rest := []) X hT (km88_X13_refused l G tag L F hT.2.2.2 p0 1 m0 g0) m0 g0 rfl rfl qw_484 qw_485 qw_486 qw_5 qw_487 ⟨rfl, by decide +kernel, by decide +kernel, by decide +kernel⟩ ⟨Nat.le_of_ble_eq_true rfl, Nat.le_of_ble_eq_true rfl⟩ hl rfl rfl (Nat.le_of_ble_eq_true rfl) dX13_costs_23 ⟨Nat.le_of_ble_eq_true rfl, Nat.le_of_ble_eq_true rfl⟩ (fun z41256 F H locs hT hz41256 => ?_)
    obtain ⟨hz41256, yz41256⟩ := hz41256
    have pf0 := (yz41256.1 _ 3 (Or.inr (by decide)) (Or.inr (by decide))).trans pf0
    have v41252 := (yz41256.1 _ 0 (Or.inr (by decide)) (Or.inr (by decide))).trans v41252
    have hfr : (∀ b j : Nat, (tag b ≠ 46 ∨ j ≠ 0) → (tag b ≠ 46 ∨ j ≠ 1) → (tag b ≠ 46 ∨ j ≠ 2) → fld F b j = fld Fo b j) ∧ (∀ b j : Nat, elm F b j = elm Fo b j) := ⟨fun b j n46_0 n46_1 n46_2 => (yz41256.1 b j n46_1 n46_2).trans (hfr.1 b j n46_0 n46_1 n46_2), fun b j  => (yz41256.2 b j ).trans (hfr.2 b j )⟩
    exact t_iret hQ X hT (⟨rg_all _, hfr⟩) (Nat.le_of_ble_eq_true rfl) (Nat.le_of_ble_eq_true rfl) dX13_costs_26
  · have w41257 := cv_ne (rfl : z41253.toInt = z41253.toInt) (by decide : (0 : Int32).toInt = 0) c41254
    have w41258 := (fun h => (iz41253 h)) (by omega)
    refine lv_aload_n hx hb dX13_costs_13 rfl (lv_at hl 0 rfl) ?_
    refine lv_iload_n hx hb dX13_costs_14 rfl (lv_at hl 2 rfl) ?_
    refine t_cVi (n := 1) (C := RX13) (T := TX13) (N := 37) (As := [.int p2]) (rest := []) X hT (km150_X13_isStone l G tag L F hT.2.2.2 p0 p2 x0 m0 g0 mx0 gx0 pf0) m0 g0 rfl rfl qw_967 qw_968 qw_969 qw_5 qw_970 ⟨rfl, by decide +kernel, by decide +kernel, by decide +kernel⟩ ⟨Nat.le_of_ble_eq_true rfl, Nat.le_of_ble_eq_true rfl⟩ hl rfl rfl (Nat.le_of_ble_eq_true rfl) dX13_costs_15 ⟨Nat.le_of_ble_eq_true rfl, Nat.le_of_ble_eq_true rfl⟩ (fun z41259 F9 H locs hT hz41259 => ?_)
    obtain ⟨fz41259, hz41259⟩ := hz41259
    rw [fz41259] at hT
    obtain ⟨hz41259, iz41259⟩ := hz41259
    refine lv_if_ne (tgt := 27) hx hb dX13_costs_18 (by decide) (fun c41260 => ?_) (fun c41260 => ?_)
    · have w41261 := cv_ne (rfl : z41259.toInt = z41259.toInt) (by decide : (0 : Int32).toInt = 0) c41260
      have w41262 := (fun h => (iz41259 h)) (by omega)
      refine lv_aload_n hx hb dX13_costs_27 rfl (lv_at hl 0 rfl) ?_
      refine t_get (C := RX13) (T := TX13) (N := 37) X hT m0 g0 rfl rfl 16 (by decide) qw_112 inlX13 rfl dX13_costs_28 (fun v41263 hv41263 ov41263 => ?_)
      obtain ⟨b41264, rfl, mb41264, gb41264⟩ := okV_r ov41263
      have gb41264 : tag b41264 = 37 := tg_of gb41264
      refine lv_iconst (v := 0) hx hb dX13_costs_31 (by decide) ?_
      refine lv_iload_n hx hb dX13_costs_32 rfl (lv_at hl 1 rfl) ?_
      refine lv_iadd hx hb dX13_costs_33 ?_
      refine lv_topi (fun z41265 ez41265 => ?_)
      obtain rfl : p1 = z41265 := (ar_zadd ez41265).symm
      refine t_ild X hT mb41264 gb41264 rfl (by omega) dX13_costs_34 (fun z41266 vz41266 rz41266 => ?_)
      have rz41266 := row_ml (by omega) rz41266
      refine lv_bipush (v := 6) hx hb dX13_costs_35 (by decide) ?_
      refine lv_icmp_ne (tgt := 48) hx hb dX13_costs_37 (by decide) (fun c41267 => ?_) (fun c41267 => ?_)
      · have w41268 := cv_ne (rfl : z41266.toInt = z41266.toInt) (by decide : (6 : Int32).toInt = 6) c41267
        refine lv_aload_n hx hb dX13_costs_48 rfl (lv_at hl 0 rfl) ?_
        refine lv_aload_n hx hb dX13_costs_49 rfl (lv_at hl 0 rfl) ?_
        refine lv_aload_n hx hb dX13_costs_50 rfl (lv_at hl 0 rfl) ?_
        refine t_get (C := RX13) (T := TX13) (N := 37) X hT m0 g0 rfl rfl 16 (by decide) qw_112 inlX13 rfl dX13_costs_51 (fun v41269 hv41269 ov41269 => ?_)
        obtain rfl : v41269 = .ref b41264 := hv41269.symm.trans hv41263
        refine lv_iload_n hx hb dX13_costs_54 rfl (lv_at hl 1 rfl) ?_
        refine lv_iload_n hx hb dX13_costs_55 rfl (lv_at hl 2 rfl) ?_
        refine t_cVi (n := 3) (C := RX13) (T := TX13) (N := 37) (As := [.ref b41264, .int p1, .int p2]) (rest := [.ref p0]) X hT (km151_X13_costOf l G tag L F hT.2.2.2 p0 b41264 p1 p2 x0 m0 g0 mb41264 gb41264 (by omega) (by omega) mx0 gx0 pf0) m0 g0 rfl rfl qw_971 qw_972 qw_973 qw_5 qw_974 ⟨rfl, by decide +kernel, by decide +kernel, by decide +kernel⟩ ⟨Nat.le_of_ble_eq_true rfl, Nat.le_of_ble_eq_true rfl⟩ hl rfl rfl (Nat.le_of_ble_eq_true rfl) dX13_costs_56 ⟨Nat.le_of_ble_eq_true rfl, Nat.le_of_ble_eq_true rfl⟩ (fun z41270 F9 H locs hT hz41270 => ?_)
        obtain ⟨fz41270, hz41270⟩ := hz41270
        rw [fz41270] at hT
        refine t_cVi (n := 1) (C := RX13) (T := TX13) (N := 37) (As := [.int z41270]) (rest := []) X hT (km93_X13_good l G tag L F hT.2.2.2 p0 z41270 m0 g0) m0 g0 rfl rfl qw_687 qw_688 qw_689 qw_5 qw_690 ⟨rfl, by decide +kernel, by decide +kernel, by decide +kernel⟩ ⟨Nat.le_of_ble_eq_true rfl, Nat.le_of_ble_eq_true rfl⟩ hl rfl rfl (Nat.le_of_ble_eq_true rfl) dX13_costs_59 ⟨Nat.le_of_ble_eq_true rfl, Nat.le_of_ble_eq_true rfl⟩ (fun z41271 F H locs hT hz41271 => ?_)
        obtain ⟨hz41271, yz41271⟩ := hz41271
        have pf0 := (yz41271.1 _ 3 (Or.inr (by decide)) (Or.inr (by decide))).trans pf0
        have v41252 := (yz41271.1 _ 0 (Or.inr (by decide)) (Or.inr (by decide))).trans v41252
        have hv41263 := (yz41271.1 _ 16 (Or.inr (by decide)) (Or.inr (by decide))).trans hv41263
        have vz41266 := (yz41271.2 _ _ ).trans vz41266
        have hfr : (∀ b j : Nat, (tag b ≠ 46 ∨ j ≠ 0) → (tag b ≠ 46 ∨ j ≠ 1) → (tag b ≠ 46 ∨ j ≠ 2) → fld F b j = fld Fo b j) ∧ (∀ b j : Nat, elm F b j = elm Fo b j) := ⟨fun b j n46_0 n46_1 n46_2 => (yz41271.1 b j n46_1 n46_2).trans (hfr.1 b j n46_0 n46_1 n46_2), fun b j  => (yz41271.2 b j ).trans (hfr.2 b j )⟩
        exact t_iret hQ X hT (⟨rg_all _, hfr⟩) (Nat.le_of_ble_eq_true rfl) (Nat.le_of_ble_eq_true rfl) dX13_costs_62
      · have w41272 := cv_eq (rfl : z41266.toInt = z41266.toInt) (by decide : (6 : Int32).toInt = 6) c41267
        refine lv_aload_n hx hb dX13_costs_40 rfl (lv_at hl 0 rfl) ?_
        refine lv_iconst (v := 3) hx hb dX13_costs_41 (by decide) ?_
        refine t_cVi (n := 1) (C := RX13) (T := TX13) (N := 37) (As := [.int 3]) (rest := []) X hT (km88_X13_refused l G tag L F hT.2.2.2 p0 3 m0 g0) m0 g0 rfl rfl qw_484 qw_485 qw_486 qw_5 qw_487 ⟨rfl, by decide +kernel, by decide +kernel, by decide +kernel⟩ ⟨Nat.le_of_ble_eq_true rfl, Nat.le_of_ble_eq_true rfl⟩ hl rfl rfl (Nat.le_of_ble_eq_true rfl) dX13_costs_42 ⟨Nat.le_of_ble_eq_true rfl, Nat.le_of_ble_eq_true rfl⟩ (fun z41273 F H locs hT hz41273 => ?_)
        obtain ⟨hz41273, yz41273⟩ := hz41273
        have pf0 := (yz41273.1 _ 3 (Or.inr (by decide)) (Or.inr (by decide))).trans pf0
        have v41252 := (yz41273.1 _ 0 (Or.inr (by decide)) (Or.inr (by decide))).trans v41252
        have hv41263 := (yz41273.1 _ 16 (Or.inr (by decide)) (Or.inr (by decide))).trans hv41263
        have vz41266 := (yz41273.2 _ _ ).trans vz41266
        have hfr : (∀ b j : Nat, (tag b ≠ 46 ∨ j ≠ 0) → (tag b ≠ 46 ∨ j ≠ 1) → (tag b ≠ 46 ∨ j ≠ 2) → fld F b j = fld Fo b j) ∧ (∀ b j : Nat, elm F b j = elm Fo b j) := ⟨fun b j n46_0 n46_1 n46_2 => (yz41273.1 b j n46_1 n46_2).trans (hfr.1 b j n46_0 n46_1 n46_2), fun b j  => (yz41273.2 b j ).trans (hfr.2 b j )⟩
        refine lv_goto (tgt := 62) hx hb dX13_costs_45 (by decide) ?_
        exact t_iret hQ X hT (⟨rg_all _, hfr⟩) (Nat.le_of_ble_eq_true rfl) (Nat.le_of_ble_eq_true rfl) dX13_costs_62
    · have w41274 := cv_eq (rfl : z41259.toInt = z41259.toInt) (by decide : (0 : Int32).toInt = 0) c41260
      refine lv_aload_n hx hb dX13_costs_21 rfl (lv_at hl 0 rfl) ?_
      refine lv_iconst (v := 1) hx hb dX13_costs_22 (by decide) ?_
      refine t_cVi (n := 1) (C := RX13) (T := TX13) (N := 37) (As := [.int 1]) (rest := []) X hT (km88_X13_refused l G tag L F hT.2.2.2 p0 1 m0 g0) m0 g0 rfl rfl qw_484 qw_485 qw_486 qw_5 qw_487 ⟨rfl, by decide +kernel, by decide +kernel, by decide +kernel⟩ ⟨Nat.le_of_ble_eq_true rfl, Nat.le_of_ble_eq_true rfl⟩ hl rfl rfl (Nat.le_of_ble_eq_true rfl) dX13_costs_23 ⟨Nat.le_of_ble_eq_true rfl, Nat.le_of_ble_eq_true rfl⟩ (fun z41275 F H locs hT hz41275 => ?_)
      obtain ⟨hz41275, yz41275⟩ := hz41275
      have pf0 := (yz41275.1 _ 3 (Or.inr (by decide)) (Or.inr (by decide))).trans pf0
      have v41252 := (yz41275.1 _ 0 (Or.inr (by decide)) (Or.inr (by decide))).trans v41252
      have hfr : (∀ b j : Nat, (tag b ≠ 46 ∨ j ≠ 0) → (tag b ≠ 46 ∨ j ≠ 1) → (tag b ≠ 46 ∨ j ≠ 2) → fld F b j = fld Fo b j) ∧ (∀ b j : Nat, elm F b j = elm Fo b j) := ⟨fun b j n46_0 n46_1 n46_2 => (yz41275.1 b j n46_1 n46_2).trans (hfr.1 b j n46_0 n46_1 n46_2), fun b j  => (yz41275.2 b j ).trans (hfr.2 b j )⟩
      exact t_iret hQ X hT (⟨rg_all _, hfr⟩) (Nat.le_of_ble_eq_true rfl) (Nat.le_of_ble_eq_true rfl) dX13_costs_26
set_option maxHeartbeats 4000000 in
set_option maxRecDepth 100000 in
theorem km153_X13_costs (l : Launch) (G : KG) (tag : Nat → Nat) (L : List Nat) (Fo : Nat → va_E) (ho : okT G ttC tag L Fo) (p0 : Nat) (p1 : Int32) (p2 : Int32) (m0 : p0 ∈ L) (g0 : tag p0 = 46) (pf0 : fld Fo p0 3 = .null) : TMi l yX13_costs cX13_costs 3 (some .int) { frames := 1, cells := 0, slots := 0, locals := 23 } G ttC tag L Fo [.ref p0, .int p1, .int p2] (fun r F1 => ((-2147483648) ≤ r.toInt ∧ r.toInt ≤ 2147483647) ∧ ((∀ b j : Nat, (tag b ≠ 46 ∨ j ≠ 0) → (tag b ≠ 46 ∨ j ≠ 1) → (tag b ≠ 46 ∨ j ≠ 2) → fld F1 b j = fld Fo b j) ∧ (∀ b j : Nat, elm F1 b j = elm Fo b j))) := by
  refine t_bodyi (y := yX13_costs) (cd := cX13_costs) (mL := 3) (rt := (some .int)) (rm := { frames := 1, cells := 0, slots := 0, locals := 23 }) (av := [.ref p0, .int p1, .int p2]) (by decide) (Nat.le_of_ble_eq_true rfl) ho ?_
  intro p e s m args below meth c ls A Q hQ X hT hl
  have hx := X.1.1
  have hb := X.1.2.1
  have hl : lv_has ls 3 [(0, .ref p0), (1, .int p1), (2, .int p2)] := hl
  have rp1 := rg_all p1
  have rp2 := rg_all p2
  obtain ⟨F, hFo⟩ : ∃ F : Nat → va_E, F = Fo := ⟨_, rfl⟩
  rw [← hFo] at hT pf0
  have hfr : (∀ b j : Nat, (tag b ≠ 46 ∨ j ≠ 0) → (tag b ≠ 46 ∨ j ≠ 1) → (tag b ≠ 46 ∨ j ≠ 2) → fld F b j = fld Fo b j) ∧ (∀ b j : Nat, elm F b j = elm Fo b j) := by
    rw [hFo]
    exact ⟨by intros; rfl, by intros; rfl⟩
  refine lv_aload_n hx hb dX13_costs_0 rfl (lv_at hl 0 rfl) ?_
  refine lv_iconst (v := 0) hx hb dX13_costs_1 (by decide) ?_
  refine t_put (C := RX13) (T := TX13) (N := 37) (v := .int 0) X hT m0 g0 rfl tyX13 tyX13_ok nmX13 rfl 0 (by decide) qw_140 inlX13 rfl (by first | rfl | decide) (by first | rfl | decide) rfl (⟨_, rfl, (show (-2147483648) ≤ (0 : Int32).toInt from (by decide)), (show (0 : Int32).toInt ≤ 2147483647 from (by decide))⟩) dX13_costs_2 (fun F H locs hT v41342 h1v41342 h2v41342 => ?_)
  have pf0 := (h1v41342 _ _ (Or.inr (by decide))).trans pf0
  have hfr : (∀ b j : Nat, (tag b ≠ 46 ∨ j ≠ 0) → (tag b ≠ 46 ∨ j ≠ 1) → (tag b ≠ 46 ∨ j ≠ 2) → fld F b j = fld Fo b j) ∧ (∀ b j : Nat, elm F b j = elm Fo b j) := ⟨fun b j n46_0 n46_1 n46_2 => (h1v41342 b j (fr_ne g0 n46_0)).trans (hfr.1 b j n46_0 n46_1 n46_2), fun b j  => (h2v41342 b j).trans (hfr.2 b j )⟩
  refine lv_aload_n hx hb dX13_costs_5 rfl (lv_at hl 0 rfl) ?_
  refine lv_iload_n hx hb dX13_costs_6 rfl (lv_at hl 1 rfl) ?_
  refine t_cVi (n := 1) (C := RX13) (T := TX13) (N := 37) (As := [.int p1]) (rest := []) X hT (km116_X13_isHouse l G tag L F hT.2.2.2 p0 p1 m0 g0 pf0) m0 g0 rfl rfl qw_796 qw_797 qw_798 qw_5 qw_799 ⟨rfl, by decide +kernel, by decide +kernel, by decide +kernel⟩ ⟨Nat.le_of_ble_eq_true rfl, Nat.le_of_ble_eq_true rfl⟩ hl rfl rfl (Nat.le_of_ble_eq_true rfl) dX13_costs_7 ⟨Nat.le_of_ble_eq_true rfl, Nat.le_of_ble_eq_true rfl⟩ (fun z41343 F9 H locs hT hz41343 => ?_)
  obtain ⟨fz41343, hz41343⟩ := hz41343
  rw [fz41343] at hT
  refine lv_if_eq (tgt := 21) hx hb dX13_costs_10 (by decide) (fun c41344 => ?_) (fun c41344 => ?_)
  · have w41345 := cv_eq (rfl : z41343.toInt = z41343.toInt) (by decide : (0 : Int32).toInt = 0) c41344
    refine lv_aload_n hx hb dX13_costs_21 rfl (lv_at hl 0 rfl) ?_
    refine lv_iconst (v := 1) hx hb dX13_costs_22 (by decide) ?_
    refine t_cVi (n := 1) (C := RX13) (T := TX13) (N := 37) (As := [.int 1]) (rest := []) X hT (km88_X13_refused l G tag L F hT.2.2.2 p0 1 m0 g0) m0 g0 rfl rfl qw_484 qw_485 qw_486 qw_5 qw_487 ⟨rfl, by decide +kernel, by decide +kernel, by decide +kernel⟩ ⟨Nat.le_of_ble_eq_true rfl, Nat.le_of_ble_eq_true rfl⟩ hl rfl rfl (Nat.le_of_ble_eq_true rfl) dX13_costs_23 ⟨Nat.le_of_ble_eq_true rfl, Nat.le_of_ble_eq_true rfl⟩ (fun z41346 F H locs hT hz41346 => ?_)
    obtain ⟨hz41346, yz41346⟩ := hz41346
    have pf0 := (yz41346.1 _ 3 (Or.inr (by decide)) (Or.inr (by decide))).trans pf0
    have v41342 := (yz41346.1 _ 0 (Or.inr (by decide)) (Or.inr (by decide))).trans v41342
    have hfr : (∀ b j : Nat, (tag b ≠ 46 ∨ j ≠ 0) → (tag b ≠ 46 ∨ j ≠ 1) → (tag b ≠ 46 ∨ j ≠ 2) → fld F b j = fld Fo b j) ∧ (∀ b j : Nat, elm F b j = elm Fo b j) := ⟨fun b j n46_0 n46_1 n46_2 => (yz41346.1 b j n46_1 n46_2).trans (hfr.1 b j n46_0 n46_1 n46_2), fun b j  => (yz41346.2 b j ).trans (hfr.2 b j )⟩
    exact t_iret hQ X hT (⟨rg_all _, hfr⟩) (Nat.le_of_ble_eq_true rfl) (Nat.le_of_ble_eq_true rfl) dX13_costs_26
  · have w41347 := cv_ne (rfl : z41343.toInt = z41343.toInt) (by decide : (0 : Int32).toInt = 0) c41344
    exfalso
    omega
theorem kp_X13_costs (l : Launch) (G : KG) (tag : Nat → Nat) (L : List Nat) (Fo : Nat → va_E) (ho : okT G ttC tag L Fo) (p0 : Nat) (p1 : Int32) (p2 : Int32) (m0 : p0 ∈ L) (g0 : tag p0 = 46) : TMi l yX13_costs cX13_costs 3 (some .int) { frames := 1, cells := 0, slots := 0, locals := 23 } G ttC tag L Fo [.ref p0, .int p1, .int p2] (fun r F1 => ((-2147483648) ≤ r.toInt ∧ r.toInt ≤ 2147483647) ∧ ((∀ b j : Nat, (tag b ≠ 46 ∨ j ≠ 0) → (tag b ≠ 46 ∨ j ≠ 1) → (tag b ≠ 46 ∨ j ≠ 2) → fld F1 b j = fld Fo b j) ∧ (∀ b j : Nat, elm F1 b j = elm Fo b j))) := by
  rcases t_fldn ho m0 g0 rfl 3 rfl with h9 | ⟨b9, h9, m9, t9⟩
  · exact km153_X13_costs l G tag L Fo ho p0 p1 p2  m0 g0 h9 
  · exact km152_X13_costs l G tag L Fo ho p0 p1 p2 b9  m0 g0 m9 (tg_of t9) h9 
set_option maxHeartbeats 4000000 in
set_option maxRecDepth 100000 in
theorem km155_X13_roundIn (l : Launch) (G : KG) (tag : Nat → Nat) (L : List Nat) (F : Nat → va_E) (ho : okT G ttC tag L F) (p0 : Nat) (p1 : Int32) (p2 : Int32) (m0 : p0 ∈ L) (g0 : tag p0 = 37) (h1 : 0 ≤ p1.toInt ∧ p1.toInt ≤ 3) (h2 : 2 ≤ p2.toInt ∧ p2.toInt ≤ 6) : TMi l yX13_roundIn cX13_roundIn 3 (some .int) { frames := 2, cells := 0, slots := 0, locals := 44 } G ttC tag L F [.ref p0, .int p1, .int p2] (fun r F1 => F1 = F ∧ ((-2147483648) ≤ r.toInt ∧ r.toInt ≤ 2147483647)) := by
  refine t_bodyi (y := yX13_roundIn) (cd := cX13_roundIn) (mL := 3) (rt := (some .int)) (rm := { frames := 2, cells := 0, slots := 0, locals := 44 }) (av := [.ref p0, .int p1, .int p2]) (by decide) (Nat.le_of_ble_eq_true rfl) ho ?_
  intro p e s m args below meth c ls A Q hQ X hT hl
  have hx := X.1.1
  have hb := X.1.2.1
  have hl : lv_has ls 3 [(0, .ref p0), (1, .int p1), (2, .int p2)] := hl
  refine lv_iload_n hx hb dX13_roundIn_0 rfl (lv_at hl 2 rfl) ?_
  refine lv_iload_n hx hb dX13_roundIn_1 rfl (lv_at hl 2 rfl) ?_
  refine lv_aload_n hx hb dX13_roundIn_2 rfl (lv_at hl 0 rfl) ?_
  refine lv_iload_n hx hb dX13_roundIn_3 rfl (lv_at hl 1 rfl) ?_
  refine lv_iload_n hx hb dX13_roundIn_4 rfl (lv_at hl 2 rfl) ?_
  refine lv_iconst (v := 1) hx hb dX13_roundIn_5 (by decide) ?_
  refine t_cSi (n := 3) (As := [.int p1, .int p2, .int 1]) (rest := [.ref p0, .int p2, .int p2]) X hT (km49_X13_part l G tag L F hT.2.2.2 p1 p2 1 (by omega) (by omega) (by decide)) qw_661 qw_662 qw_5 qw_663 ⟨by decide +kernel, by decide +kernel, by decide +kernel⟩ ⟨Nat.le_of_ble_eq_true rfl, Nat.le_of_ble_eq_true rfl⟩ hl rfl rfl (Nat.le_of_ble_eq_true rfl) dX13_roundIn_6 ⟨Nat.le_of_ble_eq_true rfl, Nat.le_of_ble_eq_true rfl⟩ (fun z41577 F9 H locs hT hz41577 => ?_)
  obtain ⟨fz41577, hz41577, xz41577_0⟩ := hz41577
  rw [fz41577] at hT
  have k41578 : (1 : Int32).toInt = 1 := by decide
  refine t_ild X hT m0 g0 rfl (by omega) dX13_roundIn_9 (fun z41579 vz41579 rz41579 => ?_)
  have oz41579 := rz41579
  have rz41579 := rg_all z41579
  refine lv_aload_n hx hb dX13_roundIn_10 rfl (lv_at hl 0 rfl) ?_
  refine lv_iload_n hx hb dX13_roundIn_11 rfl (lv_at hl 1 rfl) ?_
  refine lv_iload_n hx hb dX13_roundIn_12 rfl (lv_at hl 2 rfl) ?_
  refine lv_iconst (v := 2) hx hb dX13_roundIn_13 (by decide) ?_
  refine t_cSi (n := 3) (As := [.int p1, .int p2, .int 2]) (rest := [.ref p0, .int z41579, .int p2, .int p2]) X hT (km49_X13_part l G tag L F hT.2.2.2 p1 p2 2 (by omega) (by omega) (by decide)) qw_661 qw_662 qw_5 qw_663 ⟨by decide +kernel, by decide +kernel, by decide +kernel⟩ ⟨Nat.le_of_ble_eq_true rfl, Nat.le_of_ble_eq_true rfl⟩ hl rfl rfl (Nat.le_of_ble_eq_true rfl) dX13_roundIn_14 ⟨Nat.le_of_ble_eq_true rfl, Nat.le_of_ble_eq_true rfl⟩ (fun z41580 F9 H locs hT hz41580 => ?_)
  obtain ⟨fz41580, hz41580, xz41580_0⟩ := hz41580
  rw [fz41580] at hT
  have k41581 : (2 : Int32).toInt = 2 := by decide
  refine t_ild X hT m0 g0 rfl (by omega) dX13_roundIn_17 (fun z41582 vz41582 rz41582 => ?_)
  have oz41582 := rz41582
  have rz41582 := rg_all z41582
  refine t_cSi (n := 3) (As := [.int p2, .int z41579, .int z41582]) (rest := [.int p2]) X hT (km143_X13_doorPlace l G tag L F hT.2.2.2 p2 z41579 z41582 ) qw_938 qw_939 qw_5 qw_940 ⟨by decide +kernel, by decide +kernel, by decide +kernel⟩ ⟨Nat.le_of_ble_eq_true rfl, Nat.le_of_ble_eq_true rfl⟩ hl rfl rfl (Nat.le_of_ble_eq_true rfl) dX13_roundIn_18 ⟨Nat.le_of_ble_eq_true rfl, Nat.le_of_ble_eq_true rfl⟩ (fun z41583 F9 H locs hT hz41583 => ?_)
  obtain ⟨fz41583, hz41583⟩ := hz41583
  rw [fz41583] at hT
  refine lv_iload_n hx hb dX13_roundIn_21 rfl (lv_at hl 2 rfl) ?_
  refine lv_iconst (v := 1) hx hb dX13_roundIn_22 (by decide) ?_
  refine lv_isub hx hb dX13_roundIn_23 ?_
  refine lv_topi (fun z41584 ez41584 => ?_)
  have hz41584 : z41584.toInt = p2.toInt - 1 := ar_sub ez41584 (rfl : p2.toInt = p2.toInt) (by decide : (1 : Int32).toInt = 1) (by omega) (by omega)
  have rz41584 : 1 ≤ z41584.toInt ∧ z41584.toInt ≤ 5 := by omega
  refine lv_aload_n hx hb dX13_roundIn_24 rfl (lv_at hl 0 rfl) ?_
  refine lv_iload_n hx hb dX13_roundIn_25 rfl (lv_at hl 1 rfl) ?_
  refine lv_iload_n hx hb dX13_roundIn_26 rfl (lv_at hl 2 rfl) ?_
  refine lv_iconst (v := 1) hx hb dX13_roundIn_27 (by decide) ?_
  refine lv_isub hx hb dX13_roundIn_28 ?_
  refine lv_topi (fun z41585 ez41585 => ?_)
  have hz41585 : z41585.toInt = p2.toInt - 1 := ar_sub ez41585 (rfl : p2.toInt = p2.toInt) (by decide : (1 : Int32).toInt = 1) (by omega) (by omega)
  have rz41585 : 1 ≤ z41585.toInt ∧ z41585.toInt ≤ 5 := by omega
  refine lv_iconst (v := 1) hx hb dX13_roundIn_29 (by decide) ?_
  refine t_cSi (n := 3) (As := [.int p1, .int z41585, .int 1]) (rest := [.ref p0, .int z41584, .int z41583, .int p2]) X hT (km49_X13_part l G tag L F hT.2.2.2 p1 z41585 1 (by omega) (by omega) (by decide)) qw_661 qw_662 qw_5 qw_663 ⟨by decide +kernel, by decide +kernel, by decide +kernel⟩ ⟨Nat.le_of_ble_eq_true rfl, Nat.le_of_ble_eq_true rfl⟩ hl rfl rfl (Nat.le_of_ble_eq_true rfl) dX13_roundIn_30 ⟨Nat.le_of_ble_eq_true rfl, Nat.le_of_ble_eq_true rfl⟩ (fun z41586 F9 H locs hT hz41586 => ?_)
  obtain ⟨fz41586, hz41586, xz41586_0⟩ := hz41586
  rw [fz41586] at hT
  have k41587 : (1 : Int32).toInt = 1 := by decide
  refine t_ild X hT m0 g0 rfl (by omega) dX13_roundIn_33 (fun z41588 vz41588 rz41588 => ?_)
  have oz41588 := rz41588
  have rz41588 := rg_all z41588
  refine lv_aload_n hx hb dX13_roundIn_34 rfl (lv_at hl 0 rfl) ?_
  refine lv_iload_n hx hb dX13_roundIn_35 rfl (lv_at hl 1 rfl) ?_
  refine lv_iload_n hx hb dX13_roundIn_36 rfl (lv_at hl 2 rfl) ?_
  refine lv_iconst (v := 1) hx hb dX13_roundIn_37 (by decide) ?_
  refine lv_isub hx hb dX13_roundIn_38 ?_
  refine lv_topi (fun z41589 ez41589 => ?_)
  have hz41589 : z41589.toInt = p2.toInt - 1 := ar_sub ez41589 (rfl : p2.toInt = p2.toInt) (by decide : (1 : Int32).toInt = 1) (by omega) (by omega)
  have rz41589 : 1 ≤ z41589.toInt ∧ z41589.toInt ≤ 5 := by omega
  refine lv_iconst (v := 2) hx hb dX13_roundIn_39 (by decide) ?_
  refine t_cSi (n := 3) (As := [.int p1, .int z41589, .int 2]) (rest := [.ref p0, .int z41588, .int z41584, .int z41583, .int p2]) X hT (km49_X13_part l G tag L F hT.2.2.2 p1 z41589 2 (by omega) (by omega) (by decide)) qw_661 qw_662 qw_5 qw_663 ⟨by decide +kernel, by decide +kernel, by decide +kernel⟩ ⟨Nat.le_of_ble_eq_true rfl, Nat.le_of_ble_eq_true rfl⟩ hl rfl rfl (Nat.le_of_ble_eq_true rfl) dX13_roundIn_40 ⟨Nat.le_of_ble_eq_true rfl, Nat.le_of_ble_eq_true rfl⟩ (fun z41590 F9 H locs hT hz41590 => ?_)
  obtain ⟨fz41590, hz41590, xz41590_0⟩ := hz41590
  rw [fz41590] at hT
  have k41591 : (2 : Int32).toInt = 2 := by decide
  refine t_ild X hT m0 g0 rfl (by omega) dX13_roundIn_43 (fun z41592 vz41592 rz41592 => ?_)
  have oz41592 := rz41592
  have rz41592 := rg_all z41592
  refine t_cSi (n := 3) (As := [.int z41584, .int z41588, .int z41592]) (rest := [.int z41583, .int p2]) X hT (km144_X13_frontPlace l G tag L F hT.2.2.2 z41584 z41588 z41592 ) qw_944 qw_945 qw_5 qw_946 ⟨by decide +kernel, by decide +kernel, by decide +kernel⟩ ⟨Nat.le_of_ble_eq_true rfl, Nat.le_of_ble_eq_true rfl⟩ hl rfl rfl (Nat.le_of_ble_eq_true rfl) dX13_roundIn_44 ⟨Nat.le_of_ble_eq_true rfl, Nat.le_of_ble_eq_true rfl⟩ (fun z41593 F9 H locs hT hz41593 => ?_)
  obtain ⟨fz41593, hz41593⟩ := hz41593
  rw [fz41593] at hT
  refine t_cSi (n := 3) (As := [.int p2, .int z41583, .int z41593]) (rest := []) X hT (km145_X13_roundOf l G tag L F hT.2.2.2 p2 z41583 z41593 ) qw_947 qw_948 qw_5 qw_949 ⟨by decide +kernel, by decide +kernel, by decide +kernel⟩ ⟨Nat.le_of_ble_eq_true rfl, Nat.le_of_ble_eq_true rfl⟩ hl rfl rfl (Nat.le_of_ble_eq_true rfl) dX13_roundIn_47 ⟨Nat.le_of_ble_eq_true rfl, Nat.le_of_ble_eq_true rfl⟩ (fun z41594 F9 H locs hT hz41594 => ?_)
  obtain ⟨fz41594, hz41594⟩ := hz41594
  rw [fz41594] at hT
  exact t_iret hQ X hT (⟨rfl, rg_all _⟩) (Nat.le_of_ble_eq_true rfl) (Nat.le_of_ble_eq_true rfl) dX13_roundIn_50
set_option maxHeartbeats 4000000 in
set_option maxRecDepth 100000 in
theorem km156_X13_plainWay (l : Launch) (G : KG) (tag : Nat → Nat) (L : List Nat) (F : Nat → va_E) (ho : okT G ttC tag L F) (p0 : Nat) (p1 : Int32) (p2 : Int32) (m0 : p0 ∈ L) (g0 : tag p0 = 37) (h1 : 0 ≤ p1.toInt ∧ p1.toInt ≤ 3) (h2 : 0 ≤ p2.toInt ∧ p2.toInt ≤ 6) : TMi l yX13_plainWay cX13_plainWay 5 (some .int) { frames := 3, cells := 0, slots := 0, locals := 66 } G ttC tag L F [.ref p0, .int p1, .int p2] (fun r F1 => F1 = F ∧ ((-2147483648) ≤ r.toInt ∧ r.toInt ≤ 2147483647)) := by
  refine t_bodyi (y := yX13_plainWay) (cd := cX13_plainWay) (mL := 5) (rt := (some .int)) (rm := { frames := 3, cells := 0, slots := 0, locals := 66 }) (av := [.ref p0, .int p1, .int p2]) (by decide) (Nat.le_of_ble_eq_true rfl) ho ?_
  intro p e s m args below meth c ls A Q hQ X hT hl
  have hx := X.1.1
  have hb := X.1.2.1
  have hl : lv_has ls 5 [(0, .ref p0), (1, .int p1), (2, .int p2)] := hl
  have K54 : ∀ (z41941 : Int32) (z41942 : Int32) (z41943 : Int32) (H : Heap) (locs : List Loc) (ls : Array Slot), (0 ≤ z41942.toInt ∧ z41942.toInt ≤ 5) → (0 ≤ z41943.toInt ∧ z41943.toInt ≤ 6) → TH G ttC A s tag L F H locs → (elm F p0 p1.toNatClampNeg = z41943) → lv_has ls 5 [(0, .ref p0), (1, .int p1), (2, .int p2), (3, .int z41941), (4, .int z41942)] → W p l e { frames := 3, cells := 0, slots := 0, locals := 66 } s m args below meth c H locs 0 0 Q (F0 m 54 ls []) := by
    intro z41941 z41942 z41943 H locs ls rz41942 rz41943 hT qz41943 hl
    have rz41941 := rg_all z41941
    refine lv_iload_n hx hb dX13_plainWay_54 rfl (lv_at hl 2 rfl) ?_
    refine lv_if_ne (tgt := 72) hx hb dX13_plainWay_55 (by decide) (fun c41944 => ?_) (fun c41944 => ?_)
    · have w41945 := cv_ne (rfl : p2.toInt = p2.toInt) (by decide : (0 : Int32).toInt = 0) c41944
      refine lv_iload_n hx hb dX13_plainWay_72 rfl (lv_at hl 3 rfl) ?_
      exact t_iret hQ X hT (⟨rfl, rg_all _⟩) (Nat.le_of_ble_eq_true rfl) (Nat.le_of_ble_eq_true rfl) dX13_plainWay_73
    · have w41946 := cv_eq (rfl : p2.toInt = p2.toInt) (by decide : (0 : Int32).toInt = 0) c41944
      refine lv_aload_n hx hb dX13_plainWay_58 rfl (lv_at hl 0 rfl) ?_
      refine lv_iconst (v := 0) hx hb dX13_plainWay_59 (by decide) ?_
      refine lv_iload_n hx hb dX13_plainWay_60 rfl (lv_at hl 1 rfl) ?_
      refine lv_iadd hx hb dX13_plainWay_61 ?_
      refine lv_topi (fun z41947 ez41947 => ?_)
      obtain rfl : p1 = z41947 := (ar_zadd ez41947).symm
      refine t_ild X hT m0 g0 rfl (by omega) dX13_plainWay_62 (fun z41948 vz41948 rz41948 => ?_)
      obtain rfl : z41943 = z41948 := qz41943.symm.trans vz41948
      refine lv_if_le (tgt := 72) hx hb dX13_plainWay_63 (by decide) (fun c41949 => ?_) (fun c41949 => ?_)
      · have w41950 := cv_le (rfl : z41943.toInt = z41943.toInt) (by decide : (0 : Int32).toInt = 0) c41949
        refine lv_iload_n hx hb dX13_plainWay_72 rfl (lv_at hl 3 rfl) ?_
        exact t_iret hQ X hT (⟨rfl, rg_all _⟩) (Nat.le_of_ble_eq_true rfl) (Nat.le_of_ble_eq_true rfl) dX13_plainWay_73
      · have w41951 := cv_nle (rfl : z41943.toInt = z41943.toInt) (by decide : (0 : Int32).toInt = 0) c41949
        refine lv_iload_n hx hb dX13_plainWay_66 rfl (lv_at hl 3 rfl) ?_
        refine lv_iconst (v := 1) hx hb dX13_plainWay_67 (by decide) ?_
        refine lv_iadd hx hb dX13_plainWay_68 ?_
        refine lv_topi (fun z41952 ez41952 => ?_)
        have rz41952 := rg_all z41952
        refine lv_goto (tgt := 73) hx hb dX13_plainWay_69 (by decide) ?_
        exact t_iret hQ X hT (⟨rfl, rg_all _⟩) (Nat.le_of_ble_eq_true rfl) (Nat.le_of_ble_eq_true rfl) dX13_plainWay_73
  have K9 : ∀ (n : Nat) (z41953 : Int32) (z41954 : Int32) (z41955 : Int32) (H : Heap) (locs : List Loc) (ls : Array Slot), (z41954.toInt - 0 < (n : Int)) → (0 ≤ z41954.toInt ∧ z41954.toInt ≤ 6) → (0 ≤ z41955.toInt ∧ z41955.toInt ≤ 6) → TH G ttC A s tag L F H locs → (elm F p0 p1.toNatClampNeg = z41955) → lv_has ls 5 [(0, .ref p0), (1, .int p1), (2, .int p2), (3, .int z41953), (4, .int z41954)] → W p l e { frames := 3, cells := 0, slots := 0, locals := 66 } s m args below meth c H locs 0 0 Q (F0 m 9 ls []) := by
    intro n
    induction n with
    | zero =>
      intro z41953 z41954 z41955 H locs ls hn rz41954 rz41955 hT qz41955 hl
      have rz41953 := rg_all z41953
      exfalso
      omega
    | succ n ih9 =>
      intro z41953 z41954 z41955 H locs ls hn rz41954 rz41955 hT qz41955 hl
      have rz41953 := rg_all z41953
      have K45 : ∀ (z41957 : Int32) (z41958 : Int32) (z41959 : Int32) (z41960 : Int32) (H : Heap) (locs : List Loc) (ls : Array Slot), (1 ≤ z41958.toInt ∧ z41958.toInt ≤ 1) → (0 ≤ z41960.toInt ∧ z41960.toInt ≤ 6) → (1 ≤ z41954.toInt ∧ z41954.toInt ≤ 6) → TH G ttC A s tag L F H locs → (elm F p0 p1.toNatClampNeg = z41960) → lv_has ls 5 [(0, .ref p0), (1, .int p1), (2, .int p2), (3, .int z41953), (4, .int z41954)] → W p l e { frames := 3, cells := 0, slots := 0, locals := 66 } s m args below meth c H locs 0 0 Q (F0 m 45 ls [.int z41957, .int z41958, .int z41959]) := by
        intro z41957 z41958 z41959 z41960 H locs ls rz41958 rz41960 r9s41956 hT qz41960 hl
        have rz41957 := rg_all z41957
        have rz41959 := rg_all z41959
        refine lv_iadd hx hb dX13_plainWay_45 ?_
        refine lv_topi (fun z41961 ez41961 => ?_)
        have rz41961 := rg_all z41961
        refine lv_iadd hx hb dX13_plainWay_46 ?_
        refine lv_topi (fun z41962 ez41962 => ?_)
        have rz41962 := rg_all z41962
        refine lv_istore_n (lv' := [(3, .int z41962), (0, .ref p0), (1, .int p1), (2, .int p2), (4, .int z41954)]) hx hb dX13_plainWay_47 rfl hl (by decide) rfl (fun ls hl => ?_)
        obtain ⟨z41963, ez41963⟩ : ∃ y : Int32, y = z41954 + (-1) := ⟨_, rfl⟩
        have hz41963 : z41963.toInt = z41954.toInt + (-1) := ar_add ez41963 rfl (by decide : ((-1) : Int32).toInt = (-1)) (by omega) (by omega)
        refine lv_iinc (v := z41963) (lv' := [(4, .int z41963), (3, .int z41962), (0, .ref p0), (1, .int p1), (2, .int p2)]) hx hb dX13_plainWay_48 hl (k := 4) rfl (by rw [ez41963]; rfl) (by decide) rfl (fun ls hl => ?_)
        refine lv_goto (tgt := 9) hx hb dX13_plainWay_51 (by decide) ?_
        exact ih9 z41962 z41963 z41960 _ _ _ (by omega) (by omega) (by omega) hT qz41960 (lv_sub hl [2, 3, 4, 1, 0] rfl)
      have K44 : ∀ (z41965 : Int32) (z41966 : Int32) (z41967 : Int32) (H : Heap) (locs : List Loc) (ls : Array Slot), (1 ≤ z41965.toInt ∧ z41965.toInt ≤ 1) → (0 ≤ z41967.toInt ∧ z41967.toInt ≤ 6) → (1 ≤ z41954.toInt ∧ z41954.toInt ≤ 6) → TH G ttC A s tag L F H locs → (elm F p0 p1.toNatClampNeg = z41967) → lv_has ls 5 [(0, .ref p0), (1, .int p1), (2, .int p2), (3, .int z41953), (4, .int z41954)] → W p l e { frames := 3, cells := 0, slots := 0, locals := 66 } s m args below meth c H locs 0 0 Q (F0 m 44 ls [.int z41965, .int z41966]) := by
        intro z41965 z41966 z41967 H locs ls rz41965 rz41967 r9s41964 hT qz41967 hl
        have rz41966 := rg_all z41966
        refine lv_iconst (v := 0) hx hb dX13_plainWay_44 (by decide) ?_
        have k41968 : (0 : Int32).toInt = 0 := by decide
        exact K45 0 z41965 z41966 z41967 _ _ _ (by omega) (by omega) (by omega) hT qz41967 (lv_sub hl [0, 1, 2, 3, 4] rfl)
      refine lv_iload hx hb dX13_plainWay_9 (lv_at hl 4 rfl) ?_
      refine lv_if_le (tgt := 54) hx hb dX13_plainWay_11 (by decide) (fun c41969 => ?_) (fun c41969 => ?_)
      · have w41970 := cv_le (rfl : z41954.toInt = z41954.toInt) (by decide : (0 : Int32).toInt = 0) c41969
        exact K54 z41953 z41954 z41955 _ _ _ (by omega) (by omega) hT qz41955 (lv_sub hl [0, 1, 2, 3, 4] rfl)
      · have w41971 := cv_nle (rfl : z41954.toInt = z41954.toInt) (by decide : (0 : Int32).toInt = 0) c41969
        refine lv_iload hx hb dX13_plainWay_14 (lv_at hl 4 rfl) ?_
        refine lv_iload_n hx hb dX13_plainWay_16 rfl (lv_at hl 2 rfl) ?_
        refine lv_icmp_lt (tgt := 54) hx hb dX13_plainWay_17 (by decide) (fun c41972 => ?_) (fun c41972 => ?_)
        · have w41973 := cv_lt (rfl : z41954.toInt = z41954.toInt) (rfl : p2.toInt = p2.toInt) c41972
          exact K54 z41953 z41954 z41955 _ _ _ (by omega) (by omega) hT qz41955 (lv_sub hl [0, 1, 2, 3, 4] rfl)
        · have w41974 := cv_nlt (rfl : z41954.toInt = z41954.toInt) (rfl : p2.toInt = p2.toInt) c41972
          refine lv_iload_n hx hb dX13_plainWay_20 rfl (lv_at hl 3 rfl) ?_
          refine lv_iconst (v := 1) hx hb dX13_plainWay_21 (by decide) ?_
          refine lv_iload hx hb dX13_plainWay_22 (lv_at hl 4 rfl) ?_
          refine lv_iconst (v := 1) hx hb dX13_plainWay_24 (by decide) ?_
          refine lv_icmp_le (tgt := 44) hx hb dX13_plainWay_25 (by decide) (fun c41975 => ?_) (fun c41975 => ?_)
          · have w41976 := cv_le (rfl : z41954.toInt = z41954.toInt) (by decide : (1 : Int32).toInt = 1) c41975
            have k41977 : (1 : Int32).toInt = 1 := by decide
            exact K44 1 z41953 z41955 _ _ _ (by decide) (by omega) (by omega) hT qz41955 (lv_sub hl [0, 1, 2, 3, 4] rfl)
          · have w41978 := cv_nle (rfl : z41954.toInt = z41954.toInt) (by decide : (1 : Int32).toInt = 1) c41975
            refine lv_iload hx hb dX13_plainWay_28 (lv_at hl 4 rfl) ?_
            refine lv_iload_n hx hb dX13_plainWay_30 rfl (lv_at hl 2 rfl) ?_
            refine lv_icmp_le (tgt := 44) hx hb dX13_plainWay_31 (by decide) (fun c41979 => ?_) (fun c41979 => ?_)
            · have w41980 := cv_le (rfl : z41954.toInt = z41954.toInt) (rfl : p2.toInt = p2.toInt) c41979
              have k41981 : (1 : Int32).toInt = 1 := by decide
              exact K44 1 z41953 z41955 _ _ _ (by decide) (by omega) (by omega) hT qz41955 (lv_sub hl [0, 1, 2, 3, 4] rfl)
            · have w41982 := cv_nle (rfl : z41954.toInt = z41954.toInt) (rfl : p2.toInt = p2.toInt) c41979
              refine lv_aload_n hx hb dX13_plainWay_34 rfl (lv_at hl 0 rfl) ?_
              refine lv_iload_n hx hb dX13_plainWay_35 rfl (lv_at hl 1 rfl) ?_
              refine lv_iload hx hb dX13_plainWay_36 (lv_at hl 4 rfl) ?_
              refine t_cSi (n := 3) (As := [.ref p0, .int p1, .int z41954]) (rest := [.int 1, .int z41953]) X hT (km155_X13_roundIn l G tag L F hT.2.2.2 p0 p1 z41954 m0 g0 (by omega) (by omega)) qw_1005 qw_1006 qw_5 qw_1007 ⟨by decide +kernel, by decide +kernel, by decide +kernel⟩ ⟨Nat.le_of_ble_eq_true rfl, Nat.le_of_ble_eq_true rfl⟩ hl rfl rfl (Nat.le_of_ble_eq_true rfl) dX13_plainWay_38 ⟨Nat.le_of_ble_eq_true rfl, Nat.le_of_ble_eq_true rfl⟩ (fun z41983 F9 H locs hT hz41983 => ?_)
              obtain ⟨fz41983, hz41983⟩ := hz41983
              rw [fz41983] at hT
              refine lv_goto (tgt := 45) hx hb dX13_plainWay_41 (by decide) ?_
              have k41984 : (1 : Int32).toInt = 1 := by decide
              exact K45 z41983 1 z41953 z41955 _ _ _ (by decide) (by omega) (by omega) hT qz41955 (lv_sub hl [0, 1, 2, 3, 4] rfl)
  refine lv_iconst (v := 0) hx hb dX13_plainWay_0 (by decide) ?_
  refine lv_istore_n (lv' := [(3, .int 0), (0, .ref p0), (1, .int p1), (2, .int p2)]) hx hb dX13_plainWay_1 rfl hl (by decide) rfl (fun ls hl => ?_)
  refine lv_aload_n hx hb dX13_plainWay_2 rfl (lv_at hl 1 rfl) ?_
  refine lv_iconst (v := 0) hx hb dX13_plainWay_3 (by decide) ?_
  refine lv_iload_n hx hb dX13_plainWay_4 rfl (lv_at hl 2 rfl) ?_
  refine lv_iadd hx hb dX13_plainWay_5 ?_
  refine lv_topi (fun z41985 ez41985 => ?_)
  obtain rfl : p1 = z41985 := (ar_zadd ez41985).symm
  refine t_ild X hT m0 g0 rfl (by omega) dX13_plainWay_6 (fun z41986 vz41986 rz41986 => ?_)
  have rz41986 := row_ml (by omega) rz41986
  refine lv_istore (lv' := [(4, .int z41986), (3, .int 0), (0, .ref p0), (1, .int p1), (2, .int p2)]) hx hb dX13_plainWay_7 hl (by decide) rfl (fun ls hl => ?_)
  have k41987 : (0 : Int32).toInt = 0 := by decide
  exact K9 7 0 z41986 z41986 _ _ _ (by omega) (by omega) (by omega) hT vz41986 (lv_sub hl [2, 3, 4, 1, 0] rfl)
set_option maxHeartbeats 4000000 in
set_option maxRecDepth 100000 in
theorem km157_X13_wayTo (l : Launch) (G : KG) (tag : Nat → Nat) (L : List Nat) (F : Nat → va_E) (ho : okT G ttC tag L F) (p0 : Nat) (p1 : Int32) (p2 : Int32) (m0 : p0 ∈ L) (g0 : tag p0 = 37) (h1 : 0 ≤ p1.toInt ∧ p1.toInt ≤ 3) (h2 : 0 ≤ p2.toInt ∧ p2.toInt ≤ 6) : TMi l yX13_wayTo cX13_wayTo 4 (some .int) { frames := 4, cells := 0, slots := 0, locals := 90 } G ttC tag L F [.ref p0, .int p1, .int p2] (fun r F1 => F1 = F ∧ ((-2147483648) ≤ r.toInt ∧ r.toInt ≤ 2147483647)) := by
  refine t_bodyi (y := yX13_wayTo) (cd := cX13_wayTo) (mL := 4) (rt := (some .int)) (rm := { frames := 4, cells := 0, slots := 0, locals := 90 }) (av := [.ref p0, .int p1, .int p2]) (by decide) (Nat.le_of_ble_eq_true rfl) ho ?_
  intro p e s m args below meth c ls A Q hQ X hT hl
  have hx := X.1.1
  have hb := X.1.2.1
  have hl : lv_has ls 4 [(0, .ref p0), (1, .int p1), (2, .int p2)] := hl
  have K10 : ∀ (n : Nat) (z42242 : Int32) (H : Heap) (locs : List Loc) (ls : Array Slot), (7 - z42242.toInt < (n : Int)) → (1 ≤ z42242.toInt ∧ z42242.toInt ≤ 7) → TH G ttC A s tag L F H locs → lv_has ls 4 [(0, .ref p0), (1, .int p1), (2, .int p2), (3, .int z42242)] → W p l e { frames := 4, cells := 0, slots := 0, locals := 90 } s m args below meth c H locs 0 0 Q (F0 m 10 ls []) := by
    intro n
    induction n with
    | zero =>
      intro z42242 H locs ls hn rz42242 hT hl
      exfalso
      omega
    | succ n ih10 =>
      intro z42242 H locs ls hn rz42242 hT hl
      refine lv_iload_n hx hb dX13_wayTo_10 rfl (lv_at hl 3 rfl) ?_
      refine lv_aload_n hx hb dX13_wayTo_11 rfl (lv_at hl 0 rfl) ?_
      refine lv_iconst (v := 0) hx hb dX13_wayTo_12 (by decide) ?_
      refine lv_iload_n hx hb dX13_wayTo_13 rfl (lv_at hl 1 rfl) ?_
      refine lv_iadd hx hb dX13_wayTo_14 ?_
      refine lv_topi (fun z42243 ez42243 => ?_)
      obtain rfl : p1 = z42243 := (ar_zadd ez42243).symm
      refine t_ild X hT m0 g0 rfl (by omega) dX13_wayTo_15 (fun z42244 vz42244 rz42244 => ?_)
      have rz42244 := row_ml (by omega) rz42244
      refine lv_icmp_gt (tgt := 53) hx hb dX13_wayTo_16 (by decide) (fun c42245 => ?_) (fun c42245 => ?_)
      · have w42246 := cv_lt (rfl : z42244.toInt = z42244.toInt) (rfl : z42242.toInt = z42242.toInt) c42245
        refine lv_aload_n hx hb dX13_wayTo_53 rfl (lv_at hl 0 rfl) ?_
        refine lv_iload_n hx hb dX13_wayTo_54 rfl (lv_at hl 1 rfl) ?_
        refine lv_iload_n hx hb dX13_wayTo_55 rfl (lv_at hl 2 rfl) ?_
        refine t_cSi (n := 3) (As := [.ref p0, .int p1, .int p2]) (rest := []) X hT (km156_X13_plainWay l G tag L F hT.2.2.2 p0 p1 p2 m0 g0 (by omega) (by omega)) qw_1002 qw_1003 qw_5 qw_1004 ⟨by decide +kernel, by decide +kernel, by decide +kernel⟩ ⟨Nat.le_of_ble_eq_true rfl, Nat.le_of_ble_eq_true rfl⟩ hl rfl rfl (Nat.le_of_ble_eq_true rfl) dX13_wayTo_56 ⟨Nat.le_of_ble_eq_true rfl, Nat.le_of_ble_eq_true rfl⟩ (fun z42247 F9 H locs hT hz42247 => ?_)
        obtain ⟨fz42247, hz42247⟩ := hz42247
        rw [fz42247] at hT
        exact t_iret hQ X hT (⟨rfl, rg_all _⟩) (Nat.le_of_ble_eq_true rfl) (Nat.le_of_ble_eq_true rfl) dX13_wayTo_59
      · have w42248 := cv_nlt (rfl : z42244.toInt = z42244.toInt) (rfl : z42242.toInt = z42242.toInt) c42245
        refine lv_aload_n hx hb dX13_wayTo_19 rfl (lv_at hl 0 rfl) ?_
        refine lv_iload_n hx hb dX13_wayTo_20 rfl (lv_at hl 1 rfl) ?_
        refine lv_iload_n hx hb dX13_wayTo_21 rfl (lv_at hl 3 rfl) ?_
        refine lv_iconst (v := 5) hx hb dX13_wayTo_22 (by decide) ?_
        refine t_cSi (n := 3) (As := [.int p1, .int z42242, .int 5]) (rest := [.ref p0]) X hT (km49_X13_part l G tag L F hT.2.2.2 p1 z42242 5 (by omega) (by omega) (by decide)) qw_661 qw_662 qw_5 qw_663 ⟨by decide +kernel, by decide +kernel, by decide +kernel⟩ ⟨Nat.le_of_ble_eq_true rfl, Nat.le_of_ble_eq_true rfl⟩ hl rfl rfl (Nat.le_of_ble_eq_true rfl) dX13_wayTo_23 ⟨Nat.le_of_ble_eq_true rfl, Nat.le_of_ble_eq_true rfl⟩ (fun z42249 F9 H locs hT hz42249 => ?_)
        obtain ⟨fz42249, hz42249, xz42249_0⟩ := hz42249
        rw [fz42249] at hT
        have k42250 : (5 : Int32).toInt = 5 := by decide
        refine t_ild X hT m0 g0 rfl (by omega) dX13_wayTo_26 (fun z42251 vz42251 rz42251 => ?_)
        have oz42251 := rz42251
        have rz42251 := rg_all z42251
        refine lv_iconst (v := 1) hx hb dX13_wayTo_27 (by decide) ?_
        refine lv_icmp_eq (tgt := 44) hx hb dX13_wayTo_28 (by decide) (fun c42252 => ?_) (fun c42252 => ?_)
        · have w42253 := cv_eq (rfl : z42251.toInt = z42251.toInt) (by decide : (1 : Int32).toInt = 1) c42252
          refine lv_bipush (v := (-2)) hx hb dX13_wayTo_44 (by decide) ?_
          have k42254 : ((-2) : Int32).toInt = (-2) := by decide
          exact t_iret hQ X hT (⟨rfl, rg_all _⟩) (Nat.le_of_ble_eq_true rfl) (Nat.le_of_ble_eq_true rfl) dX13_wayTo_46
        · have w42255 := cv_ne (rfl : z42251.toInt = z42251.toInt) (by decide : (1 : Int32).toInt = 1) c42252
          refine lv_aload_n hx hb dX13_wayTo_31 rfl (lv_at hl 0 rfl) ?_
          refine lv_iload_n hx hb dX13_wayTo_32 rfl (lv_at hl 1 rfl) ?_
          refine lv_iload_n hx hb dX13_wayTo_33 rfl (lv_at hl 3 rfl) ?_
          refine lv_bipush (v := 6) hx hb dX13_wayTo_34 (by decide) ?_
          refine t_cSi (n := 3) (As := [.int p1, .int z42242, .int 6]) (rest := [.ref p0]) X hT (km49_X13_part l G tag L F hT.2.2.2 p1 z42242 6 (by omega) (by omega) (by decide)) qw_661 qw_662 qw_5 qw_663 ⟨by decide +kernel, by decide +kernel, by decide +kernel⟩ ⟨Nat.le_of_ble_eq_true rfl, Nat.le_of_ble_eq_true rfl⟩ hl rfl rfl (Nat.le_of_ble_eq_true rfl) dX13_wayTo_36 ⟨Nat.le_of_ble_eq_true rfl, Nat.le_of_ble_eq_true rfl⟩ (fun z42256 F9 H locs hT hz42256 => ?_)
          obtain ⟨fz42256, hz42256, xz42256_0⟩ := hz42256
          rw [fz42256] at hT
          have k42257 : (6 : Int32).toInt = 6 := by decide
          refine t_ild X hT m0 g0 rfl (by omega) dX13_wayTo_39 (fun z42258 vz42258 rz42258 => ?_)
          have oz42258 := rz42258
          have rz42258 := rg_all z42258
          refine lv_iconst (v := 1) hx hb dX13_wayTo_40 (by decide) ?_
          refine lv_icmp_ne (tgt := 47) hx hb dX13_wayTo_41 (by decide) (fun c42259 => ?_) (fun c42259 => ?_)
          · have w42260 := cv_ne (rfl : z42258.toInt = z42258.toInt) (by decide : (1 : Int32).toInt = 1) c42259
            obtain ⟨z42261, ez42261⟩ : ∃ y : Int32, y = z42242 + 1 := ⟨_, rfl⟩
            have hz42261 : z42261.toInt = z42242.toInt + 1 := ar_add ez42261 rfl (by decide : (1 : Int32).toInt = 1) (by omega) (by omega)
            refine lv_iinc (v := z42261) (lv' := [(3, .int z42261), (0, .ref p0), (1, .int p1), (2, .int p2)]) hx hb dX13_wayTo_47 hl (k := 3) rfl (by rw [ez42261]; rfl) (by decide) rfl (fun ls hl => ?_)
            refine lv_goto (tgt := 10) hx hb dX13_wayTo_50 (by decide) ?_
            exact ih10 z42261 _ _ _ (by omega) (by omega) hT  (lv_sub hl [1, 2, 3, 0] rfl)
          · have w42262 := cv_eq (rfl : z42258.toInt = z42258.toInt) (by decide : (1 : Int32).toInt = 1) c42259
            refine lv_bipush (v := (-2)) hx hb dX13_wayTo_44 (by decide) ?_
            have k42263 : ((-2) : Int32).toInt = (-2) := by decide
            exact t_iret hQ X hT (⟨rfl, rg_all _⟩) (Nat.le_of_ble_eq_true rfl) (Nat.le_of_ble_eq_true rfl) dX13_wayTo_46
  have K9 : ∀ (z42264 : Int32) (H : Heap) (locs : List Loc) (ls : Array Slot), (1 ≤ z42264.toInt ∧ z42264.toInt ≤ 6) → TH G ttC A s tag L F H locs → lv_has ls 4 [(0, .ref p0), (1, .int p1), (2, .int p2)] → W p l e { frames := 4, cells := 0, slots := 0, locals := 90 } s m args below meth c H locs 0 0 Q (F0 m 9 ls [.int z42264]) := by
    intro z42264 H locs ls rz42264 hT hl
    refine lv_istore_n (lv' := [(3, .int z42264), (0, .ref p0), (1, .int p1), (2, .int p2)]) hx hb dX13_wayTo_9 rfl hl (by decide) rfl (fun ls hl => ?_)
    exact K10 7 z42264 _ _ _ (by omega) (by omega) hT  (lv_sub hl [1, 2, 3, 0] rfl)
  refine lv_iload_n hx hb dX13_wayTo_0 rfl (lv_at hl 2 rfl) ?_
  refine lv_if_le (tgt := 8) hx hb dX13_wayTo_1 (by decide) (fun c42265 => ?_) (fun c42265 => ?_)
  · have w42266 := cv_le (rfl : p2.toInt = p2.toInt) (by decide : (0 : Int32).toInt = 0) c42265
    refine lv_iconst (v := 1) hx hb dX13_wayTo_8 (by decide) ?_
    have k42267 : (1 : Int32).toInt = 1 := by decide
    exact K9 1 _ _ _ (by decide) hT  (lv_sub hl [0, 1, 2] rfl)
  · have w42268 := cv_nle (rfl : p2.toInt = p2.toInt) (by decide : (0 : Int32).toInt = 0) c42265
    refine lv_iload_n hx hb dX13_wayTo_4 rfl (lv_at hl 2 rfl) ?_
    refine lv_goto (tgt := 9) hx hb dX13_wayTo_5 (by decide) ?_
    exact K9 p2 _ _ _ (by omega) hT  (lv_sub hl [0, 1, 2] rfl)
set_option maxHeartbeats 4000000 in
set_option maxRecDepth 100000 in
theorem km158_X13_way (l : Launch) (G : KG) (tag : Nat → Nat) (L : List Nat) (Fo : Nat → va_E) (ho : okT G ttC tag L Fo) (p0 : Nat) (p1 : Int32) (p2 : Int32) (x0 : Nat) (m0 : p0 ∈ L) (g0 : tag p0 = 46) (mx0 : x0 ∈ L) (gx0 : tag x0 = 45) (pf0 : fld Fo p0 3 = .ref x0) : TMi l yX13_way cX13_way 3 (some .int) { frames := 5, cells := 0, slots := 0, locals := 113 } G ttC tag L Fo [.ref p0, .int p1, .int p2] (fun r F1 => ((-2147483648) ≤ r.toInt ∧ r.toInt ≤ 2147483647) ∧ ((∀ b j : Nat, (tag b ≠ 46 ∨ j ≠ 0) → (tag b ≠ 46 ∨ j ≠ 1) → (tag b ≠ 46 ∨ j ≠ 2) → fld F1 b j = fld Fo b j) ∧ (∀ b j : Nat, elm F1 b j = elm Fo b j))) := by
  refine t_bodyi (y := yX13_way) (cd := cX13_way) (mL := 3) (rt := (some .int)) (rm := { frames := 5, cells := 0, slots := 0, locals := 113 }) (av := [.ref p0, .int p1, .int p2]) (by decide) (Nat.le_of_ble_eq_true rfl) ho ?_
  intro p e s m args below meth c ls A Q hQ X hT hl
  have hx := X.1.1
  have hb := X.1.2.1
  have hl : lv_has ls 3 [(0, .ref p0), (1, .int p1), (2, .int p2)] := hl
  have rp1 := rg_all p1
  have rp2 := rg_all p2
  obtain ⟨F, hFo⟩ : ∃ F : Nat → va_E, F = Fo := ⟨_, rfl⟩
  rw [← hFo] at hT pf0
  have hfr : (∀ b j : Nat, (tag b ≠ 46 ∨ j ≠ 0) → (tag b ≠ 46 ∨ j ≠ 1) → (tag b ≠ 46 ∨ j ≠ 2) → fld F b j = fld Fo b j) ∧ (∀ b j : Nat, elm F b j = elm Fo b j) := by
    rw [hFo]
    exact ⟨by intros; rfl, by intros; rfl⟩
  refine lv_aload_n hx hb dX13_way_0 rfl (lv_at hl 0 rfl) ?_
  refine lv_iconst (v := 0) hx hb dX13_way_1 (by decide) ?_
  refine t_put (C := RX13) (T := TX13) (N := 37) (v := .int 0) X hT m0 g0 rfl tyX13 tyX13_ok nmX13 rfl 0 (by decide) qw_140 inlX13 rfl (by first | rfl | decide) (by first | rfl | decide) rfl (⟨_, rfl, (show (-2147483648) ≤ (0 : Int32).toInt from (by decide)), (show (0 : Int32).toInt ≤ 2147483647 from (by decide))⟩) dX13_way_2 (fun F H locs hT v42391 h1v42391 h2v42391 => ?_)
  have pf0 := (h1v42391 _ _ (Or.inr (by decide))).trans pf0
  have hfr : (∀ b j : Nat, (tag b ≠ 46 ∨ j ≠ 0) → (tag b ≠ 46 ∨ j ≠ 1) → (tag b ≠ 46 ∨ j ≠ 2) → fld F b j = fld Fo b j) ∧ (∀ b j : Nat, elm F b j = elm Fo b j) := ⟨fun b j n46_0 n46_1 n46_2 => (h1v42391 b j (fr_ne g0 n46_0)).trans (hfr.1 b j n46_0 n46_1 n46_2), fun b j  => (h2v42391 b j).trans (hfr.2 b j )⟩
  refine lv_aload_n hx hb dX13_way_5 rfl (lv_at hl 0 rfl) ?_
  refine lv_iload_n hx hb dX13_way_6 rfl (lv_at hl 1 rfl) ?_
  refine lv_iload_n hx hb dX13_way_7 rfl (lv_at hl 2 rfl) ?_
  refine t_cVi (n := 2) (C := RX13) (T := TX13) (N := 37) (As := [.int p1, .int p2]) (rest := []) X hT (km124_X13_isDepth l G tag L F hT.2.2.2 p0 p1 p2 x0 m0 g0 mx0 gx0 pf0) m0 g0 rfl rfl qw_865 qw_866 qw_867 qw_5 qw_868 ⟨rfl, by decide +kernel, by decide +kernel, by decide +kernel⟩ ⟨Nat.le_of_ble_eq_true rfl, Nat.le_of_ble_eq_true rfl⟩ hl rfl rfl (Nat.le_of_ble_eq_true rfl) dX13_way_8 ⟨Nat.le_of_ble_eq_true rfl, Nat.le_of_ble_eq_true rfl⟩ (fun z42392 F9 H locs hT hz42392 => ?_)
  obtain ⟨fz42392, hz42392⟩ := hz42392
  rw [fz42392] at hT
  obtain ⟨hz42392, iz42392⟩ := hz42392
  refine lv_if_eq (tgt := 30) hx hb dX13_way_11 (by decide) (fun c42393 => ?_) (fun c42393 => ?_)
  · have w42394 := cv_eq (rfl : z42392.toInt = z42392.toInt) (by decide : (0 : Int32).toInt = 0) c42393
    refine lv_aload_n hx hb dX13_way_30 rfl (lv_at hl 0 rfl) ?_
    refine lv_iconst (v := 1) hx hb dX13_way_31 (by decide) ?_
    refine t_cVi (n := 1) (C := RX13) (T := TX13) (N := 37) (As := [.int 1]) (rest := []) X hT (km88_X13_refused l G tag L F hT.2.2.2 p0 1 m0 g0) m0 g0 rfl rfl qw_484 qw_485 qw_486 qw_5 qw_487 ⟨rfl, by decide +kernel, by decide +kernel, by decide +kernel⟩ ⟨Nat.le_of_ble_eq_true rfl, Nat.le_of_ble_eq_true rfl⟩ hl rfl rfl (Nat.le_of_ble_eq_true rfl) dX13_way_32 ⟨Nat.le_of_ble_eq_true rfl, Nat.le_of_ble_eq_true rfl⟩ (fun z42395 F H locs hT hz42395 => ?_)
    obtain ⟨hz42395, yz42395⟩ := hz42395
    have pf0 := (yz42395.1 _ 3 (Or.inr (by decide)) (Or.inr (by decide))).trans pf0
    have v42391 := (yz42395.1 _ 0 (Or.inr (by decide)) (Or.inr (by decide))).trans v42391
    have hfr : (∀ b j : Nat, (tag b ≠ 46 ∨ j ≠ 0) → (tag b ≠ 46 ∨ j ≠ 1) → (tag b ≠ 46 ∨ j ≠ 2) → fld F b j = fld Fo b j) ∧ (∀ b j : Nat, elm F b j = elm Fo b j) := ⟨fun b j n46_0 n46_1 n46_2 => (yz42395.1 b j n46_1 n46_2).trans (hfr.1 b j n46_0 n46_1 n46_2), fun b j  => (yz42395.2 b j ).trans (hfr.2 b j )⟩
    exact t_iret hQ X hT (⟨rg_all _, hfr⟩) (Nat.le_of_ble_eq_true rfl) (Nat.le_of_ble_eq_true rfl) dX13_way_35
  · have w42396 := cv_ne (rfl : z42392.toInt = z42392.toInt) (by decide : (0 : Int32).toInt = 0) c42393
    have w42397 := (fun h => (iz42392 h).1) (by omega)
    have w42398 := (fun h => (iz42392 h).2) (by omega)
    refine lv_aload_n hx hb dX13_way_14 rfl (lv_at hl 0 rfl) ?_
    refine lv_aload_n hx hb dX13_way_15 rfl (lv_at hl 0 rfl) ?_
    refine t_get (C := RX13) (T := TX13) (N := 37) X hT m0 g0 rfl rfl 16 (by decide) qw_112 inlX13 rfl dX13_way_16 (fun v42399 hv42399 ov42399 => ?_)
    obtain ⟨b42400, rfl, mb42400, gb42400⟩ := okV_r ov42399
    have gb42400 : tag b42400 = 37 := tg_of gb42400
    refine lv_iload_n hx hb dX13_way_19 rfl (lv_at hl 1 rfl) ?_
    refine lv_iload_n hx hb dX13_way_20 rfl (lv_at hl 2 rfl) ?_
    refine t_cSi (n := 3) (As := [.ref b42400, .int p1, .int p2]) (rest := [.ref p0]) X hT (km157_X13_wayTo l G tag L F hT.2.2.2 b42400 p1 p2 mb42400 gb42400 (by omega) (by omega)) qw_999 qw_1000 qw_5 qw_1001 ⟨by decide +kernel, by decide +kernel, by decide +kernel⟩ ⟨Nat.le_of_ble_eq_true rfl, Nat.le_of_ble_eq_true rfl⟩ hl rfl rfl (Nat.le_of_ble_eq_true rfl) dX13_way_21 ⟨Nat.le_of_ble_eq_true rfl, Nat.le_of_ble_eq_true rfl⟩ (fun z42401 F9 H locs hT hz42401 => ?_)
    obtain ⟨fz42401, hz42401⟩ := hz42401
    rw [fz42401] at hT
    refine t_cVi (n := 1) (C := RX13) (T := TX13) (N := 37) (As := [.int z42401]) (rest := []) X hT (km93_X13_good l G tag L F hT.2.2.2 p0 z42401 m0 g0) m0 g0 rfl rfl qw_687 qw_688 qw_689 qw_5 qw_690 ⟨rfl, by decide +kernel, by decide +kernel, by decide +kernel⟩ ⟨Nat.le_of_ble_eq_true rfl, Nat.le_of_ble_eq_true rfl⟩ hl rfl rfl (Nat.le_of_ble_eq_true rfl) dX13_way_24 ⟨Nat.le_of_ble_eq_true rfl, Nat.le_of_ble_eq_true rfl⟩ (fun z42402 F H locs hT hz42402 => ?_)
    obtain ⟨hz42402, yz42402⟩ := hz42402
    have pf0 := (yz42402.1 _ 3 (Or.inr (by decide)) (Or.inr (by decide))).trans pf0
    have v42391 := (yz42402.1 _ 0 (Or.inr (by decide)) (Or.inr (by decide))).trans v42391
    have hv42399 := (yz42402.1 _ 16 (Or.inr (by decide)) (Or.inr (by decide))).trans hv42399
    have hfr : (∀ b j : Nat, (tag b ≠ 46 ∨ j ≠ 0) → (tag b ≠ 46 ∨ j ≠ 1) → (tag b ≠ 46 ∨ j ≠ 2) → fld F b j = fld Fo b j) ∧ (∀ b j : Nat, elm F b j = elm Fo b j) := ⟨fun b j n46_0 n46_1 n46_2 => (yz42402.1 b j n46_1 n46_2).trans (hfr.1 b j n46_0 n46_1 n46_2), fun b j  => (yz42402.2 b j ).trans (hfr.2 b j )⟩
    refine lv_goto (tgt := 35) hx hb dX13_way_27 (by decide) ?_
    exact t_iret hQ X hT (⟨rg_all _, hfr⟩) (Nat.le_of_ble_eq_true rfl) (Nat.le_of_ble_eq_true rfl) dX13_way_35
