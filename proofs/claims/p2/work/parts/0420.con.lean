set_option maxHeartbeats 4000000 in
set_option maxRecDepth 100000 in
theorem km116_X13_isHouse (l : Launch) (G : KG) (tag : Nat → Nat) (L : List Nat) (F : Nat → va_E) (ho : okT G ttC tag L F) (p0 : Nat) (p1 : Int32) (m0 : p0 ∈ L) (g0 : tag p0 = 46) (pf0 : fld F p0 3 = .null) : TMi l yX13_isHouse cX13_isHouse 2 (some .boolean) { frames := 0, cells := 0, slots := 0, locals := 0 } G ttC tag L F [.ref p0, .int p1] (fun r F1 => F1 = F ∧ (0 ≤ r.toInt ∧ r.toInt ≤ 0)) := by
  refine t_bodyi (y := yX13_isHouse) (cd := cX13_isHouse) (mL := 2) (rt := (some .boolean)) (rm := { frames := 0, cells := 0, slots := 0, locals := 0 }) (av := [.ref p0, .int p1]) (by decide) (Nat.le_of_ble_eq_true rfl) ho ?_
  intro p e s m args below meth c ls A Q hQ X hT hl
  have hx := X.1.1
  have hb := X.1.2.1
  have hl : lv_has ls 2 [(0, .ref p0), (1, .int p1)] := hl
  have rp1 := rg_all p1
  refine lv_aload_n hx hb dX13_isHouse_0 rfl (lv_at hl 0 rfl) ?_
  refine t_get (C := RX13) (T := TX13) (N := 37) X hT m0 g0 rfl rfl 3 (by decide) qw_481 inlX13 rfl dX13_isHouse_1 (fun v34694 hv34694 ov34694 => ?_)
  obtain rfl : v34694 = .null := hv34694.symm.trans pf0
  refine lv_ifnullN (tgt := 26) hx hb dX13_isHouse_4 (by decide) ?_
  refine lv_iconst (v := 0) hx hb dX13_isHouse_26 (by decide) ?_
  have k34695 : (0 : Int32).toInt = 0 := by decide
  exact t_zret hQ X hT (by decide) (⟨rfl, (by decide)⟩) (Nat.le_of_ble_eq_true rfl) (Nat.le_of_ble_eq_true rfl) dX13_isHouse_27
set_option maxHeartbeats 4000000 in
set_option maxRecDepth 100000 in
theorem km117_X13_house (l : Launch) (G : KG) (tag : Nat → Nat) (L : List Nat) (Fo : Nat → va_E) (ho : okT G ttC tag L Fo) (p0 : Nat) (p1 : Int32) (p2 : Int32) (m0 : p0 ∈ L) (g0 : tag p0 = 46) (pf0 : fld Fo p0 3 = .null) : TMi l yX13_house cX13_house 3 (some .int) { frames := 5, cells := 0, slots := 0, locals := 121 } G ttC tag L Fo [.ref p0, .int p1, .int p2] (fun r F1 => ((-2147483648) ≤ r.toInt ∧ r.toInt ≤ 2147483647) ∧ ((∀ b j : Nat, (tag b ≠ 46 ∨ j ≠ 0) → (tag b ≠ 46 ∨ j ≠ 1) → (tag b ≠ 46 ∨ j ≠ 2) → fld F1 b j = fld Fo b j) ∧ (∀ b j : Nat, elm F1 b j = elm Fo b j))) := by
  refine t_bodyi (y := yX13_house) (cd := cX13_house) (mL := 3) (rt := (some .int)) (rm := { frames := 5, cells := 0, slots := 0, locals := 121 }) (av := [.ref p0, .int p1, .int p2]) (by decide) (Nat.le_of_ble_eq_true rfl) ho ?_
  intro p e s m args below meth c ls A Q hQ X hT hl
  have hx := X.1.1
  have hb := X.1.2.1
  have hl : lv_has ls 3 [(0, .ref p0), (1, .int p1), (2, .int p2)] := hl
  have rp1 := rg_all p1
  have rp2 := rg_all p2
  obtain ⟨F, hFo⟩ : ∃ F : Nat → va_E, F = Fo := ⟨_, rfl⟩
  rw [← hFo] at hT pf0
  have hfr : (∀ b j : Nat, (tag b ≠ 46 ∨ j ≠ 0) → (tag b ≠ 46 ∨ j ≠ 1) → (tag b ≠ 46 ∨ j ≠ 2) → fld F b j = fld Fo b j) ∧ (∀ b j : Nat, elm F b j = elm Fo b j) := by
    rw [hFo]
    exact ⟨by intros; rfl, by intros; rfl⟩
  refine lv_aload_n hx hb dX13_house_0 rfl (lv_at hl 0 rfl) ?_
  refine lv_iconst (v := 0) hx hb dX13_house_1 (by decide) ?_
  refine t_put (C := RX13) (T := TX13) (N := 37) (v := .int 0) X hT m0 g0 rfl tyX13 tyX13_ok nmX13 rfl 0 (by decide) qw_140 inlX13 rfl (by first | rfl | decide) (by first | rfl | decide) rfl (⟨_, rfl, (show (-2147483648) ≤ (0 : Int32).toInt from (by decide)), (show (0 : Int32).toInt ≤ 2147483647 from (by decide))⟩) dX13_house_2 (fun F H locs hT v34761 h1v34761 h2v34761 => ?_)
  have pf0 := (h1v34761 _ _ (Or.inr (by decide))).trans pf0
  have hfr : (∀ b j : Nat, (tag b ≠ 46 ∨ j ≠ 0) → (tag b ≠ 46 ∨ j ≠ 1) → (tag b ≠ 46 ∨ j ≠ 2) → fld F b j = fld Fo b j) ∧ (∀ b j : Nat, elm F b j = elm Fo b j) := ⟨fun b j n46_0 n46_1 n46_2 => (h1v34761 b j (fr_ne g0 n46_0)).trans (hfr.1 b j n46_0 n46_1 n46_2), fun b j  => (h2v34761 b j).trans (hfr.2 b j )⟩
  refine lv_aload_n hx hb dX13_house_5 rfl (lv_at hl 0 rfl) ?_
  refine lv_iload_n hx hb dX13_house_6 rfl (lv_at hl 1 rfl) ?_
  refine t_cVi (n := 1) (C := RX13) (T := TX13) (N := 37) (As := [.int p1]) (rest := []) X hT (km116_X13_isHouse l G tag L F hT.2.2.2 p0 p1 m0 g0 pf0) m0 g0 rfl rfl qw_796 qw_797 qw_798 qw_5 qw_799 ⟨rfl, by decide +kernel, by decide +kernel, by decide +kernel⟩ ⟨Nat.le_of_ble_eq_true rfl, Nat.le_of_ble_eq_true rfl⟩ hl rfl rfl (Nat.le_of_ble_eq_true rfl) dX13_house_7 ⟨Nat.le_of_ble_eq_true rfl, Nat.le_of_ble_eq_true rfl⟩ (fun z34762 F9 H locs hT hz34762 => ?_)
  obtain ⟨fz34762, hz34762⟩ := hz34762
  rw [fz34762] at hT
  refine lv_if_eq (tgt := 23) hx hb dX13_house_10 (by decide) (fun c34763 => ?_) (fun c34763 => ?_)
  · have w34764 := cv_eq (rfl : z34762.toInt = z34762.toInt) (by decide : (0 : Int32).toInt = 0) c34763
    refine lv_aload_n hx hb dX13_house_23 rfl (lv_at hl 0 rfl) ?_
    refine lv_iconst (v := 1) hx hb dX13_house_24 (by decide) ?_
    refine t_cVi (n := 1) (C := RX13) (T := TX13) (N := 37) (As := [.int 1]) (rest := []) X hT (km88_X13_refused l G tag L F hT.2.2.2 p0 1 m0 g0) m0 g0 rfl rfl qw_484 qw_485 qw_486 qw_5 qw_487 ⟨rfl, by decide +kernel, by decide +kernel, by decide +kernel⟩ ⟨Nat.le_of_ble_eq_true rfl, Nat.le_of_ble_eq_true rfl⟩ hl rfl rfl (Nat.le_of_ble_eq_true rfl) dX13_house_25 ⟨Nat.le_of_ble_eq_true rfl, Nat.le_of_ble_eq_true rfl⟩ (fun z34765 F H locs hT hz34765 => ?_)
    obtain ⟨hz34765, yz34765⟩ := hz34765
    have pf0 := (yz34765.1 _ 3 (Or.inr (by decide)) (Or.inr (by decide))).trans pf0
    have v34761 := (yz34765.1 _ 0 (Or.inr (by decide)) (Or.inr (by decide))).trans v34761
    have hfr : (∀ b j : Nat, (tag b ≠ 46 ∨ j ≠ 0) → (tag b ≠ 46 ∨ j ≠ 1) → (tag b ≠ 46 ∨ j ≠ 2) → fld F b j = fld Fo b j) ∧ (∀ b j : Nat, elm F b j = elm Fo b j) := ⟨fun b j n46_0 n46_1 n46_2 => (yz34765.1 b j n46_1 n46_2).trans (hfr.1 b j n46_0 n46_1 n46_2), fun b j  => (yz34765.2 b j ).trans (hfr.2 b j )⟩
    exact t_iret hQ X hT (⟨rg_all _, hfr⟩) (Nat.le_of_ble_eq_true rfl) (Nat.le_of_ble_eq_true rfl) dX13_house_28
  · have w34766 := cv_ne (rfl : z34762.toInt = z34762.toInt) (by decide : (0 : Int32).toInt = 0) c34763
    exfalso
    omega
theorem kp_X13_house (l : Launch) (G : KG) (tag : Nat → Nat) (L : List Nat) (Fo : Nat → va_E) (ho : okT G ttC tag L Fo) (p0 : Nat) (p1 : Int32) (p2 : Int32) (m0 : p0 ∈ L) (g0 : tag p0 = 46) : TMi l yX13_house cX13_house 3 (some .int) { frames := 5, cells := 0, slots := 0, locals := 121 } G ttC tag L Fo [.ref p0, .int p1, .int p2] (fun r F1 => ((-2147483648) ≤ r.toInt ∧ r.toInt ≤ 2147483647) ∧ ((∀ b j : Nat, (tag b ≠ 46 ∨ j ≠ 0) → (tag b ≠ 46 ∨ j ≠ 1) → (tag b ≠ 46 ∨ j ≠ 2) → fld F1 b j = fld Fo b j) ∧ (∀ b j : Nat, elm F1 b j = elm Fo b j))) := by
  rcases t_fldn ho m0 g0 rfl 3 rfl with h9 | ⟨b9, h9, m9, t9⟩
  · exact km117_X13_house l G tag L Fo ho p0 p1 p2  m0 g0 h9 
  · exact km115_X13_house l G tag L Fo ho p0 p1 p2 b9  m0 g0 m9 (tg_of t9) h9 
set_option maxHeartbeats 4000000 in
set_option maxRecDepth 100000 in
theorem km119_X13_isSkin (l : Launch) (G : KG) (tag : Nat → Nat) (L : List Nat) (F : Nat → va_E) (ho : okT G ttC tag L F) (p0 : Nat) (p1 : Int32) (p2 : Int32) (x0 : Nat) (m0 : p0 ∈ L) (g0 : tag p0 = 46) (mx0 : x0 ∈ L) (gx0 : tag x0 = 45) (pf0 : fld F p0 3 = .ref x0) : TMi l yX13_isSkin cX13_isSkin 3 (some .boolean) { frames := 1, cells := 0, slots := 0, locals := 21 } G ttC tag L F [.ref p0, .int p1, .int p2] (fun r F1 => F1 = F ∧ ((0 ≤ r.toInt ∧ r.toInt ≤ 1) ∧ (r.toInt ≠ 0 → (0 ≤ p1.toInt ∧ p1.toInt ≤ 3) ∧ (1 ≤ p2.toInt ∧ p2.toInt ≤ 6)))) := by
  refine t_bodyi (y := yX13_isSkin) (cd := cX13_isSkin) (mL := 3) (rt := (some .boolean)) (rm := { frames := 1, cells := 0, slots := 0, locals := 21 }) (av := [.ref p0, .int p1, .int p2]) (by decide) (Nat.le_of_ble_eq_true rfl) ho ?_
  intro p e s m args below meth c ls A Q hQ X hT hl
  have hx := X.1.1
  have hb := X.1.2.1
  have hl : lv_has ls 3 [(0, .ref p0), (1, .int p1), (2, .int p2)] := hl
  have rp1 := rg_all p1
  have rp2 := rg_all p2
  refine lv_aload_n hx hb dX13_isSkin_0 rfl (lv_at hl 0 rfl) ?_
  refine lv_iload_n hx hb dX13_isSkin_1 rfl (lv_at hl 1 rfl) ?_
  refine t_cVi (n := 1) (C := RX13) (T := TX13) (N := 37) (As := [.int p1]) (rest := []) X hT (km107_X13_isHouse l G tag L F hT.2.2.2 p0 p1 x0 m0 g0 mx0 gx0 pf0) m0 g0 rfl rfl qw_796 qw_797 qw_798 qw_5 qw_799 ⟨rfl, by decide +kernel, by decide +kernel, by decide +kernel⟩ ⟨Nat.le_of_ble_eq_true rfl, Nat.le_of_ble_eq_true rfl⟩ hl rfl rfl (Nat.le_of_ble_eq_true rfl) dX13_isSkin_2 ⟨Nat.le_of_ble_eq_true rfl, Nat.le_of_ble_eq_true rfl⟩ (fun z34933 F9 H locs hT hz34933 => ?_)
  obtain ⟨fz34933, hz34933⟩ := hz34933
  rw [fz34933] at hT
  obtain ⟨hz34933, iz34933⟩ := hz34933
  refine lv_if_eq (tgt := 29) hx hb dX13_isSkin_5 (by decide) (fun c34934 => ?_) (fun c34934 => ?_)
  · have w34935 := cv_eq (rfl : z34933.toInt = z34933.toInt) (by decide : (0 : Int32).toInt = 0) c34934
    refine lv_iconst (v := 0) hx hb dX13_isSkin_29 (by decide) ?_
    have k34936 : (0 : Int32).toInt = 0 := by decide
    exact t_zret hQ X hT (by decide) (⟨rfl, ⟨(by decide), fun h => absurd (by decide) h⟩⟩) (Nat.le_of_ble_eq_true rfl) (Nat.le_of_ble_eq_true rfl) dX13_isSkin_30
  · have w34937 := cv_ne (rfl : z34933.toInt = z34933.toInt) (by decide : (0 : Int32).toInt = 0) c34934
    have w34938 := (fun h => (iz34933 h)) (by omega)
    refine lv_iload_n hx hb dX13_isSkin_8 rfl (lv_at hl 2 rfl) ?_
    refine lv_iconst (v := 1) hx hb dX13_isSkin_9 (by decide) ?_
    refine lv_icmp_lt (tgt := 29) hx hb dX13_isSkin_10 (by decide) (fun c34939 => ?_) (fun c34939 => ?_)
    · have w34940 := cv_lt (rfl : p2.toInt = p2.toInt) (by decide : (1 : Int32).toInt = 1) c34939
      refine lv_iconst (v := 0) hx hb dX13_isSkin_29 (by decide) ?_
      have k34941 : (0 : Int32).toInt = 0 := by decide
      exact t_zret hQ X hT (by decide) (⟨rfl, ⟨(by decide), fun h => absurd (by decide) h⟩⟩) (Nat.le_of_ble_eq_true rfl) (Nat.le_of_ble_eq_true rfl) dX13_isSkin_30
    · have w34942 := cv_nlt (rfl : p2.toInt = p2.toInt) (by decide : (1 : Int32).toInt = 1) c34939
      refine lv_iload_n hx hb dX13_isSkin_13 rfl (lv_at hl 2 rfl) ?_
      refine lv_aload_n hx hb dX13_isSkin_14 rfl (lv_at hl 0 rfl) ?_
      refine t_get (C := RX13) (T := TX13) (N := 37) X hT m0 g0 rfl rfl 16 (by decide) qw_112 inlX13 rfl dX13_isSkin_15 (fun v34943 hv34943 ov34943 => ?_)
      obtain ⟨b34944, rfl, mb34944, gb34944⟩ := okV_r ov34943
      have gb34944 : tag b34944 = 37 := tg_of gb34944
      refine lv_iconst (v := 0) hx hb dX13_isSkin_18 (by decide) ?_
      refine lv_iload_n hx hb dX13_isSkin_19 rfl (lv_at hl 1 rfl) ?_
      refine lv_iadd hx hb dX13_isSkin_20 ?_
      refine lv_topi (fun z34945 ez34945 => ?_)
      obtain rfl : p1 = z34945 := (ar_zadd ez34945).symm
      refine t_ild X hT mb34944 gb34944 rfl (by omega) dX13_isSkin_21 (fun z34946 vz34946 rz34946 => ?_)
      have rz34946 := row_ml (by omega) rz34946
      refine lv_icmp_gt (tgt := 29) hx hb dX13_isSkin_22 (by decide) (fun c34947 => ?_) (fun c34947 => ?_)
      · have w34948 := cv_lt (rfl : z34946.toInt = z34946.toInt) (rfl : p2.toInt = p2.toInt) c34947
        refine lv_iconst (v := 0) hx hb dX13_isSkin_29 (by decide) ?_
        have k34949 : (0 : Int32).toInt = 0 := by decide
        exact t_zret hQ X hT (by decide) (⟨rfl, ⟨(by decide), fun h => absurd (by decide) h⟩⟩) (Nat.le_of_ble_eq_true rfl) (Nat.le_of_ble_eq_true rfl) dX13_isSkin_30
      · have w34950 := cv_nlt (rfl : z34946.toInt = z34946.toInt) (rfl : p2.toInt = p2.toInt) c34947
        refine lv_iconst (v := 1) hx hb dX13_isSkin_25 (by decide) ?_
        refine lv_goto (tgt := 30) hx hb dX13_isSkin_26 (by decide) ?_
        have k34951 : (1 : Int32).toInt = 1 := by decide
        exact t_zret hQ X hT (by decide) (⟨rfl, ⟨(by decide), fun _ => ⟨by omega, by omega⟩⟩⟩) (Nat.le_of_ble_eq_true rfl) (Nat.le_of_ble_eq_true rfl) dX13_isSkin_30
set_option maxHeartbeats 4000000 in
set_option maxRecDepth 100000 in
theorem km120_X13_skin (l : Launch) (G : KG) (tag : Nat → Nat) (L : List Nat) (Fo : Nat → va_E) (ho : okT G ttC tag L Fo) (p0 : Nat) (p1 : Int32) (p2 : Int32) (p3 : Int32) (x0 : Nat) (m0 : p0 ∈ L) (g0 : tag p0 = 46) (mx0 : x0 ∈ L) (gx0 : tag x0 = 45) (pf0 : fld Fo p0 3 = .ref x0) : TMi l yX13_skin cX13_skin 4 (some .int) { frames := 2, cells := 0, slots := 0, locals := 43 } G ttC tag L Fo [.ref p0, .int p1, .int p2, .int p3] (fun r F1 => ((-2147483648) ≤ r.toInt ∧ r.toInt ≤ 2147483647) ∧ ((∀ b j : Nat, (tag b ≠ 46 ∨ j ≠ 0) → (tag b ≠ 46 ∨ j ≠ 1) → (tag b ≠ 46 ∨ j ≠ 2) → fld F1 b j = fld Fo b j) ∧ (∀ b j : Nat, elm F1 b j = elm Fo b j))) := by
  refine t_bodyi (y := yX13_skin) (cd := cX13_skin) (mL := 4) (rt := (some .int)) (rm := { frames := 2, cells := 0, slots := 0, locals := 43 }) (av := [.ref p0, .int p1, .int p2, .int p3]) (by decide) (Nat.le_of_ble_eq_true rfl) ho ?_
  intro p e s m args below meth c ls A Q hQ X hT hl
  have hx := X.1.1
  have hb := X.1.2.1
  have hl : lv_has ls 4 [(0, .ref p0), (1, .int p1), (2, .int p2), (3, .int p3)] := hl
  have rp1 := rg_all p1
  have rp2 := rg_all p2
  have rp3 := rg_all p3
  obtain ⟨F, hFo⟩ : ∃ F : Nat → va_E, F = Fo := ⟨_, rfl⟩
  rw [← hFo] at hT pf0
  have hfr : (∀ b j : Nat, (tag b ≠ 46 ∨ j ≠ 0) → (tag b ≠ 46 ∨ j ≠ 1) → (tag b ≠ 46 ∨ j ≠ 2) → fld F b j = fld Fo b j) ∧ (∀ b j : Nat, elm F b j = elm Fo b j) := by
    rw [hFo]
    exact ⟨by intros; rfl, by intros; rfl⟩
  refine lv_aload_n hx hb dX13_skin_0 rfl (lv_at hl 0 rfl) ?_
  refine lv_iconst (v := 0) hx hb dX13_skin_1 (by decide) ?_
  refine t_put (C := RX13) (T := TX13) (N := 37) (v := .int 0) X hT m0 g0 rfl tyX13 tyX13_ok nmX13 rfl 0 (by decide) qw_140 inlX13 rfl (by first | rfl | decide) (by first | rfl | decide) rfl (⟨_, rfl, (show (-2147483648) ≤ (0 : Int32).toInt from (by decide)), (show (0 : Int32).toInt ≤ 2147483647 from (by decide))⟩) dX13_skin_2 (fun F H locs hT v35182 h1v35182 h2v35182 => ?_)
  have pf0 := (h1v35182 _ _ (Or.inr (by decide))).trans pf0
  have hfr : (∀ b j : Nat, (tag b ≠ 46 ∨ j ≠ 0) → (tag b ≠ 46 ∨ j ≠ 1) → (tag b ≠ 46 ∨ j ≠ 2) → fld F b j = fld Fo b j) ∧ (∀ b j : Nat, elm F b j = elm Fo b j) := ⟨fun b j n46_0 n46_1 n46_2 => (h1v35182 b j (fr_ne g0 n46_0)).trans (hfr.1 b j n46_0 n46_1 n46_2), fun b j  => (h2v35182 b j).trans (hfr.2 b j )⟩
  refine lv_aload_n hx hb dX13_skin_5 rfl (lv_at hl 0 rfl) ?_
  refine lv_iload_n hx hb dX13_skin_6 rfl (lv_at hl 1 rfl) ?_
  refine lv_iload_n hx hb dX13_skin_7 rfl (lv_at hl 2 rfl) ?_
  refine t_cVi (n := 2) (C := RX13) (T := TX13) (N := 37) (As := [.int p1, .int p2]) (rest := []) X hT (km119_X13_isSkin l G tag L F hT.2.2.2 p0 p1 p2 x0 m0 g0 mx0 gx0 pf0) m0 g0 rfl rfl qw_836 qw_837 qw_838 qw_5 qw_839 ⟨rfl, by decide +kernel, by decide +kernel, by decide +kernel⟩ ⟨Nat.le_of_ble_eq_true rfl, Nat.le_of_ble_eq_true rfl⟩ hl rfl rfl (Nat.le_of_ble_eq_true rfl) dX13_skin_8 ⟨Nat.le_of_ble_eq_true rfl, Nat.le_of_ble_eq_true rfl⟩ (fun z35183 F9 H locs hT hz35183 => ?_)
  obtain ⟨fz35183, hz35183⟩ := hz35183
  rw [fz35183] at hT
  obtain ⟨hz35183, iz35183⟩ := hz35183
  refine lv_if_eq (tgt := 42) hx hb dX13_skin_11 (by decide) (fun c35184 => ?_) (fun c35184 => ?_)
  · have w35185 := cv_eq (rfl : z35183.toInt = z35183.toInt) (by decide : (0 : Int32).toInt = 0) c35184
    refine lv_aload_n hx hb dX13_skin_42 rfl (lv_at hl 0 rfl) ?_
    refine lv_iconst (v := 1) hx hb dX13_skin_43 (by decide) ?_
    refine t_cVi (n := 1) (C := RX13) (T := TX13) (N := 37) (As := [.int 1]) (rest := []) X hT (km88_X13_refused l G tag L F hT.2.2.2 p0 1 m0 g0) m0 g0 rfl rfl qw_484 qw_485 qw_486 qw_5 qw_487 ⟨rfl, by decide +kernel, by decide +kernel, by decide +kernel⟩ ⟨Nat.le_of_ble_eq_true rfl, Nat.le_of_ble_eq_true rfl⟩ hl rfl rfl (Nat.le_of_ble_eq_true rfl) dX13_skin_44 ⟨Nat.le_of_ble_eq_true rfl, Nat.le_of_ble_eq_true rfl⟩ (fun z35186 F H locs hT hz35186 => ?_)
    obtain ⟨hz35186, yz35186⟩ := hz35186
    have pf0 := (yz35186.1 _ 3 (Or.inr (by decide)) (Or.inr (by decide))).trans pf0
    have v35182 := (yz35186.1 _ 0 (Or.inr (by decide)) (Or.inr (by decide))).trans v35182
    have hfr : (∀ b j : Nat, (tag b ≠ 46 ∨ j ≠ 0) → (tag b ≠ 46 ∨ j ≠ 1) → (tag b ≠ 46 ∨ j ≠ 2) → fld F b j = fld Fo b j) ∧ (∀ b j : Nat, elm F b j = elm Fo b j) := ⟨fun b j n46_0 n46_1 n46_2 => (yz35186.1 b j n46_1 n46_2).trans (hfr.1 b j n46_0 n46_1 n46_2), fun b j  => (yz35186.2 b j ).trans (hfr.2 b j )⟩
    exact t_iret hQ X hT (⟨rg_all _, hfr⟩) (Nat.le_of_ble_eq_true rfl) (Nat.le_of_ble_eq_true rfl) dX13_skin_47
  · have w35187 := cv_ne (rfl : z35183.toInt = z35183.toInt) (by decide : (0 : Int32).toInt = 0) c35184
    have w35188 := (fun h => (iz35183 h).1) (by omega)
    have w35189 := (fun h => (iz35183 h).2) (by omega)
    refine lv_iload_n hx hb dX13_skin_14 rfl (lv_at hl 3 rfl) ?_
    refine lv_iconst (v := 0) hx hb dX13_skin_15 (by decide) ?_
    refine lv_bipush (v := 7) hx hb dX13_skin_16 (by decide) ?_
    refine t_cSi (n := 3) (As := [.int p3, .int 0, .int 7]) (rest := []) X hT (km19_X13_within l G tag L F hT.2.2.2 p3 0 7 ) qw_568 qw_569 qw_5 qw_570 ⟨by decide +kernel, by decide +kernel, by decide +kernel⟩ ⟨Nat.le_of_ble_eq_true rfl, Nat.le_of_ble_eq_true rfl⟩ hl rfl rfl (Nat.le_of_ble_eq_true rfl) dX13_skin_18 ⟨Nat.le_of_ble_eq_true rfl, Nat.le_of_ble_eq_true rfl⟩ (fun z35190 F9 H locs hT hz35190 => ?_)
    obtain ⟨fz35190, hz35190, xz35190_0⟩ := hz35190
    rw [fz35190] at hT
    have k35191 : (0 : Int32).toInt = 0 := by decide
    have k35192 : (7 : Int32).toInt = 7 := by decide
    refine lv_if_eq (tgt := 42) hx hb dX13_skin_21 (by decide) (fun c35193 => ?_) (fun c35193 => ?_)
    · have w35194 := cv_eq (rfl : z35190.toInt = z35190.toInt) (by decide : (0 : Int32).toInt = 0) c35193
      refine lv_aload_n hx hb dX13_skin_42 rfl (lv_at hl 0 rfl) ?_
      refine lv_iconst (v := 1) hx hb dX13_skin_43 (by decide) ?_
      refine t_cVi (n := 1) (C := RX13) (T := TX13) (N := 37) (As := [.int 1]) (rest := []) X hT (km88_X13_refused l G tag L F hT.2.2.2 p0 1 m0 g0) m0 g0 rfl rfl qw_484 qw_485 qw_486 qw_5 qw_487 ⟨rfl, by decide +kernel, by decide +kernel, by decide +kernel⟩ ⟨Nat.le_of_ble_eq_true rfl, Nat.le_of_ble_eq_true rfl⟩ hl rfl rfl (Nat.le_of_ble_eq_true rfl) dX13_skin_44 ⟨Nat.le_of_ble_eq_true rfl, Nat.le_of_ble_eq_true rfl⟩ (fun z35195 F H locs hT hz35195 => ?_)
      obtain ⟨hz35195, yz35195⟩ := hz35195
      have pf0 := (yz35195.1 _ 3 (Or.inr (by decide)) (Or.inr (by decide))).trans pf0
      have v35182 := (yz35195.1 _ 0 (Or.inr (by decide)) (Or.inr (by decide))).trans v35182
      have hfr : (∀ b j : Nat, (tag b ≠ 46 ∨ j ≠ 0) → (tag b ≠ 46 ∨ j ≠ 1) → (tag b ≠ 46 ∨ j ≠ 2) → fld F b j = fld Fo b j) ∧ (∀ b j : Nat, elm F b j = elm Fo b j) := ⟨fun b j n46_0 n46_1 n46_2 => (yz35195.1 b j n46_1 n46_2).trans (hfr.1 b j n46_0 n46_1 n46_2), fun b j  => (yz35195.2 b j ).trans (hfr.2 b j )⟩
      exact t_iret hQ X hT (⟨rg_all _, hfr⟩) (Nat.le_of_ble_eq_true rfl) (Nat.le_of_ble_eq_true rfl) dX13_skin_47
    · have w35196 := cv_ne (rfl : z35190.toInt = z35190.toInt) (by decide : (0 : Int32).toInt = 0) c35193
      have w35197 := xz35190_0 (by omega)
      refine lv_aload_n hx hb dX13_skin_24 rfl (lv_at hl 0 rfl) ?_
      refine lv_aload_n hx hb dX13_skin_25 rfl (lv_at hl 0 rfl) ?_
      refine t_get (C := RX13) (T := TX13) (N := 37) X hT m0 g0 rfl rfl 16 (by decide) qw_112 inlX13 rfl dX13_skin_26 (fun v35198 hv35198 ov35198 => ?_)
      obtain ⟨b35199, rfl, mb35199, gb35199⟩ := okV_r ov35198
      have gb35199 : tag b35199 = 37 := tg_of gb35199
      refine lv_iload_n hx hb dX13_skin_29 rfl (lv_at hl 1 rfl) ?_
      refine lv_iload_n hx hb dX13_skin_30 rfl (lv_at hl 2 rfl) ?_
      refine lv_iload_n hx hb dX13_skin_31 rfl (lv_at hl 3 rfl) ?_
      refine t_cSi (n := 3) (As := [.int p1, .int p2, .int p3]) (rest := [.ref b35199, .ref p0]) X hT (km49_X13_part l G tag L F hT.2.2.2 p1 p2 p3 (by omega) (by omega) (by omega)) qw_661 qw_662 qw_5 qw_663 ⟨by decide +kernel, by decide +kernel, by decide +kernel⟩ ⟨Nat.le_of_ble_eq_true rfl, Nat.le_of_ble_eq_true rfl⟩ hl rfl rfl (Nat.le_of_ble_eq_true rfl) dX13_skin_32 ⟨Nat.le_of_ble_eq_true rfl, Nat.le_of_ble_eq_true rfl⟩ (fun z35200 F9 H locs hT hz35200 => ?_)
      obtain ⟨fz35200, hz35200, xz35200_0⟩ := hz35200
      rw [fz35200] at hT
      refine t_ild X hT mb35199 gb35199 rfl (by omega) dX13_skin_35 (fun z35201 vz35201 rz35201 => ?_)
      have oz35201 := rz35201
      have rz35201 := rg_all z35201
      refine t_cVi (n := 1) (C := RX13) (T := TX13) (N := 37) (As := [.int z35201]) (rest := []) X hT (km93_X13_good l G tag L F hT.2.2.2 p0 z35201 m0 g0) m0 g0 rfl rfl qw_687 qw_688 qw_689 qw_5 qw_690 ⟨rfl, by decide +kernel, by decide +kernel, by decide +kernel⟩ ⟨Nat.le_of_ble_eq_true rfl, Nat.le_of_ble_eq_true rfl⟩ hl rfl rfl (Nat.le_of_ble_eq_true rfl) dX13_skin_36 ⟨Nat.le_of_ble_eq_true rfl, Nat.le_of_ble_eq_true rfl⟩ (fun z35202 F H locs hT hz35202 => ?_)
      obtain ⟨hz35202, yz35202⟩ := hz35202
      have pf0 := (yz35202.1 _ 3 (Or.inr (by decide)) (Or.inr (by decide))).trans pf0
      have v35182 := (yz35202.1 _ 0 (Or.inr (by decide)) (Or.inr (by decide))).trans v35182
      have hv35198 := (yz35202.1 _ 16 (Or.inr (by decide)) (Or.inr (by decide))).trans hv35198
      have vz35201 := (yz35202.2 _ _ ).trans vz35201
      have hfr : (∀ b j : Nat, (tag b ≠ 46 ∨ j ≠ 0) → (tag b ≠ 46 ∨ j ≠ 1) → (tag b ≠ 46 ∨ j ≠ 2) → fld F b j = fld Fo b j) ∧ (∀ b j : Nat, elm F b j = elm Fo b j) := ⟨fun b j n46_0 n46_1 n46_2 => (yz35202.1 b j n46_1 n46_2).trans (hfr.1 b j n46_0 n46_1 n46_2), fun b j  => (yz35202.2 b j ).trans (hfr.2 b j )⟩
      refine lv_goto (tgt := 47) hx hb dX13_skin_39 (by decide) ?_
      exact t_iret hQ X hT (⟨rg_all _, hfr⟩) (Nat.le_of_ble_eq_true rfl) (Nat.le_of_ble_eq_true rfl) dX13_skin_47
set_option maxHeartbeats 4000000 in
set_option maxRecDepth 100000 in
theorem km121_X13_isSkin (l : Launch) (G : KG) (tag : Nat → Nat) (L : List Nat) (F : Nat → va_E) (ho : okT G ttC tag L F) (p0 : Nat) (p1 : Int32) (p2 : Int32) (m0 : p0 ∈ L) (g0 : tag p0 = 46) (pf0 : fld F p0 3 = .null) : TMi l yX13_isSkin cX13_isSkin 3 (some .boolean) { frames := 1, cells := 0, slots := 0, locals := 21 } G ttC tag L F [.ref p0, .int p1, .int p2] (fun r F1 => F1 = F ∧ (0 ≤ r.toInt ∧ r.toInt ≤ 0)) := by
  refine t_bodyi (y := yX13_isSkin) (cd := cX13_isSkin) (mL := 3) (rt := (some .boolean)) (rm := { frames := 1, cells := 0, slots := 0, locals := 21 }) (av := [.ref p0, .int p1, .int p2]) (by decide) (Nat.le_of_ble_eq_true rfl) ho ?_
  intro p e s m args below meth c ls A Q hQ X hT hl
  have hx := X.1.1
  have hb := X.1.2.1
  have hl : lv_has ls 3 [(0, .ref p0), (1, .int p1), (2, .int p2)] := hl
  have rp1 := rg_all p1
  have rp2 := rg_all p2
  refine lv_aload_n hx hb dX13_isSkin_0 rfl (lv_at hl 0 rfl) ?_
  refine lv_iload_n hx hb dX13_isSkin_1 rfl (lv_at hl 1 rfl) ?_
  refine t_cVi (n := 1) (C := RX13) (T := TX13) (N := 37) (As := [.int p1]) (rest := []) X hT (km116_X13_isHouse l G tag L F hT.2.2.2 p0 p1 m0 g0 pf0) m0 g0 rfl rfl qw_796 qw_797 qw_798 qw_5 qw_799 ⟨rfl, by decide +kernel, by decide +kernel, by decide +kernel⟩ ⟨Nat.le_of_ble_eq_true rfl, Nat.le_of_ble_eq_true rfl⟩ hl rfl rfl (Nat.le_of_ble_eq_true rfl) dX13_isSkin_2 ⟨Nat.le_of_ble_eq_true rfl, Nat.le_of_ble_eq_true rfl⟩ (fun z35248 F9 H locs hT hz35248 => ?_)
  obtain ⟨fz35248, hz35248⟩ := hz35248
  rw [fz35248] at hT
  refine lv_if_eq (tgt := 29) hx hb dX13_isSkin_5 (by decide) (fun c35249 => ?_) (fun c35249 => ?_)
  · have w35250 := cv_eq (rfl : z35248.toInt = z35248.toInt) (by decide : (0 : Int32).toInt = 0) c35249
    refine lv_iconst (v := 0) hx hb dX13_isSkin_29 (by decide) ?_
    have k35251 : (0 : Int32).toInt = 0 := by decide
    exact t_zret hQ X hT (by decide) (⟨rfl, (by decide)⟩) (Nat.le_of_ble_eq_true rfl) (Nat.le_of_ble_eq_true rfl) dX13_isSkin_30
  · have w35252 := cv_ne (rfl : z35248.toInt = z35248.toInt) (by decide : (0 : Int32).toInt = 0) c35249
    exfalso
    omega
set_option maxHeartbeats 4000000 in
set_option maxRecDepth 100000 in
theorem km122_X13_skin (l : Launch) (G : KG) (tag : Nat → Nat) (L : List Nat) (Fo : Nat → va_E) (ho : okT G ttC tag L Fo) (p0 : Nat) (p1 : Int32) (p2 : Int32) (p3 : Int32) (m0 : p0 ∈ L) (g0 : tag p0 = 46) (pf0 : fld Fo p0 3 = .null) : TMi l yX13_skin cX13_skin 4 (some .int) { frames := 2, cells := 0, slots := 0, locals := 43 } G ttC tag L Fo [.ref p0, .int p1, .int p2, .int p3] (fun r F1 => ((-2147483648) ≤ r.toInt ∧ r.toInt ≤ 2147483647) ∧ ((∀ b j : Nat, (tag b ≠ 46 ∨ j ≠ 0) → (tag b ≠ 46 ∨ j ≠ 1) → (tag b ≠ 46 ∨ j ≠ 2) → fld F1 b j = fld Fo b j) ∧ (∀ b j : Nat, elm F1 b j = elm Fo b j))) := by
  refine t_bodyi (y := yX13_skin) (cd := cX13_skin) (mL := 4) (rt := (some .int)) (rm := { frames := 2, cells := 0, slots := 0, locals := 43 }) (av := [.ref p0, .int p1, .int p2, .int p3]) (by decide) (Nat.le_of_ble_eq_true rfl) ho ?_
  intro p e s m args below meth c ls A Q hQ X hT hl
  have hx := X.1.1
  have hb := X.1.2.1
  have hl : lv_has ls 4 [(0, .ref p0), (1, .int p1), (2, .int p2), (3, .int p3)] := hl
  have rp1 := rg_all p1
  have rp2 := rg_all p2
  have rp3 := rg_all p3
  obtain ⟨F, hFo⟩ : ∃ F : Nat → va_E, F = Fo := ⟨_, rfl⟩
  rw [← hFo] at hT pf0
  have hfr : (∀ b j : Nat, (tag b ≠ 46 ∨ j ≠ 0) → (tag b ≠ 46 ∨ j ≠ 1) → (tag b ≠ 46 ∨ j ≠ 2) → fld F b j = fld Fo b j) ∧ (∀ b j : Nat, elm F b j = elm Fo b j) := by
    rw [hFo]
    exact ⟨by intros; rfl, by intros; rfl⟩
  refine lv_aload_n hx hb dX13_skin_0 rfl (lv_at hl 0 rfl) ?_
  refine lv_iconst (v := 0) hx hb dX13_skin_1 (by decide) ?_
  refine t_put (C := RX13) (T := TX13) (N := 37) (v := .int 0) X hT m0 g0 rfl tyX13 tyX13_ok nmX13 rfl 0 (by decide) qw_140 inlX13 rfl (by first | rfl | decide) (by first | rfl | decide) rfl (⟨_, rfl, (show (-2147483648) ≤ (0 : Int32).toInt from (by decide)), (show (0 : Int32).toInt ≤ 2147483647 from (by decide))⟩) dX13_skin_2 (fun F H locs hT v35318 h1v35318 h2v35318 => ?_)
  have pf0 := (h1v35318 _ _ (Or.inr (by decide))).trans pf0
  have hfr : (∀ b j : Nat, (tag b ≠ 46 ∨ j ≠ 0) → (tag b ≠ 46 ∨ j ≠ 1) → (tag b ≠ 46 ∨ j ≠ 2) → fld F b j = fld Fo b j) ∧ (∀ b j : Nat, elm F b j = elm Fo b j) := ⟨fun b j n46_0 n46_1 n46_2 => (h1v35318 b j (fr_ne g0 n46_0)).trans (hfr.1 b j n46_0 n46_1 n46_2), fun b j  => (h2v35318 b j).trans (hfr.2 b j )⟩
  refine lv_aload_n hx hb dX13_skin_5 rfl (lv_at hl 0 rfl) ?_
  refine lv_iload_n hx hb dX13_skin_6 rfl (lv_at hl 1 rfl) ?_
  refine lv_iload_n hx hb dX13_skin_7 rfl (lv_at hl 2 rfl) ?_
  refine t_cVi (n := 2) (C := RX13) (T := TX13) (N := 37) (As := [.int p1, .int p2]) (rest := []) X hT (km121_X13_isSkin l G tag L F hT.2.2.2 p0 p1 p2 m0 g0 pf0) m0 g0 rfl rfl qw_836 qw_837 qw_838 qw_5 qw_839 ⟨rfl, by decide +kernel, by decide +kernel, by decide +kernel⟩ ⟨Nat.le_of_ble_eq_true rfl, Nat.le_of_ble_eq_true rfl⟩ hl rfl rfl (Nat.le_of_ble_eq_true rfl) dX13_skin_8 ⟨Nat.le_of_ble_eq_true rfl, Nat.le_of_ble_eq_true rfl⟩ (fun z35319 F9 H locs hT hz35319 => ?_)
  obtain ⟨fz35319, hz35319⟩ := hz35319
  rw [fz35319] at hT
  refine lv_if_eq (tgt := 42) hx hb dX13_skin_11 (by decide) (fun c35320 => ?_) (fun c35320 => ?_)
  · have w35321 := cv_eq (rfl : z35319.toInt = z35319.toInt) (by decide : (0 : Int32).toInt = 0) c35320
    refine lv_aload_n hx hb dX13_skin_42 rfl (lv_at hl 0 rfl) ?_
    refine lv_iconst (v := 1) hx hb dX13_skin_43 (by decide) ?_
    refine t_cVi (n := 1) (C := RX13) (T := TX13) (N := 37) (As := [.int 1]) (rest := []) X hT (km88_X13_refused l G tag L F hT.2.2.2 p0 1 m0 g0) m0 g0 rfl rfl qw_484 qw_485 qw_486 qw_5 qw_487 ⟨rfl, by decide +kernel, by decide +kernel, by decide +kernel⟩ ⟨Nat.le_of_ble_eq_true rfl, Nat.le_of_ble_eq_true rfl⟩ hl rfl rfl (Nat.le_of_ble_eq_true rfl) dX13_skin_44 ⟨Nat.le_of_ble_eq_true rfl, Nat.le_of_ble_eq_true rfl⟩ (fun z35322 F H locs hT hz35322 => ?_)
    obtain ⟨hz35322, yz35322⟩ := hz35322
    have pf0 := (yz35322.1 _ 3 (Or.inr (by decide)) (Or.inr (by decide))).trans pf0
    have v35318 := (yz35322.1 _ 0 (Or.inr (by decide)) (Or.inr (by decide))).trans v35318
    have hfr : (∀ b j : Nat, (tag b ≠ 46 ∨ j ≠ 0) → (tag b ≠ 46 ∨ j ≠ 1) → (tag b ≠ 46 ∨ j ≠ 2) → fld F b j = fld Fo b j) ∧ (∀ b j : Nat, elm F b j = elm Fo b j) := ⟨fun b j n46_0 n46_1 n46_2 => (yz35322.1 b j n46_1 n46_2).trans (hfr.1 b j n46_0 n46_1 n46_2), fun b j  => (yz35322.2 b j ).trans (hfr.2 b j )⟩
    exact t_iret hQ X hT (⟨rg_all _, hfr⟩) (Nat.le_of_ble_eq_true rfl) (Nat.le_of_ble_eq_true rfl) dX13_skin_47
  · have w35323 := cv_ne (rfl : z35319.toInt = z35319.toInt) (by decide : (0 : Int32).toInt = 0) c35320
    exfalso
    omega
theorem kp_X13_skin (l : Launch) (G : KG) (tag : Nat → Nat) (L : List Nat) (Fo : Nat → va_E) (ho : okT G ttC tag L Fo) (p0 : Nat) (p1 : Int32) (p2 : Int32) (p3 : Int32) (m0 : p0 ∈ L) (g0 : tag p0 = 46) : TMi l yX13_skin cX13_skin 4 (some .int) { frames := 2, cells := 0, slots := 0, locals := 43 } G ttC tag L Fo [.ref p0, .int p1, .int p2, .int p3] (fun r F1 => ((-2147483648) ≤ r.toInt ∧ r.toInt ≤ 2147483647) ∧ ((∀ b j : Nat, (tag b ≠ 46 ∨ j ≠ 0) → (tag b ≠ 46 ∨ j ≠ 1) → (tag b ≠ 46 ∨ j ≠ 2) → fld F1 b j = fld Fo b j) ∧ (∀ b j : Nat, elm F1 b j = elm Fo b j))) := by
  rcases t_fldn ho m0 g0 rfl 3 rfl with h9 | ⟨b9, h9, m9, t9⟩
  · exact km122_X13_skin l G tag L Fo ho p0 p1 p2 p3  m0 g0 h9 
  · exact km120_X13_skin l G tag L Fo ho p0 p1 p2 p3 b9  m0 g0 m9 (tg_of t9) h9 
set_option maxHeartbeats 4000000 in
set_option maxRecDepth 100000 in
theorem km124_X13_isDepth (l : Launch) (G : KG) (tag : Nat → Nat) (L : List Nat) (F : Nat → va_E) (ho : okT G ttC tag L F) (p0 : Nat) (p1 : Int32) (p2 : Int32) (x0 : Nat) (m0 : p0 ∈ L) (g0 : tag p0 = 46) (mx0 : x0 ∈ L) (gx0 : tag x0 = 45) (pf0 : fld F p0 3 = .ref x0) : TMi l yX13_isDepth cX13_isDepth 3 (some .boolean) { frames := 1, cells := 0, slots := 0, locals := 21 } G ttC tag L F [.ref p0, .int p1, .int p2] (fun r F1 => F1 = F ∧ ((0 ≤ r.toInt ∧ r.toInt ≤ 1) ∧ (r.toInt ≠ 0 → (0 ≤ p1.toInt ∧ p1.toInt ≤ 3) ∧ (0 ≤ p2.toInt ∧ p2.toInt ≤ 6)))) := by
  refine t_bodyi (y := yX13_isDepth) (cd := cX13_isDepth) (mL := 3) (rt := (some .boolean)) (rm := { frames := 1, cells := 0, slots := 0, locals := 21 }) (av := [.ref p0, .int p1, .int p2]) (by decide) (Nat.le_of_ble_eq_true rfl) ho ?_
  intro p e s m args below meth c ls A Q hQ X hT hl
  have hx := X.1.1
  have hb := X.1.2.1
  have hl : lv_has ls 3 [(0, .ref p0), (1, .int p1), (2, .int p2)] := hl
  have rp1 := rg_all p1
  have rp2 := rg_all p2
  refine lv_aload_n hx hb dX13_isDepth_0 rfl (lv_at hl 0 rfl) ?_
  refine lv_iload_n hx hb dX13_isDepth_1 rfl (lv_at hl 1 rfl) ?_
  refine t_cVi (n := 1) (C := RX13) (T := TX13) (N := 37) (As := [.int p1]) (rest := []) X hT (km107_X13_isHouse l G tag L F hT.2.2.2 p0 p1 x0 m0 g0 mx0 gx0 pf0) m0 g0 rfl rfl qw_796 qw_797 qw_798 qw_5 qw_799 ⟨rfl, by decide +kernel, by decide +kernel, by decide +kernel⟩ ⟨Nat.le_of_ble_eq_true rfl, Nat.le_of_ble_eq_true rfl⟩ hl rfl rfl (Nat.le_of_ble_eq_true rfl) dX13_isDepth_2 ⟨Nat.le_of_ble_eq_true rfl, Nat.le_of_ble_eq_true rfl⟩ (fun z35490 F9 H locs hT hz35490 => ?_)
  obtain ⟨fz35490, hz35490⟩ := hz35490
  rw [fz35490] at hT
  obtain ⟨hz35490, iz35490⟩ := hz35490
  refine lv_if_eq (tgt := 28) hx hb dX13_isDepth_5 (by decide) (fun c35491 => ?_) (fun c35491 => ?_)
  · have w35492 := cv_eq (rfl : z35490.toInt = z35490.toInt) (by decide : (0 : Int32).toInt = 0) c35491
    refine lv_iconst (v := 0) hx hb dX13_isDepth_28 (by decide) ?_
    have k35493 : (0 : Int32).toInt = 0 := by decide
    exact t_zret hQ X hT (by decide) (⟨rfl, ⟨(by decide), fun h => absurd (by decide) h⟩⟩) (Nat.le_of_ble_eq_true rfl) (Nat.le_of_ble_eq_true rfl) dX13_isDepth_29
  · have w35494 := cv_ne (rfl : z35490.toInt = z35490.toInt) (by decide : (0 : Int32).toInt = 0) c35491
    have w35495 := (fun h => (iz35490 h)) (by omega)
    refine lv_iload_n hx hb dX13_isDepth_8 rfl (lv_at hl 2 rfl) ?_
    refine lv_if_lt (tgt := 28) hx hb dX13_isDepth_9 (by decide) (fun c35496 => ?_) (fun c35496 => ?_)
    · have w35497 := cv_lt (rfl : p2.toInt = p2.toInt) (by decide : (0 : Int32).toInt = 0) c35496
      refine lv_iconst (v := 0) hx hb dX13_isDepth_28 (by decide) ?_
      have k35498 : (0 : Int32).toInt = 0 := by decide
      exact t_zret hQ X hT (by decide) (⟨rfl, ⟨(by decide), fun h => absurd (by decide) h⟩⟩) (Nat.le_of_ble_eq_true rfl) (Nat.le_of_ble_eq_true rfl) dX13_isDepth_29
    · have w35499 := cv_nlt (rfl : p2.toInt = p2.toInt) (by decide : (0 : Int32).toInt = 0) c35496
      refine lv_iload_n hx hb dX13_isDepth_12 rfl (lv_at hl 2 rfl) ?_
      refine lv_aload_n hx hb dX13_isDepth_13 rfl (lv_at hl 0 rfl) ?_
      refine t_get (C := RX13) (T := TX13) (N := 37) X hT m0 g0 rfl rfl 16 (by decide) qw_112 inlX13 rfl dX13_isDepth_14 (fun v35500 hv35500 ov35500 => ?_)
      obtain ⟨b35501, rfl, mb35501, gb35501⟩ := okV_r ov35500
      have gb35501 : tag b35501 = 37 := tg_of gb35501
      refine lv_iconst (v := 0) hx hb dX13_isDepth_17 (by decide) ?_
      refine lv_iload_n hx hb dX13_isDepth_18 rfl (lv_at hl 1 rfl) ?_
      refine lv_iadd hx hb dX13_isDepth_19 ?_
      refine lv_topi (fun z35502 ez35502 => ?_)
      obtain rfl : p1 = z35502 := (ar_zadd ez35502).symm
      refine t_ild X hT mb35501 gb35501 rfl (by omega) dX13_isDepth_20 (fun z35503 vz35503 rz35503 => ?_)
      have rz35503 := row_ml (by omega) rz35503
      refine lv_icmp_gt (tgt := 28) hx hb dX13_isDepth_21 (by decide) (fun c35504 => ?_) (fun c35504 => ?_)
      · have w35505 := cv_lt (rfl : z35503.toInt = z35503.toInt) (rfl : p2.toInt = p2.toInt) c35504
        refine lv_iconst (v := 0) hx hb dX13_isDepth_28 (by decide) ?_
        have k35506 : (0 : Int32).toInt = 0 := by decide
        exact t_zret hQ X hT (by decide) (⟨rfl, ⟨(by decide), fun h => absurd (by decide) h⟩⟩) (Nat.le_of_ble_eq_true rfl) (Nat.le_of_ble_eq_true rfl) dX13_isDepth_29
      · have w35507 := cv_nlt (rfl : z35503.toInt = z35503.toInt) (rfl : p2.toInt = p2.toInt) c35504
        refine lv_iconst (v := 1) hx hb dX13_isDepth_24 (by decide) ?_
        refine lv_goto (tgt := 29) hx hb dX13_isDepth_25 (by decide) ?_
        have k35508 : (1 : Int32).toInt = 1 := by decide
        exact t_zret hQ X hT (by decide) (⟨rfl, ⟨(by decide), fun _ => ⟨by omega, by omega⟩⟩⟩) (Nat.le_of_ble_eq_true rfl) (Nat.le_of_ble_eq_true rfl) dX13_isDepth_29
set_option maxHeartbeats 4000000 in
set_option maxRecDepth 100000 in
theorem km125_X13_warmth (l : Launch) (G : KG) (tag : Nat → Nat) (L : List Nat) (F : Nat → va_E) (ho : okT G ttC tag L F) (p0 : Nat) (p1 : Int32) (p2 : Int32) (x0 : Nat) (m0 : p0 ∈ L) (g0 : tag p0 = 46) (h1 : 0 ≤ p1.toInt ∧ p1.toInt ≤ 3) (mx0 : x0 ∈ L) (gx0 : tag x0 = 45) (pf0 : fld F p0 3 = .ref x0) : TMi l yX13_warmth cX13_warmth 5 (some .int) { frames := 1, cells := 0, slots := 0, locals := 22 } G ttC tag L F [.ref p0, .int p1, .int p2] (fun r F1 => F1 = F ∧ ((-2147483648) ≤ r.toInt ∧ r.toInt ≤ 2147483647)) := by
  refine t_bodyi (y := yX13_warmth) (cd := cX13_warmth) (mL := 5) (rt := (some .int)) (rm := { frames := 1, cells := 0, slots := 0, locals := 22 }) (av := [.ref p0, .int p1, .int p2]) (by decide) (Nat.le_of_ble_eq_true rfl) ho ?_
  intro p e s m args below meth c ls A Q hQ X hT hl
  have hx := X.1.1
  have hb := X.1.2.1
  have hl : lv_has ls 5 [(0, .ref p0), (1, .int p1), (2, .int p2)] := hl
  have rp2 := rg_all p2
  have K13 : ∀ (n : Nat) (z35883 : Int32) (z35884 : Int32) (H : Heap) (locs : List Loc) (ls : Array Slot), (7 - z35884.toInt < (n : Int)) → (1 ≤ z35884.toInt ∧ z35884.toInt ≤ 2147483647) → TH G ttC A s tag L F H locs → lv_has ls 5 [(0, .ref p0), (1, .int p1), (2, .int p2), (3, .int z35883), (4, .int z35884)] → W p l e { frames := 1, cells := 0, slots := 0, locals := 22 } s m args below meth c H locs 0 0 Q (F0 m 13 ls []) := by
    intro n
    induction n with
    | zero =>
      intro z35883 z35884 H locs ls hn rz35884 hT hl
      have rz35883 := rg_all z35883
      refine lv_iload hx hb dX13_warmth_13 (lv_at hl 4 rfl) ?_
      refine lv_aload_n hx hb dX13_warmth_15 rfl (lv_at hl 0 rfl) ?_
      refine t_get (C := RX13) (T := TX13) (N := 37) X hT m0 g0 rfl rfl 16 (by decide) qw_112 inlX13 rfl dX13_warmth_16 (fun v35885 hv35885 ov35885 => ?_)
      obtain ⟨b35886, rfl, mb35886, gb35886⟩ := okV_r ov35885
      have gb35886 : tag b35886 = 37 := tg_of gb35886
      refine lv_iconst (v := 0) hx hb dX13_warmth_19 (by decide) ?_
      refine lv_iload_n hx hb dX13_warmth_20 rfl (lv_at hl 1 rfl) ?_
      refine lv_iadd hx hb dX13_warmth_21 ?_
      refine lv_topi (fun z35887 ez35887 => ?_)
      obtain rfl : p1 = z35887 := (ar_zadd ez35887).symm
      refine t_ild X hT mb35886 gb35886 rfl (by omega) dX13_warmth_22 (fun z35888 vz35888 rz35888 => ?_)
      have rz35888 := row_ml (by omega) rz35888
      refine lv_icmp_gt (tgt := 74) hx hb dX13_warmth_23 (by decide) (fun c35889 => ?_) (fun c35889 => ?_)
      · have w35890 := cv_lt (rfl : z35888.toInt = z35888.toInt) (rfl : z35884.toInt = z35884.toInt) c35889
        refine lv_iload_n hx hb dX13_warmth_74 rfl (lv_at hl 3 rfl) ?_
        exact t_iret hQ X hT (⟨rfl, rg_all _⟩) (Nat.le_of_ble_eq_true rfl) (Nat.le_of_ble_eq_true rfl) dX13_warmth_75
      · have w35891 := cv_nlt (rfl : z35888.toInt = z35888.toInt) (rfl : z35884.toInt = z35884.toInt) c35889
        exfalso
        omega
    | succ n ih13 =>
      intro z35883 z35884 H locs ls hn rz35884 hT hl
      have rz35883 := rg_all z35883
      have K66 : ∀ (z35893 : Int32) (z35894 : Int32) (H : Heap) (locs : List Loc) (ls : Array Slot), (1 ≤ z35884.toInt ∧ z35884.toInt ≤ 6) → TH G ttC A s tag L F H locs → lv_has ls 5 [(0, .ref p0), (1, .int p1), (2, .int p2), (3, .int z35883), (4, .int z35884)] → W p l e { frames := 1, cells := 0, slots := 0, locals := 22 } s m args below meth c H locs 0 0 Q (F0 m 66 ls [.int z35893, .int z35894]) := by
        intro z35893 z35894 H locs ls r9s35892 hT hl
        have rz35893 := rg_all z35893
        have rz35894 := rg_all z35894
        refine lv_iadd hx hb dX13_warmth_66 ?_
        refine lv_topi (fun z35895 ez35895 => ?_)
        have rz35895 := rg_all z35895
        refine lv_istore_n (lv' := [(3, .int z35895), (0, .ref p0), (1, .int p1), (2, .int p2), (4, .int z35884)]) hx hb dX13_warmth_67 rfl hl (by decide) rfl (fun ls hl => ?_)
        obtain ⟨z35896, ez35896⟩ : ∃ y : Int32, y = z35884 + 1 := ⟨_, rfl⟩
        have hz35896 : z35896.toInt = z35884.toInt + 1 := ar_add ez35896 rfl (by decide : (1 : Int32).toInt = 1) (by omega) (by omega)
        refine lv_iinc (v := z35896) (lv' := [(4, .int z35896), (3, .int z35895), (0, .ref p0), (1, .int p1), (2, .int p2)]) hx hb dX13_warmth_68 hl (k := 4) rfl (by rw [ez35896]; rfl) (by decide) rfl (fun ls hl => ?_)
        refine lv_goto (tgt := 13) hx hb dX13_warmth_71 (by decide) ?_
        exact ih13 z35895 z35896 _ _ _ (by omega) (by omega) hT  (lv_sub hl [2, 3, 4, 1, 0] rfl)
      refine lv_iload hx hb dX13_warmth_13 (lv_at hl 4 rfl) ?_
      refine lv_aload_n hx hb dX13_warmth_15 rfl (lv_at hl 0 rfl) ?_
      refine t_get (C := RX13) (T := TX13) (N := 37) X hT m0 g0 rfl rfl 16 (by decide) qw_112 inlX13 rfl dX13_warmth_16 (fun v35897 hv35897 ov35897 => ?_)
      obtain ⟨b35898, rfl, mb35898, gb35898⟩ := okV_r ov35897
      have gb35898 : tag b35898 = 37 := tg_of gb35898
      refine lv_iconst (v := 0) hx hb dX13_warmth_19 (by decide) ?_
      refine lv_iload_n hx hb dX13_warmth_20 rfl (lv_at hl 1 rfl) ?_
      refine lv_iadd hx hb dX13_warmth_21 ?_
      refine lv_topi (fun z35899 ez35899 => ?_)
      obtain rfl : p1 = z35899 := (ar_zadd ez35899).symm
      refine t_ild X hT mb35898 gb35898 rfl (by omega) dX13_warmth_22 (fun z35900 vz35900 rz35900 => ?_)
      have rz35900 := row_ml (by omega) rz35900
      refine lv_icmp_gt (tgt := 74) hx hb dX13_warmth_23 (by decide) (fun c35901 => ?_) (fun c35901 => ?_)
      · have w35902 := cv_lt (rfl : z35900.toInt = z35900.toInt) (rfl : z35884.toInt = z35884.toInt) c35901
        refine lv_iload_n hx hb dX13_warmth_74 rfl (lv_at hl 3 rfl) ?_
        exact t_iret hQ X hT (⟨rfl, rg_all _⟩) (Nat.le_of_ble_eq_true rfl) (Nat.le_of_ble_eq_true rfl) dX13_warmth_75
      · have w35903 := cv_nlt (rfl : z35900.toInt = z35900.toInt) (rfl : z35884.toInt = z35884.toInt) c35901
        refine lv_iload_n hx hb dX13_warmth_26 rfl (lv_at hl 3 rfl) ?_
        refine lv_aload_n hx hb dX13_warmth_27 rfl (lv_at hl 0 rfl) ?_
        refine t_get (C := RX13) (T := TX13) (N := 37) X hT m0 g0 rfl rfl 16 (by decide) qw_112 inlX13 rfl dX13_warmth_28 (fun v35904 hv35904 ov35904 => ?_)
        obtain rfl : v35904 = .ref b35898 := hv35904.symm.trans hv35897
        refine lv_iload_n hx hb dX13_warmth_31 rfl (lv_at hl 1 rfl) ?_
        refine lv_iload hx hb dX13_warmth_32 (lv_at hl 4 rfl) ?_
        refine lv_iconst (v := 5) hx hb dX13_warmth_34 (by decide) ?_
        refine t_cSi (n := 3) (As := [.int p1, .int z35884, .int 5]) (rest := [.ref b35898, .int z35883]) X hT (km49_X13_part l G tag L F hT.2.2.2 p1 z35884 5 (by omega) (by omega) (by decide)) qw_661 qw_662 qw_5 qw_663 ⟨by decide +kernel, by decide +kernel, by decide +kernel⟩ ⟨Nat.le_of_ble_eq_true rfl, Nat.le_of_ble_eq_true rfl⟩ hl rfl rfl (Nat.le_of_ble_eq_true rfl) dX13_warmth_35 ⟨Nat.le_of_ble_eq_true rfl, Nat.le_of_ble_eq_true rfl⟩ (fun z35905 F9 H locs hT hz35905 => ?_)
        obtain ⟨fz35905, hz35905, xz35905_0⟩ := hz35905
        rw [fz35905] at hT
        have k35906 : (5 : Int32).toInt = 5 := by decide
        refine t_ild X hT mb35898 gb35898 rfl (by omega) dX13_warmth_38 (fun z35907 vz35907 rz35907 => ?_)
        have oz35907 := rz35907
        have rz35907 := rg_all z35907
        refine lv_if_ne (tgt := 65) hx hb dX13_warmth_39 (by decide) (fun c35908 => ?_) (fun c35908 => ?_)
        · have w35909 := cv_ne (rfl : z35907.toInt = z35907.toInt) (by decide : (0 : Int32).toInt = 0) c35908
          refine lv_iconst (v := 0) hx hb dX13_warmth_65 (by decide) ?_
          have k35910 : (0 : Int32).toInt = 0 := by decide
          exact K66 0 z35883 _ _ _ (by omega) hT  (lv_sub hl [0, 1, 2, 3, 4] rfl)
        · have w35911 := cv_eq (rfl : z35907.toInt = z35907.toInt) (by decide : (0 : Int32).toInt = 0) c35908
          refine lv_aload_n hx hb dX13_warmth_42 rfl (lv_at hl 0 rfl) ?_
          refine t_get (C := RX13) (T := TX13) (N := 37) X hT m0 g0 rfl rfl 3 (by decide) qw_481 inlX13 rfl dX13_warmth_43 (fun v35912 hv35912 ov35912 => ?_)
          obtain rfl : v35912 = .ref x0 := hv35912.symm.trans pf0
          refine t_getN (C := RX12) (T := TX12) (N := 31) X hT mx0 gx0 rfl rfl 18 (by decide) (List.mem_of_getElem? (i := 22) rfl) inlX12 rfl dX13_warmth_46 (fun v35913 hv35913 ov35913 => ?_)
          obtain ⟨b35914, rfl, mb35914, gb35914⟩ := okV_r ov35913
          have gb35914 : tag b35914 = 29 := tg_of gb35914
          refine lv_aload_n hx hb dX13_warmth_49 rfl (lv_at hl 0 rfl) ?_
          refine t_get (C := RX13) (T := TX13) (N := 37) X hT m0 g0 rfl rfl 16 (by decide) qw_112 inlX13 rfl dX13_warmth_50 (fun v35915 hv35915 ov35915 => ?_)
          obtain rfl : v35915 = .ref b35898 := hv35915.symm.trans hv35897
          refine lv_iload_n hx hb dX13_warmth_53 rfl (lv_at hl 1 rfl) ?_
          refine lv_iload hx hb dX13_warmth_54 (lv_at hl 4 rfl) ?_
          refine lv_iconst (v := 0) hx hb dX13_warmth_56 (by decide) ?_
          refine t_cSi (n := 3) (As := [.int p1, .int z35884, .int 0]) (rest := [.ref b35898, .ref b35914, .int z35883]) X hT (km49_X13_part l G tag L F hT.2.2.2 p1 z35884 0 (by omega) (by omega) (by decide)) qw_661 qw_662 qw_5 qw_663 ⟨by decide +kernel, by decide +kernel, by decide +kernel⟩ ⟨Nat.le_of_ble_eq_true rfl, Nat.le_of_ble_eq_true rfl⟩ hl rfl rfl (Nat.le_of_ble_eq_true rfl) dX13_warmth_57 ⟨Nat.le_of_ble_eq_true rfl, Nat.le_of_ble_eq_true rfl⟩ (fun z35916 F9 H locs hT hz35916 => ?_)
          obtain ⟨fz35916, hz35916, xz35916_0⟩ := hz35916
          rw [fz35916] at hT
          have k35917 : (0 : Int32).toInt = 0 := by decide
          refine t_ild X hT mb35898 gb35898 rfl (by omega) dX13_warmth_60 (fun z35918 vz35918 rz35918 => ?_)
          have rz35918 := row_sl (by omega) (by omega) rz35918
          refine t_ild X hT mb35914 gb35914 rfl (by omega) dX13_warmth_61 (fun z35919 vz35919 rz35919 => ?_)
          have rz35919 : (-2147483648) ≤ z35919.toInt ∧ z35919.toInt ≤ 2147483647 := rz35919
          refine lv_goto (tgt := 66) hx hb dX13_warmth_62 (by decide) ?_
          exact K66 z35919 z35883 _ _ _ (by omega) hT  (lv_sub hl [0, 1, 2, 3, 4] rfl)
  have K11 : ∀ (z35920 : Int32) (z35921 : Int32) (H : Heap) (locs : List Loc) (ls : Array Slot), (0 ≤ z35920.toInt ∧ z35920.toInt ≤ 0) → (1 ≤ z35921.toInt ∧ z35921.toInt ≤ 2147483647) → TH G ttC A s tag L F H locs → lv_has ls 5 [(0, .ref p0), (1, .int p1), (2, .int p2), (3, .int z35920)] → W p l e { frames := 1, cells := 0, slots := 0, locals := 22 } s m args below meth c H locs 0 0 Q (F0 m 11 ls [.int z35921]) := by
    intro z35920 z35921 H locs ls rz35920 rz35921 hT hl
    refine lv_istore (lv' := [(4, .int z35921), (0, .ref p0), (1, .int p1), (2, .int p2), (3, .int z35920)]) hx hb dX13_warmth_11 hl (by decide) rfl (fun ls hl => ?_)
    exact K13 7 z35920 z35921 _ _ _ (by omega) (by omega) hT  (lv_sub hl [1, 2, 3, 4, 0] rfl)
  refine lv_iconst (v := 0) hx hb dX13_warmth_0 (by decide) ?_
  refine lv_istore_n (lv' := [(3, .int 0), (0, .ref p0), (1, .int p1), (2, .int p2)]) hx hb dX13_warmth_1 rfl hl (by decide) rfl (fun ls hl => ?_)
  refine lv_iload_n hx hb dX13_warmth_2 rfl (lv_at hl 3 rfl) ?_
  refine lv_if_le (tgt := 10) hx hb dX13_warmth_3 (by decide) (fun c35922 => ?_) (fun c35922 => ?_)
  · have w35923 := cv_le (rfl : p2.toInt = p2.toInt) (by decide : (0 : Int32).toInt = 0) c35922
    refine lv_iconst (v := 1) hx hb dX13_warmth_10 (by decide) ?_
    have k35924 : (0 : Int32).toInt = 0 := by decide
    have k35925 : (1 : Int32).toInt = 1 := by decide
    exact K11 0 1 _ _ _ (by decide) (by decide) hT  (lv_sub hl [1, 2, 3, 0] rfl)
  · have w35926 := cv_nle (rfl : p2.toInt = p2.toInt) (by decide : (0 : Int32).toInt = 0) c35922
    refine lv_iload_n hx hb dX13_warmth_6 rfl (lv_at hl 3 rfl) ?_
    refine lv_goto (tgt := 11) hx hb dX13_warmth_7 (by decide) ?_
    have k35927 : (0 : Int32).toInt = 0 := by decide
    exact K11 0 p2 _ _ _ (by decide) (by omega) hT  (lv_sub hl [1, 2, 3, 0] rfl)
set_option maxHeartbeats 4000000 in
set_option maxRecDepth 100000 in
theorem km126_X13_warm (l : Launch) (G : KG) (tag : Nat → Nat) (L : List Nat) (Fo : Nat → va_E) (ho : okT G ttC tag L Fo) (p0 : Nat) (p1 : Int32) (p2 : Int32) (x0 : Nat) (m0 : p0 ∈ L) (g0 : tag p0 = 46) (mx0 : x0 ∈ L) (gx0 : tag x0 = 45) (pf0 : fld Fo p0 3 = .ref x0) : TMi l yX13_warm cX13_warm 3 (some .int) { frames := 2, cells := 0, slots := 0, locals := 46 } G ttC tag L Fo [.ref p0, .int p1, .int p2] (fun r F1 => ((-2147483648) ≤ r.toInt ∧ r.toInt ≤ 2147483647) ∧ ((∀ b j : Nat, (tag b ≠ 46 ∨ j ≠ 0) → (tag b ≠ 46 ∨ j ≠ 1) → (tag b ≠ 46 ∨ j ≠ 2) → fld F1 b j = fld Fo b j) ∧ (∀ b j : Nat, elm F1 b j = elm Fo b j))) := by
  refine t_bodyi (y := yX13_warm) (cd := cX13_warm) (mL := 3) (rt := (some .int)) (rm := { frames := 2, cells := 0, slots := 0, locals := 46 }) (av := [.ref p0, .int p1, .int p2]) (by decide) (Nat.le_of_ble_eq_true rfl) ho ?_
  intro p e s m args below meth c ls A Q hQ X hT hl
  have hx := X.1.1
  have hb := X.1.2.1
  have hl : lv_has ls 3 [(0, .ref p0), (1, .int p1), (2, .int p2)] := hl
  have rp1 := rg_all p1
  have rp2 := rg_all p2
  obtain ⟨F, hFo⟩ : ∃ F : Nat → va_E, F = Fo := ⟨_, rfl⟩
  rw [← hFo] at hT pf0
  have hfr : (∀ b j : Nat, (tag b ≠ 46 ∨ j ≠ 0) → (tag b ≠ 46 ∨ j ≠ 1) → (tag b ≠ 46 ∨ j ≠ 2) → fld F b j = fld Fo b j) ∧ (∀ b j : Nat, elm F b j = elm Fo b j) := by
    rw [hFo]
    exact ⟨by intros; rfl, by intros; rfl⟩
  refine lv_aload_n hx hb dX13_warm_0 rfl (lv_at hl 0 rfl) ?_
  refine lv_iconst (v := 0) hx hb dX13_warm_1 (by decide) ?_
  refine t_put (C := RX13) (T := TX13) (N := 37) (v := .int 0) X hT m0 g0 rfl tyX13 tyX13_ok nmX13 rfl 0 (by decide) qw_140 inlX13 rfl (by first | rfl | decide) (by first | rfl | decide) rfl (⟨_, rfl, (show (-2147483648) ≤ (0 : Int32).toInt from (by decide)), (show (0 : Int32).toInt ≤ 2147483647 from (by decide))⟩) dX13_warm_2 (fun F H locs hT v36030 h1v36030 h2v36030 => ?_)
  have pf0 := (h1v36030 _ _ (Or.inr (by decide))).trans pf0
  have hfr : (∀ b j : Nat, (tag b ≠ 46 ∨ j ≠ 0) → (tag b ≠ 46 ∨ j ≠ 1) → (tag b ≠ 46 ∨ j ≠ 2) → fld F b j = fld Fo b j) ∧ (∀ b j : Nat, elm F b j = elm Fo b j) := ⟨fun b j n46_0 n46_1 n46_2 => (h1v36030 b j (fr_ne g0 n46_0)).trans (hfr.1 b j n46_0 n46_1 n46_2), fun b j  => (h2v36030 b j).trans (hfr.2 b j )⟩
  refine lv_aload_n hx hb dX13_warm_5 rfl (lv_at hl 0 rfl) ?_
  refine lv_iload_n hx hb dX13_warm_6 rfl (lv_at hl 1 rfl) ?_
  refine lv_iload_n hx hb dX13_warm_7 rfl (lv_at hl 2 rfl) ?_
  refine t_cVi (n := 2) (C := RX13) (T := TX13) (N := 37) (As := [.int p1, .int p2]) (rest := []) X hT (km124_X13_isDepth l G tag L F hT.2.2.2 p0 p1 p2 x0 m0 g0 mx0 gx0 pf0) m0 g0 rfl rfl qw_865 qw_866 qw_867 qw_5 qw_868 ⟨rfl, by decide +kernel, by decide +kernel, by decide +kernel⟩ ⟨Nat.le_of_ble_eq_true rfl, Nat.le_of_ble_eq_true rfl⟩ hl rfl rfl (Nat.le_of_ble_eq_true rfl) dX13_warm_8 ⟨Nat.le_of_ble_eq_true rfl, Nat.le_of_ble_eq_true rfl⟩ (fun z36031 F9 H locs hT hz36031 => ?_)
  obtain ⟨fz36031, hz36031⟩ := hz36031
  rw [fz36031] at hT
  obtain ⟨hz36031, iz36031⟩ := hz36031
  refine lv_if_eq (tgt := 27) hx hb dX13_warm_11 (by decide) (fun c36032 => ?_) (fun c36032 => ?_)
  · have w36033 := cv_eq (rfl : z36031.toInt = z36031.toInt) (by decide : (0 : Int32).toInt = 0) c36032
    refine lv_aload_n hx hb dX13_warm_27 rfl (lv_at hl 0 rfl) ?_
    refine lv_iconst (v := 1) hx hb dX13_warm_28 (by decide) ?_
    refine t_cVi (n := 1) (C := RX13) (T := TX13) (N := 37) (As := [.int 1]) (rest := []) X hT (km88_X13_refused l G tag L F hT.2.2.2 p0 1 m0 g0) m0 g0 rfl rfl qw_484 qw_485 qw_486 qw_5 qw_487 ⟨rfl, by decide +kernel, by decide +kernel, by decide +kernel⟩ ⟨Nat.le_of_ble_eq_true rfl, Nat.le_of_ble_eq_true rfl⟩ hl rfl rfl (Nat.le_of_ble_eq_true rfl) dX13_warm_29 ⟨Nat.le_of_ble_eq_true rfl, Nat.le_of_ble_eq_true rfl⟩ (fun z36034 F H locs hT hz36034 => ?_)
    obtain ⟨hz36034, yz36034⟩ := hz36034
    have pf0 := (yz36034.1 _ 3 (Or.inr (by decide)) (Or.inr (by decide))).trans pf0
    have v36030 := (yz36034.1 _ 0 (Or.inr (by decide)) (Or.inr (by decide))).trans v36030
    have hfr : (∀ b j : Nat, (tag b ≠ 46 ∨ j ≠ 0) → (tag b ≠ 46 ∨ j ≠ 1) → (tag b ≠ 46 ∨ j ≠ 2) → fld F b j = fld Fo b j) ∧ (∀ b j : Nat, elm F b j = elm Fo b j) := ⟨fun b j n46_0 n46_1 n46_2 => (yz36034.1 b j n46_1 n46_2).trans (hfr.1 b j n46_0 n46_1 n46_2), fun b j  => (yz36034.2 b j ).trans (hfr.2 b j )⟩
    exact t_iret hQ X hT (⟨rg_all _, hfr⟩) (Nat.le_of_ble_eq_true rfl) (Nat.le_of_ble_eq_true rfl) dX13_warm_32
  · have w36035 := cv_ne (rfl : z36031.toInt = z36031.toInt) (by decide : (0 : Int32).toInt = 0) c36032
    have w36036 := (fun h => (iz36031 h).1) (by omega)
    have w36037 := (fun h => (iz36031 h).2) (by omega)
    refine lv_aload_n hx hb dX13_warm_14 rfl (lv_at hl 0 rfl) ?_
    refine lv_aload_n hx hb dX13_warm_15 rfl (lv_at hl 0 rfl) ?_
    refine lv_iload_n hx hb dX13_warm_16 rfl (lv_at hl 1 rfl) ?_
    refine lv_iload_n hx hb dX13_warm_17 rfl (lv_at hl 2 rfl) ?_
    refine t_cVi (n := 2) (C := RX13) (T := TX13) (N := 37) (As := [.int p1, .int p2]) (rest := [.ref p0]) X hT (km125_X13_warmth l G tag L F hT.2.2.2 p0 p1 p2 x0 m0 g0 (by omega) mx0 gx0 pf0) m0 g0 rfl rfl qw_869 qw_870 qw_871 qw_5 qw_872 ⟨rfl, by decide +kernel, by decide +kernel, by decide +kernel⟩ ⟨Nat.le_of_ble_eq_true rfl, Nat.le_of_ble_eq_true rfl⟩ hl rfl rfl (Nat.le_of_ble_eq_true rfl) dX13_warm_18 ⟨Nat.le_of_ble_eq_true rfl, Nat.le_of_ble_eq_true rfl⟩ (fun z36038 F9 H locs hT hz36038 => ?_)
    obtain ⟨fz36038, hz36038⟩ := hz36038
    rw [fz36038] at hT
    refine t_cVi (n := 1) (C := RX13) (T := TX13) (N := 37) (As := [.int z36038]) (rest := []) X hT (km93_X13_good l G tag L F hT.2.2.2 p0 z36038 m0 g0) m0 g0 rfl rfl qw_687 qw_688 qw_689 qw_5 qw_690 ⟨rfl, by decide +kernel, by decide +kernel, by decide +kernel⟩ ⟨Nat.le_of_ble_eq_true rfl, Nat.le_of_ble_eq_true rfl⟩ hl rfl rfl (Nat.le_of_ble_eq_true rfl) dX13_warm_21 ⟨Nat.le_of_ble_eq_true rfl, Nat.le_of_ble_eq_true rfl⟩ (fun z36039 F H locs hT hz36039 => ?_)
    obtain ⟨hz36039, yz36039⟩ := hz36039
    have pf0 := (yz36039.1 _ 3 (Or.inr (by decide)) (Or.inr (by decide))).trans pf0
    have v36030 := (yz36039.1 _ 0 (Or.inr (by decide)) (Or.inr (by decide))).trans v36030
    have hfr : (∀ b j : Nat, (tag b ≠ 46 ∨ j ≠ 0) → (tag b ≠ 46 ∨ j ≠ 1) → (tag b ≠ 46 ∨ j ≠ 2) → fld F b j = fld Fo b j) ∧ (∀ b j : Nat, elm F b j = elm Fo b j) := ⟨fun b j n46_0 n46_1 n46_2 => (yz36039.1 b j n46_1 n46_2).trans (hfr.1 b j n46_0 n46_1 n46_2), fun b j  => (yz36039.2 b j ).trans (hfr.2 b j )⟩
    refine lv_goto (tgt := 32) hx hb dX13_warm_24 (by decide) ?_
    exact t_iret hQ X hT (⟨rg_all _, hfr⟩) (Nat.le_of_ble_eq_true rfl) (Nat.le_of_ble_eq_true rfl) dX13_warm_32
set_option maxHeartbeats 4000000 in
set_option maxRecDepth 100000 in
theorem km127_X13_isDepth (l : Launch) (G : KG) (tag : Nat → Nat) (L : List Nat) (F : Nat → va_E) (ho : okT G ttC tag L F) (p0 : Nat) (p1 : Int32) (p2 : Int32) (m0 : p0 ∈ L) (g0 : tag p0 = 46) (pf0 : fld F p0 3 = .null) : TMi l yX13_isDepth cX13_isDepth 3 (some .boolean) { frames := 1, cells := 0, slots := 0, locals := 21 } G ttC tag L F [.ref p0, .int p1, .int p2] (fun r F1 => F1 = F ∧ (0 ≤ r.toInt ∧ r.toInt ≤ 0)) := by
  refine t_bodyi (y := yX13_isDepth) (cd := cX13_isDepth) (mL := 3) (rt := (some .boolean)) (rm := { frames := 1, cells := 0, slots := 0, locals := 21 }) (av := [.ref p0, .int p1, .int p2]) (by decide) (Nat.le_of_ble_eq_true rfl) ho ?_
  intro p e s m args below meth c ls A Q hQ X hT hl
  have hx := X.1.1
  have hb := X.1.2.1
  have hl : lv_has ls 3 [(0, .ref p0), (1, .int p1), (2, .int p2)] := hl
  have rp1 := rg_all p1
  have rp2 := rg_all p2
  refine lv_aload_n hx hb dX13_isDepth_0 rfl (lv_at hl 0 rfl) ?_
  refine lv_iload_n hx hb dX13_isDepth_1 rfl (lv_at hl 1 rfl) ?_
  refine t_cVi (n := 1) (C := RX13) (T := TX13) (N := 37) (As := [.int p1]) (rest := []) X hT (km116_X13_isHouse l G tag L F hT.2.2.2 p0 p1 m0 g0 pf0) m0 g0 rfl rfl qw_796 qw_797 qw_798 qw_5 qw_799 ⟨rfl, by decide +kernel, by decide +kernel, by decide +kernel⟩ ⟨Nat.le_of_ble_eq_true rfl, Nat.le_of_ble_eq_true rfl⟩ hl rfl rfl (Nat.le_of_ble_eq_true rfl) dX13_isDepth_2 ⟨Nat.le_of_ble_eq_true rfl, Nat.le_of_ble_eq_true rfl⟩ (fun z36085 F9 H locs hT hz36085 => ?_)
  obtain ⟨fz36085, hz36085⟩ := hz36085
  rw [fz36085] at hT
  refine lv_if_eq (tgt := 28) hx hb dX13_isDepth_5 (by decide) (fun c36086 => ?_) (fun c36086 => ?_)
  · have w36087 := cv_eq (rfl : z36085.toInt = z36085.toInt) (by decide : (0 : Int32).toInt = 0) c36086
    refine lv_iconst (v := 0) hx hb dX13_isDepth_28 (by decide) ?_
    have k36088 : (0 : Int32).toInt = 0 := by decide
    exact t_zret hQ X hT (by decide) (⟨rfl, (by decide)⟩) (Nat.le_of_ble_eq_true rfl) (Nat.le_of_ble_eq_true rfl) dX13_isDepth_29
  · have w36089 := cv_ne (rfl : z36085.toInt = z36085.toInt) (by decide : (0 : Int32).toInt = 0) c36086
    exfalso
    omega
set_option maxHeartbeats 4000000 in
set_option maxRecDepth 100000 in
theorem km128_X13_warm (l : Launch) (G : KG) (tag : Nat → Nat) (L : List Nat) (Fo : Nat → va_E) (ho : okT G ttC tag L Fo) (p0 : Nat) (p1 : Int32) (p2 : Int32) (m0 : p0 ∈ L) (g0 : tag p0 = 46) (pf0 : fld Fo p0 3 = .null) : TMi l yX13_warm cX13_warm 3 (some .int) { frames := 2, cells := 0, slots := 0, locals := 46 } G ttC tag L Fo [.ref p0, .int p1, .int p2] (fun r F1 => ((-2147483648) ≤ r.toInt ∧ r.toInt ≤ 2147483647) ∧ ((∀ b j : Nat, (tag b ≠ 46 ∨ j ≠ 0) → (tag b ≠ 46 ∨ j ≠ 1) → (tag b ≠ 46 ∨ j ≠ 2) → fld F1 b j = fld Fo b j) ∧ (∀ b j : Nat, elm F1 b j = elm Fo b j))) := by
  refine t_bodyi (y := yX13_warm) (cd := cX13_warm) (mL := 3) (rt := (some .int)) (rm := { frames := 2, cells := 0, slots := 0, locals := 46 }) (av := [.ref p0, .int p1, .int p2]) (by decide) (Nat.le_of_ble_eq_true rfl) ho ?_
  intro p e s m args below meth c ls A Q hQ X hT hl
  have hx := X.1.1
  have hb := X.1.2.1
  have hl : lv_has ls 3 [(0, .ref p0), (1, .int p1), (2, .int p2)] := hl
  have rp1 := rg_all p1
  have rp2 := rg_all p2
  obtain ⟨F, hFo⟩ : ∃ F : Nat → va_E, F = Fo := ⟨_, rfl⟩
  rw [← hFo] at hT pf0
  have hfr : (∀ b j : Nat, (tag b ≠ 46 ∨ j ≠ 0) → (tag b ≠ 46 ∨ j ≠ 1) → (tag b ≠ 46 ∨ j ≠ 2) → fld F b j = fld Fo b j) ∧ (∀ b j : Nat, elm F b j = elm Fo b j) := by
    rw [hFo]
    exact ⟨by intros; rfl, by intros; rfl⟩
  refine lv_aload_n hx hb dX13_warm_0 rfl (lv_at hl 0 rfl) ?_
  refine lv_iconst (v := 0) hx hb dX13_warm_1 (by decide) ?_
  refine t_put (C := RX13) (T := TX13) (N := 37) (v := .int 0) X hT m0 g0 rfl tyX13 tyX13_ok nmX13 rfl 0 (by decide) qw_140 inlX13 rfl (by first | rfl | decide) (by first | rfl | decide) rfl (⟨_, rfl, (show (-2147483648) ≤ (0 : Int32).toInt from (by decide)), (show (0 : Int32).toInt ≤ 2147483647 from (by decide))⟩) dX13_warm_2 (fun F H locs hT v36155 h1v36155 h2v36155 => ?_)
  have pf0 := (h1v36155 _ _ (Or.inr (by decide))).trans pf0
  have hfr : (∀ b j : Nat, (tag b ≠ 46 ∨ j ≠ 0) → (tag b ≠ 46 ∨ j ≠ 1) → (tag b ≠ 46 ∨ j ≠ 2) → fld F b j = fld Fo b j) ∧ (∀ b j : Nat, elm F b j = elm Fo b j) := ⟨fun b j n46_0 n46_1 n46_2 => (h1v36155 b j (fr_ne g0 n46_0)).trans (hfr.1 b j n46_0 n46_1 n46_2), fun b j  => (h2v36155 b j).trans (hfr.2 b j )⟩
  refine lv_aload_n hx hb dX13_warm_5 rfl (lv_at hl 0 rfl) ?_
  refine lv_iload_n hx hb dX13_warm_6 rfl (lv_at hl 1 rfl) ?_
  refine lv_iload_n hx hb dX13_warm_7 rfl (lv_at hl 2 rfl) ?_
  refine t_cVi (n := 2) (C := RX13) (T := TX13) (N := 37) (As := [.int p1, .int p2]) (rest := []) X hT (km127_X13_isDepth l G tag L F hT.2.2.2 p0 p1 p2 m0 g0 pf0) m0 g0 rfl rfl qw_865 qw_866 qw_867 qw_5 qw_868 ⟨rfl, by decide +kernel, by decide +kernel, by decide +kernel⟩ ⟨Nat.le_of_ble_eq_true rfl, Nat.le_of_ble_eq_true rfl⟩ hl rfl rfl (Nat.le_of_ble_eq_true rfl) dX13_warm_8 ⟨Nat.le_of_ble_eq_true rfl, Nat.le_of_ble_eq_true rfl⟩ (fun z36156 F9 H locs hT hz36156 => ?_)
  obtain ⟨fz36156, hz36156⟩ := hz36156
  rw [fz36156] at hT
  refine lv_if_eq (tgt := 27) hx hb dX13_warm_11 (by decide) (fun c36157 => ?_) (fun c36157 => ?_)
  · have w36158 := cv_eq (rfl : z36156.toInt = z36156.toInt) (by decide : (0 : Int32).toInt = 0) c36157
    refine lv_aload_n hx hb dX13_warm_27 rfl (lv_at hl 0 rfl) ?_
    refine lv_iconst (v := 1) hx hb dX13_warm_28 (by decide) ?_
    refine t_cVi (n := 1) (C := RX13) (T := TX13) (N := 37) (As := [.int 1]) (rest := []) X hT (km88_X13_refused l G tag L F hT.2.2.2 p0 1 m0 g0) m0 g0 rfl rfl qw_484 qw_485 qw_486 qw_5 qw_487 ⟨rfl, by decide +kernel, by decide +kernel, by decide +kernel⟩ ⟨Nat.le_of_ble_eq_true rfl, Nat.le_of_ble_eq_true rfl⟩ hl rfl rfl (Nat.le_of_ble_eq_true rfl) dX13_warm_29 ⟨Nat.le_of_ble_eq_true rfl, Nat.le_of_ble_eq_true rfl⟩ (fun z36159 F H locs hT hz36159 => ?_)
    obtain ⟨hz36159, yz36159⟩ := hz36159
    have pf0 := (yz36159.1 _ 3 (Or.inr (by decide)) (Or.inr (by decide))).trans pf0
    have v36155 := (yz36159.1 _ 0 (Or.inr (by decide)) (Or.inr (by decide))).trans v36155
    have hfr : (∀ b j : Nat, (tag b ≠ 46 ∨ j ≠ 0) → (tag b ≠ 46 ∨ j ≠ 1) → (tag b ≠ 46 ∨ j ≠ 2) → fld F b j = fld Fo b j) ∧ (∀ b j : Nat, elm F b j = elm Fo b j) := ⟨fun b j n46_0 n46_1 n46_2 => (yz36159.1 b j n46_1 n46_2).trans (hfr.1 b j n46_0 n46_1 n46_2), fun b j  => (yz36159.2 b j ).trans (hfr.2 b j )⟩
    exact t_iret hQ X hT (⟨rg_all _, hfr⟩) (Nat.le_of_ble_eq_true rfl) (Nat.le_of_ble_eq_true rfl) dX13_warm_32
  · have w36160 := cv_ne (rfl : z36156.toInt = z36156.toInt) (by decide : (0 : Int32).toInt = 0) c36157
    exfalso
    omega
theorem kp_X13_warm (l : Launch) (G : KG) (tag : Nat → Nat) (L : List Nat) (Fo : Nat → va_E) (ho : okT G ttC tag L Fo) (p0 : Nat) (p1 : Int32) (p2 : Int32) (m0 : p0 ∈ L) (g0 : tag p0 = 46) : TMi l yX13_warm cX13_warm 3 (some .int) { frames := 2, cells := 0, slots := 0, locals := 46 } G ttC tag L Fo [.ref p0, .int p1, .int p2] (fun r F1 => ((-2147483648) ≤ r.toInt ∧ r.toInt ≤ 2147483647) ∧ ((∀ b j : Nat, (tag b ≠ 46 ∨ j ≠ 0) → (tag b ≠ 46 ∨ j ≠ 1) → (tag b ≠ 46 ∨ j ≠ 2) → fld F1 b j = fld Fo b j) ∧ (∀ b j : Nat, elm F1 b j = elm Fo b j))) := by
  rcases t_fldn ho m0 g0 rfl 3 rfl with h9 | ⟨b9, h9, m9, t9⟩
  · exact km128_X13_warm l G tag L Fo ho p0 p1 p2  m0 g0 h9 
  · exact km126_X13_warm l G tag L Fo ho p0 p1 p2 b9  m0 g0 m9 (tg_of t9) h9 
set_option maxHeartbeats 4000000 in
set_option maxRecDepth 100000 in
theorem km130_X13_light (l : Launch) (G : KG) (tag : Nat → Nat) (L : List Nat) (Fo : Nat → va_E) (ho : okT G ttC tag L Fo) (p0 : Nat) (p1 : Int32) (p2 : Int32) (x0 : Nat) (m0 : p0 ∈ L) (g0 : tag p0 = 46) (mx0 : x0 ∈ L) (gx0 : tag x0 = 45) (pf0 : fld Fo p0 3 = .ref x0) : TMi l yX13_light cX13_light 4 (some .int) { frames := 2, cells := 0, slots := 0, locals := 43 } G ttC tag L Fo [.ref p0, .int p1, .int p2] (fun r F1 => ((-2147483648) ≤ r.toInt ∧ r.toInt ≤ 2147483647) ∧ ((∀ b j : Nat, (tag b ≠ 46 ∨ j ≠ 0) → (tag b ≠ 46 ∨ j ≠ 1) → (tag b ≠ 46 ∨ j ≠ 2) → fld F1 b j = fld Fo b j) ∧ (∀ b j : Nat, elm F1 b j = elm Fo b j))) := by
  refine t_bodyi (y := yX13_light) (cd := cX13_light) (mL := 4) (rt := (some .int)) (rm := { frames := 2, cells := 0, slots := 0, locals := 43 }) (av := [.ref p0, .int p1, .int p2]) (by decide) (Nat.le_of_ble_eq_true rfl) ho ?_
  intro p e s m args below meth c ls A Q hQ X hT hl
  have hx := X.1.1
  have hb := X.1.2.1
  have hl : lv_has ls 4 [(0, .ref p0), (1, .int p1), (2, .int p2)] := hl
  have rp1 := rg_all p1
  have rp2 := rg_all p2
  obtain ⟨F, hFo⟩ : ∃ F : Nat → va_E, F = Fo := ⟨_, rfl⟩
  rw [← hFo] at hT pf0
  have hfr : (∀ b j : Nat, (tag b ≠ 46 ∨ j ≠ 0) → (tag b ≠ 46 ∨ j ≠ 1) → (tag b ≠ 46 ∨ j ≠ 2) → fld F b j = fld Fo b j) ∧ (∀ b j : Nat, elm F b j = elm Fo b j) := by
    rw [hFo]
    exact ⟨by intros; rfl, by intros; rfl⟩
  have K46 : ∀ (z36372 : Int32) (z36373 : Int32) (z36374 : Int32) (F : Nat → va_E) (H : Heap) (locs : List Loc) (ls : Array Slot), ((-9) ≤ z36372.toInt ∧ z36372.toInt ≤ 27) → (0 ≤ z36373.toInt ∧ z36373.toInt ≤ 27) → (0 ≤ z36374.toInt ∧ z36374.toInt ≤ 0) → (0 ≤ p1.toInt ∧ p1.toInt ≤ 3) → (0 ≤ p2.toInt ∧ p2.toInt ≤ 6) → TH G ttC A s tag L F H locs → ((∀ b j : Nat, (tag b ≠ 46 ∨ j ≠ 0) → (tag b ≠ 46 ∨ j ≠ 1) → (tag b ≠ 46 ∨ j ≠ 2) → fld F b j = fld Fo b j) ∧ (∀ b j : Nat, elm F b j = elm Fo b j)) → (fld F p0 3 = .ref x0) → (fld F p0 0 = .int z36374) → lv_has ls 4 [(0, .ref p0), (1, .int p1), (2, .int p2), (3, .int z36372)] → W p l e { frames := 2, cells := 0, slots := 0, locals := 43 } s m args below meth c H locs 0 0 Q (F0 m 46 ls [.int z36373, .ref p0]) := by
    intro z36372 z36373 z36374 F H locs ls rz36372 rz36373 rz36374 r9s36370 r9s36371 hT hfr pf0 qz36374 hl
    refine t_cVi (n := 1) (C := RX13) (T := TX13) (N := 37) (As := [.int z36373]) (rest := []) X hT (km93_X13_good l G tag L F hT.2.2.2 p0 z36373 m0 g0) m0 g0 rfl rfl qw_687 qw_688 qw_689 qw_5 qw_690 ⟨rfl, by decide +kernel, by decide +kernel, by decide +kernel⟩ ⟨Nat.le_of_ble_eq_true rfl, Nat.le_of_ble_eq_true rfl⟩ hl rfl rfl (Nat.le_of_ble_eq_true rfl) dX13_light_46 ⟨Nat.le_of_ble_eq_true rfl, Nat.le_of_ble_eq_true rfl⟩ (fun z36375 F H locs hT hz36375 => ?_)
    obtain ⟨hz36375, yz36375⟩ := hz36375
    have qz36374 := (yz36375.1 _ 0 (Or.inr (by decide)) (Or.inr (by decide))).trans qz36374
    have pf0 := (yz36375.1 _ 3 (Or.inr (by decide)) (Or.inr (by decide))).trans pf0
    have hfr : (∀ b j : Nat, (tag b ≠ 46 ∨ j ≠ 0) → (tag b ≠ 46 ∨ j ≠ 1) → (tag b ≠ 46 ∨ j ≠ 2) → fld F b j = fld Fo b j) ∧ (∀ b j : Nat, elm F b j = elm Fo b j) := ⟨fun b j n46_0 n46_1 n46_2 => (yz36375.1 b j n46_1 n46_2).trans (hfr.1 b j n46_0 n46_1 n46_2), fun b j  => (yz36375.2 b j ).trans (hfr.2 b j )⟩
    exact t_iret hQ X hT (⟨rg_all _, hfr⟩) (Nat.le_of_ble_eq_true rfl) (Nat.le_of_ble_eq_true rfl) dX13_light_49
  refine lv_aload_n hx hb dX13_light_0 rfl (lv_at hl 0 rfl) ?_
  refine lv_iconst (v := 0) hx hb dX13_light_1 (by decide) ?_
  refine t_put (C := RX13) (T := TX13) (N := 37) (v := .int 0) X hT m0 g0 rfl tyX13 tyX13_ok nmX13 rfl 0 (by decide) qw_140 inlX13 rfl (by first | rfl | decide) (by first | rfl | decide) rfl (⟨_, rfl, (show (-2147483648) ≤ (0 : Int32).toInt from (by decide)), (show (0 : Int32).toInt ≤ 2147483647 from (by decide))⟩) dX13_light_2 (fun F H locs hT v36376 h1v36376 h2v36376 => ?_)
  have pf0 := (h1v36376 _ _ (Or.inr (by decide))).trans pf0
  have hfr : (∀ b j : Nat, (tag b ≠ 46 ∨ j ≠ 0) → (tag b ≠ 46 ∨ j ≠ 1) → (tag b ≠ 46 ∨ j ≠ 2) → fld F b j = fld Fo b j) ∧ (∀ b j : Nat, elm F b j = elm Fo b j) := ⟨fun b j n46_0 n46_1 n46_2 => (h1v36376 b j (fr_ne g0 n46_0)).trans (hfr.1 b j n46_0 n46_1 n46_2), fun b j  => (h2v36376 b j).trans (hfr.2 b j )⟩
  refine lv_aload_n hx hb dX13_light_5 rfl (lv_at hl 0 rfl) ?_
  refine lv_iload_n hx hb dX13_light_6 rfl (lv_at hl 1 rfl) ?_
  refine lv_iload_n hx hb dX13_light_7 rfl (lv_at hl 2 rfl) ?_
  refine t_cVi (n := 2) (C := RX13) (T := TX13) (N := 37) (As := [.int p1, .int p2]) (rest := []) X hT (km124_X13_isDepth l G tag L F hT.2.2.2 p0 p1 p2 x0 m0 g0 mx0 gx0 pf0) m0 g0 rfl rfl qw_865 qw_866 qw_867 qw_5 qw_868 ⟨rfl, by decide +kernel, by decide +kernel, by decide +kernel⟩ ⟨Nat.le_of_ble_eq_true rfl, Nat.le_of_ble_eq_true rfl⟩ hl rfl rfl (Nat.le_of_ble_eq_true rfl) dX13_light_8 ⟨Nat.le_of_ble_eq_true rfl, Nat.le_of_ble_eq_true rfl⟩ (fun z36377 F9 H locs hT hz36377 => ?_)
  obtain ⟨fz36377, hz36377⟩ := hz36377
  rw [fz36377] at hT
  obtain ⟨hz36377, iz36377⟩ := hz36377
  refine lv_if_ne (tgt := 20) hx hb dX13_light_11 (by decide) (fun c36378 => ?_) (fun c36378 => ?_)
  · have w36379 := cv_ne (rfl : z36377.toInt = z36377.toInt) (by decide : (0 : Int32).toInt = 0) c36378
    have w36380 := (fun h => (iz36377 h).1) (by omega)
    have w36381 := (fun h => (iz36377 h).2) (by omega)
    refine lv_bipush (v := 9) hx hb dX13_light_20 (by decide) ?_
    refine lv_iconst (v := 3) hx hb dX13_light_22 (by decide) ?_
    refine lv_aload_n hx hb dX13_light_23 rfl (lv_at hl 0 rfl) ?_
    refine t_get (C := RX13) (T := TX13) (N := 37) X hT m0 g0 rfl rfl 16 (by decide) qw_112 inlX13 rfl dX13_light_24 (fun v36382 hv36382 ov36382 => ?_)
    obtain ⟨b36383, rfl, mb36383, gb36383⟩ := okV_r ov36382
    have gb36383 : tag b36383 = 37 := tg_of gb36383
    refine lv_iconst (v := 0) hx hb dX13_light_27 (by decide) ?_
    refine lv_iload_n hx hb dX13_light_28 rfl (lv_at hl 1 rfl) ?_
    refine lv_iadd hx hb dX13_light_29 ?_
    refine lv_topi (fun z36384 ez36384 => ?_)
    obtain rfl : p1 = z36384 := (ar_zadd ez36384).symm
    refine t_ild X hT mb36383 gb36383 rfl (by omega) dX13_light_30 (fun z36385 vz36385 rz36385 => ?_)
    have rz36385 := row_ml (by omega) rz36385
    refine lv_iload_n hx hb dX13_light_31 rfl (lv_at hl 2 rfl) ?_
    refine lv_isub hx hb dX13_light_32 ?_
    refine lv_topi (fun z36386 ez36386 => ?_)
    have hz36386 : z36386.toInt = z36385.toInt - p2.toInt := ar_sub ez36386 (rfl : z36385.toInt = z36385.toInt) (rfl : p2.toInt = p2.toInt) (by omega) (by omega)
    have rz36386 : (-6) ≤ z36386.toInt ∧ z36386.toInt ≤ 6 := by omega
    refine lv_imul hx hb dX13_light_33 ?_
    refine lv_topi (fun z36387 ez36387 => ?_)
    have hz36387 : z36387.toInt = 3 * z36386.toInt := ar_mul ez36387 (by decide : (3 : Int32).toInt = 3) (rfl : z36386.toInt = z36386.toInt) (by omega) (by omega)
    have rz36387 : (-18) ≤ z36387.toInt ∧ z36387.toInt ≤ 18 := by omega
    refine lv_isub hx hb dX13_light_34 ?_
    refine lv_topi (fun z36388 ez36388 => ?_)
    have hz36388 : z36388.toInt = 9 - z36387.toInt := ar_sub ez36388 (by decide : (9 : Int32).toInt = 9) (rfl : z36387.toInt = z36387.toInt) (by omega) (by omega)
    have rz36388 : (-9) ≤ z36388.toInt ∧ z36388.toInt ≤ 27 := by omega
    refine lv_istore_n (lv' := [(3, .int z36388), (0, .ref p0), (1, .int p1), (2, .int p2)]) hx hb dX13_light_35 rfl hl (by decide) rfl (fun ls hl => ?_)
    refine lv_aload_n hx hb dX13_light_36 rfl (lv_at hl 1 rfl) ?_
    refine lv_iload_n hx hb dX13_light_37 rfl (lv_at hl 0 rfl) ?_
    refine lv_if_le (tgt := 45) hx hb dX13_light_38 (by decide) (fun c36389 => ?_) (fun c36389 => ?_)
    · have w36390 := cv_le (rfl : z36388.toInt = z36388.toInt) (by decide : (0 : Int32).toInt = 0) c36389
      refine lv_iconst (v := 0) hx hb dX13_light_45 (by decide) ?_
      have k36391 : (0 : Int32).toInt = 0 := by decide
      have k36392 : (0 : Int32).toInt = 0 := by decide
      exact K46 z36388 0 0 _ _ _ _ (by omega) (by decide) (by decide) (by omega) (by omega) hT hfr pf0 v36376 (lv_sub hl [1, 2, 3, 0] rfl)
    · have w36393 := cv_nle (rfl : z36388.toInt = z36388.toInt) (by decide : (0 : Int32).toInt = 0) c36389
      refine lv_iload_n hx hb dX13_light_41 rfl (lv_at hl 0 rfl) ?_
      refine lv_goto (tgt := 46) hx hb dX13_light_42 (by decide) ?_
      have k36394 : (0 : Int32).toInt = 0 := by decide
      exact K46 z36388 z36388 0 _ _ _ _ (by omega) (by omega) (by decide) (by omega) (by omega) hT hfr pf0 v36376 (lv_sub hl [1, 2, 3, 0] rfl)
  · have w36395 := cv_eq (rfl : z36377.toInt = z36377.toInt) (by decide : (0 : Int32).toInt = 0) c36378
    refine lv_aload_n hx hb dX13_light_14 rfl (lv_at hl 0 rfl) ?_
    refine lv_iconst (v := 1) hx hb dX13_light_15 (by decide) ?_
    refine t_cVi (n := 1) (C := RX13) (T := TX13) (N := 37) (As := [.int 1]) (rest := []) X hT (km88_X13_refused l G tag L F hT.2.2.2 p0 1 m0 g0) m0 g0 rfl rfl qw_484 qw_485 qw_486 qw_5 qw_487 ⟨rfl, by decide +kernel, by decide +kernel, by decide +kernel⟩ ⟨Nat.le_of_ble_eq_true rfl, Nat.le_of_ble_eq_true rfl⟩ hl rfl rfl (Nat.le_of_ble_eq_true rfl) dX13_light_16 ⟨Nat.le_of_ble_eq_true rfl, Nat.le_of_ble_eq_true rfl⟩ (fun z36396 F H locs hT hz36396 => ?_)
    obtain ⟨hz36396, yz36396⟩ := hz36396
    have pf0 := (yz36396.1 _ 3 (Or.inr (by decide)) (Or.inr (by decide))).trans pf0
    have v36376 := (yz36396.1 _ 0 (Or.inr (by decide)) (Or.inr (by decide))).trans v36376
    have hfr : (∀ b j : Nat, (tag b ≠ 46 ∨ j ≠ 0) → (tag b ≠ 46 ∨ j ≠ 1) → (tag b ≠ 46 ∨ j ≠ 2) → fld F b j = fld Fo b j) ∧ (∀ b j : Nat, elm F b j = elm Fo b j) := ⟨fun b j n46_0 n46_1 n46_2 => (yz36396.1 b j n46_1 n46_2).trans (hfr.1 b j n46_0 n46_1 n46_2), fun b j  => (yz36396.2 b j ).trans (hfr.2 b j )⟩
    exact t_iret hQ X hT (⟨rg_all _, hfr⟩) (Nat.le_of_ble_eq_true rfl) (Nat.le_of_ble_eq_true rfl) dX13_light_19
