set_option maxHeartbeats 4000000 in
set_option maxRecDepth 100000 in
theorem km84_X13_fault (l : Launch) (G : KG) (tag : Nat → Nat) (L : List Nat) (Fo : Nat → va_E) (ho : okT G ttC tag L Fo) (p0 : Nat) (m0 : p0 ∈ L) (g0 : tag p0 = 46) : TMi l yX13_fault cX13_fault 1 (some .int) { frames := 0, cells := 0, slots := 0, locals := 0 } G ttC tag L Fo [.ref p0] (fun r F1 => (0 ≤ r.toInt ∧ r.toInt ≤ 7) ∧ ((∀ b j : Nat, (tag b ≠ 46 ∨ j ≠ 0) → fld F1 b j = fld Fo b j) ∧ (∀ b j : Nat, elm F1 b j = elm Fo b j))) := by
  refine t_bodyi (y := yX13_fault) (cd := cX13_fault) (mL := 1) (rt := (some .int)) (rm := { frames := 0, cells := 0, slots := 0, locals := 0 }) (av := [.ref p0]) (by decide) (Nat.le_of_ble_eq_true rfl) ho ?_
  intro p e s m args below meth c ls A Q hQ X hT hl
  have hx := X.1.1
  have hb := X.1.2.1
  have hl : lv_has ls 1 [(0, .ref p0)] := hl
  obtain ⟨F, hFo⟩ : ∃ F : Nat → va_E, F = Fo := ⟨_, rfl⟩
  rw [← hFo] at hT
  have hfr : (∀ b j : Nat, (tag b ≠ 46 ∨ j ≠ 0) → fld F b j = fld Fo b j) ∧ (∀ b j : Nat, elm F b j = elm Fo b j) := by
    rw [hFo]
    exact ⟨by intros; rfl, by intros; rfl⟩
  refine lv_aload_n hx hb dX13_fault_0 rfl (lv_at hl 0 rfl) ?_
  refine lv_iconst (v := 0) hx hb dX13_fault_1 (by decide) ?_
  refine t_put (C := RX13) (T := TX13) (N := 37) (v := .int 0) X hT m0 g0 rfl tyX13 tyX13_ok nmX13 rfl 0 (by decide) qw_140 inlX13 rfl (by first | rfl | decide) (by first | rfl | decide) rfl (⟨_, rfl, (show (-2147483648) ≤ (0 : Int32).toInt from (by decide)), (show (0 : Int32).toInt ≤ 2147483647 from (by decide))⟩) dX13_fault_2 (fun F H locs hT v28642 h1v28642 h2v28642 => ?_)
  have hfr : (∀ b j : Nat, (tag b ≠ 46 ∨ j ≠ 0) → fld F b j = fld Fo b j) ∧ (∀ b j : Nat, elm F b j = elm Fo b j) := ⟨fun b j n46_0 => (h1v28642 b j (fr_ne g0 n46_0)).trans (hfr.1 b j n46_0), fun b j  => (h2v28642 b j).trans (hfr.2 b j )⟩
  refine lv_aload_n hx hb dX13_fault_5 rfl (lv_at hl 0 rfl) ?_
  refine t_get (C := RX13) (T := TX13) (N := 37) X hT m0 g0 rfl rfl 13 (by decide) qw_473 inlX13 rfl dX13_fault_6 (fun v28643 hv28643 ov28643 => ?_)
  obtain ⟨z28644, rfl, rz28644⟩ := okV_i ov28643
  exact t_iret hQ X hT (⟨(by omega), hfr⟩) (Nat.le_of_ble_eq_true rfl) (Nat.le_of_ble_eq_true rfl) dX13_fault_9
set_option maxHeartbeats 4000000 in
set_option maxRecDepth 100000 in
theorem km85_X13_where (l : Launch) (G : KG) (tag : Nat → Nat) (L : List Nat) (Fo : Nat → va_E) (ho : okT G ttC tag L Fo) (p0 : Nat) (m0 : p0 ∈ L) (g0 : tag p0 = 46) : TMi l yX13_where cX13_where 1 (some .int) { frames := 0, cells := 0, slots := 0, locals := 0 } G ttC tag L Fo [.ref p0] (fun r F1 => ((-2147483648) ≤ r.toInt ∧ r.toInt ≤ 2147483647) ∧ ((∀ b j : Nat, (tag b ≠ 46 ∨ j ≠ 0) → fld F1 b j = fld Fo b j) ∧ (∀ b j : Nat, elm F1 b j = elm Fo b j))) := by
  refine t_bodyi (y := yX13_where) (cd := cX13_where) (mL := 1) (rt := (some .int)) (rm := { frames := 0, cells := 0, slots := 0, locals := 0 }) (av := [.ref p0]) (by decide) (Nat.le_of_ble_eq_true rfl) ho ?_
  intro p e s m args below meth c ls A Q hQ X hT hl
  have hx := X.1.1
  have hb := X.1.2.1
  have hl : lv_has ls 1 [(0, .ref p0)] := hl
  obtain ⟨F, hFo⟩ : ∃ F : Nat → va_E, F = Fo := ⟨_, rfl⟩
  rw [← hFo] at hT
  have hfr : (∀ b j : Nat, (tag b ≠ 46 ∨ j ≠ 0) → fld F b j = fld Fo b j) ∧ (∀ b j : Nat, elm F b j = elm Fo b j) := by
    rw [hFo]
    exact ⟨by intros; rfl, by intros; rfl⟩
  refine lv_aload_n hx hb dX13_where_0 rfl (lv_at hl 0 rfl) ?_
  refine lv_iconst (v := 0) hx hb dX13_where_1 (by decide) ?_
  refine t_put (C := RX13) (T := TX13) (N := 37) (v := .int 0) X hT m0 g0 rfl tyX13 tyX13_ok nmX13 rfl 0 (by decide) qw_140 inlX13 rfl (by first | rfl | decide) (by first | rfl | decide) rfl (⟨_, rfl, (show (-2147483648) ≤ (0 : Int32).toInt from (by decide)), (show (0 : Int32).toInt ≤ 2147483647 from (by decide))⟩) dX13_where_2 (fun F H locs hT v28678 h1v28678 h2v28678 => ?_)
  have hfr : (∀ b j : Nat, (tag b ≠ 46 ∨ j ≠ 0) → fld F b j = fld Fo b j) ∧ (∀ b j : Nat, elm F b j = elm Fo b j) := ⟨fun b j n46_0 => (h1v28678 b j (fr_ne g0 n46_0)).trans (hfr.1 b j n46_0), fun b j  => (h2v28678 b j).trans (hfr.2 b j )⟩
  refine lv_aload_n hx hb dX13_where_5 rfl (lv_at hl 0 rfl) ?_
  refine t_get (C := RX13) (T := TX13) (N := 37) X hT m0 g0 rfl rfl 2 (by decide) qw_109 inlX13 rfl dX13_where_6 (fun v28679 hv28679 ov28679 => ?_)
  obtain ⟨z28680, rfl, rz28680⟩ := okV_i ov28679
  exact t_iret hQ X hT (⟨rg_all _, hfr⟩) (Nat.le_of_ble_eq_true rfl) (Nat.le_of_ble_eq_true rfl) dX13_where_9
set_option maxHeartbeats 4000000 in
set_option maxRecDepth 100000 in
theorem km86_X13_trouble (l : Launch) (G : KG) (tag : Nat → Nat) (L : List Nat) (Fo : Nat → va_E) (ho : okT G ttC tag L Fo) (p0 : Nat) (m0 : p0 ∈ L) (g0 : tag p0 = 46) : TMi l yX13_trouble cX13_trouble 1 (some .int) { frames := 0, cells := 0, slots := 0, locals := 0 } G ttC tag L Fo [.ref p0] (fun r F1 => ((-2147483648) ≤ r.toInt ∧ r.toInt ≤ 2147483647) ∧ ((∀ b j : Nat, (tag b ≠ 46 ∨ j ≠ 0) → fld F1 b j = fld Fo b j) ∧ (∀ b j : Nat, elm F1 b j = elm Fo b j))) := by
  refine t_bodyi (y := yX13_trouble) (cd := cX13_trouble) (mL := 1) (rt := (some .int)) (rm := { frames := 0, cells := 0, slots := 0, locals := 0 }) (av := [.ref p0]) (by decide) (Nat.le_of_ble_eq_true rfl) ho ?_
  intro p e s m args below meth c ls A Q hQ X hT hl
  have hx := X.1.1
  have hb := X.1.2.1
  have hl : lv_has ls 1 [(0, .ref p0)] := hl
  obtain ⟨F, hFo⟩ : ∃ F : Nat → va_E, F = Fo := ⟨_, rfl⟩
  rw [← hFo] at hT
  have hfr : (∀ b j : Nat, (tag b ≠ 46 ∨ j ≠ 0) → fld F b j = fld Fo b j) ∧ (∀ b j : Nat, elm F b j = elm Fo b j) := by
    rw [hFo]
    exact ⟨by intros; rfl, by intros; rfl⟩
  refine lv_aload_n hx hb dX13_trouble_0 rfl (lv_at hl 0 rfl) ?_
  refine lv_iconst (v := 0) hx hb dX13_trouble_1 (by decide) ?_
  refine t_put (C := RX13) (T := TX13) (N := 37) (v := .int 0) X hT m0 g0 rfl tyX13 tyX13_ok nmX13 rfl 0 (by decide) qw_140 inlX13 rfl (by first | rfl | decide) (by first | rfl | decide) rfl (⟨_, rfl, (show (-2147483648) ≤ (0 : Int32).toInt from (by decide)), (show (0 : Int32).toInt ≤ 2147483647 from (by decide))⟩) dX13_trouble_2 (fun F H locs hT v28714 h1v28714 h2v28714 => ?_)
  have hfr : (∀ b j : Nat, (tag b ≠ 46 ∨ j ≠ 0) → fld F b j = fld Fo b j) ∧ (∀ b j : Nat, elm F b j = elm Fo b j) := ⟨fun b j n46_0 => (h1v28714 b j (fr_ne g0 n46_0)).trans (hfr.1 b j n46_0), fun b j  => (h2v28714 b j).trans (hfr.2 b j )⟩
  refine lv_aload_n hx hb dX13_trouble_5 rfl (lv_at hl 0 rfl) ?_
  refine t_get (C := RX13) (T := TX13) (N := 37) X hT m0 g0 rfl rfl 1 (by decide) qw_479 inlX13 rfl dX13_trouble_6 (fun v28715 hv28715 ov28715 => ?_)
  obtain ⟨z28716, rfl, rz28716⟩ := okV_i ov28715
  exact t_iret hQ X hT (⟨rg_all _, hfr⟩) (Nat.le_of_ble_eq_true rfl) (Nat.le_of_ble_eq_true rfl) dX13_trouble_9
set_option maxHeartbeats 4000000 in
set_option maxRecDepth 100000 in
theorem km87_X13_isCell (l : Launch) (G : KG) (tag : Nat → Nat) (L : List Nat) (F : Nat → va_E) (ho : okT G ttC tag L F) (p0 : Nat) (p1 : Int32) (p2 : Int32) (x0 : Nat) (m0 : p0 ∈ L) (g0 : tag p0 = 46) (mx0 : x0 ∈ L) (gx0 : tag x0 = 45) (pf0 : fld F p0 3 = .ref x0) : TMi l yX13_isCell cX13_isCell 3 (some .boolean) { frames := 1, cells := 0, slots := 0, locals := 22 } G ttC tag L F [.ref p0, .int p1, .int p2] (fun r F1 => F1 = F ∧ (0 ≤ r.toInt ∧ r.toInt ≤ 1)) := by
  refine t_bodyi (y := yX13_isCell) (cd := cX13_isCell) (mL := 3) (rt := (some .boolean)) (rm := { frames := 1, cells := 0, slots := 0, locals := 22 }) (av := [.ref p0, .int p1, .int p2]) (by decide) (Nat.le_of_ble_eq_true rfl) ho ?_
  intro p e s m args below meth c ls A Q hQ X hT hl
  have hx := X.1.1
  have hb := X.1.2.1
  have hl : lv_has ls 3 [(0, .ref p0), (1, .int p1), (2, .int p2)] := hl
  have rp1 := rg_all p1
  have rp2 := rg_all p2
  refine lv_aload_n hx hb dX13_isCell_0 rfl (lv_at hl 0 rfl) ?_
  refine t_get (C := RX13) (T := TX13) (N := 37) X hT m0 g0 rfl rfl 3 (by decide) qw_481 inlX13 rfl dX13_isCell_1 (fun v28949 hv28949 ov28949 => ?_)
  obtain rfl : v28949 = .ref x0 := hv28949.symm.trans pf0
  refine lv_ifnull hx hb dX13_isCell_4 ?_
  refine lv_iload_n hx hb dX13_isCell_7 rfl (lv_at hl 1 rfl) ?_
  refine lv_iconst (v := 0) hx hb dX13_isCell_8 (by decide) ?_
  refine lv_aload_n hx hb dX13_isCell_9 rfl (lv_at hl 0 rfl) ?_
  refine t_get (C := RX13) (T := TX13) (N := 37) X hT m0 g0 rfl rfl 3 (by decide) qw_481 inlX13 rfl dX13_isCell_10 (fun v28950 hv28950 ov28950 => ?_)
  obtain rfl : v28950 = .ref x0 := hv28950.symm.trans pf0
  refine t_getN (C := RX12) (T := TX12) (N := 31) X hT mx0 gx0 rfl rfl 0 (by decide) (List.mem_of_getElem? (i := 4) rfl) inlX12 rfl dX13_isCell_13 (fun v28951 hv28951 ov28951 => ?_)
  obtain ⟨z28952, rfl, rz28952⟩ := okV_i ov28951
  refine lv_iconst (v := 1) hx hb dX13_isCell_16 (by decide) ?_
  refine lv_isub hx hb dX13_isCell_17 ?_
  refine lv_topi (fun z28953 ez28953 => ?_)
  have hz28953 : z28953.toInt = z28952.toInt - 1 := ar_sub ez28953 (rfl : z28952.toInt = z28952.toInt) (by decide : (1 : Int32).toInt = 1) (by omega) (by omega)
  have rz28953 : 0 ≤ z28953.toInt ∧ z28953.toInt ≤ 11 := by omega
  refine t_cSi (n := 3) (As := [.int p1, .int 0, .int z28953]) (rest := []) X hT (km19_X13_within l G tag L F hT.2.2.2 p1 0 z28953 ) qw_568 qw_569 qw_5 qw_570 ⟨by decide +kernel, by decide +kernel, by decide +kernel⟩ ⟨Nat.le_of_ble_eq_true rfl, Nat.le_of_ble_eq_true rfl⟩ hl rfl rfl (Nat.le_of_ble_eq_true rfl) dX13_isCell_18 ⟨Nat.le_of_ble_eq_true rfl, Nat.le_of_ble_eq_true rfl⟩ (fun z28954 F9 H locs hT hz28954 => ?_)
  obtain ⟨fz28954, hz28954, xz28954_0⟩ := hz28954
  rw [fz28954] at hT
  have k28955 : (0 : Int32).toInt = 0 := by decide
  refine lv_if_eq (tgt := 45) hx hb dX13_isCell_21 (by decide) (fun c28956 => ?_) (fun c28956 => ?_)
  · have w28957 := cv_eq (rfl : z28954.toInt = z28954.toInt) (by decide : (0 : Int32).toInt = 0) c28956
    refine lv_iconst (v := 0) hx hb dX13_isCell_45 (by decide) ?_
    have k28958 : (0 : Int32).toInt = 0 := by decide
    exact t_zret hQ X hT (by decide) (⟨rfl, (by decide)⟩) (Nat.le_of_ble_eq_true rfl) (Nat.le_of_ble_eq_true rfl) dX13_isCell_46
  · have w28959 := cv_ne (rfl : z28954.toInt = z28954.toInt) (by decide : (0 : Int32).toInt = 0) c28956
    have w28960 := xz28954_0 (by omega)
    refine lv_iload_n hx hb dX13_isCell_24 rfl (lv_at hl 2 rfl) ?_
    refine lv_iconst (v := 0) hx hb dX13_isCell_25 (by decide) ?_
    refine lv_aload_n hx hb dX13_isCell_26 rfl (lv_at hl 0 rfl) ?_
    refine t_get (C := RX13) (T := TX13) (N := 37) X hT m0 g0 rfl rfl 3 (by decide) qw_481 inlX13 rfl dX13_isCell_27 (fun v28961 hv28961 ov28961 => ?_)
    obtain rfl : v28961 = .ref x0 := hv28961.symm.trans pf0
    refine t_getN (C := RX12) (T := TX12) (N := 31) X hT mx0 gx0 rfl rfl 1 (by decide) (List.mem_of_getElem? (i := 5) rfl) inlX12 rfl dX13_isCell_30 (fun v28962 hv28962 ov28962 => ?_)
    obtain ⟨z28963, rfl, rz28963⟩ := okV_i ov28962
    refine lv_iconst (v := 1) hx hb dX13_isCell_33 (by decide) ?_
    refine lv_isub hx hb dX13_isCell_34 ?_
    refine lv_topi (fun z28964 ez28964 => ?_)
    have hz28964 : z28964.toInt = z28963.toInt - 1 := ar_sub ez28964 (rfl : z28963.toInt = z28963.toInt) (by decide : (1 : Int32).toInt = 1) (by omega) (by omega)
    have rz28964 : (-1) ≤ z28964.toInt ∧ z28964.toInt ≤ 11 := by omega
    refine t_cSi (n := 3) (As := [.int p2, .int 0, .int z28964]) (rest := []) X hT (km19_X13_within l G tag L F hT.2.2.2 p2 0 z28964 ) qw_568 qw_569 qw_5 qw_570 ⟨by decide +kernel, by decide +kernel, by decide +kernel⟩ ⟨Nat.le_of_ble_eq_true rfl, Nat.le_of_ble_eq_true rfl⟩ hl rfl rfl (Nat.le_of_ble_eq_true rfl) dX13_isCell_35 ⟨Nat.le_of_ble_eq_true rfl, Nat.le_of_ble_eq_true rfl⟩ (fun z28965 F9 H locs hT hz28965 => ?_)
    obtain ⟨fz28965, hz28965, xz28965_0⟩ := hz28965
    rw [fz28965] at hT
    have k28966 : (0 : Int32).toInt = 0 := by decide
    refine lv_if_eq (tgt := 45) hx hb dX13_isCell_38 (by decide) (fun c28967 => ?_) (fun c28967 => ?_)
    · have w28968 := cv_eq (rfl : z28965.toInt = z28965.toInt) (by decide : (0 : Int32).toInt = 0) c28967
      refine lv_iconst (v := 0) hx hb dX13_isCell_45 (by decide) ?_
      have k28969 : (0 : Int32).toInt = 0 := by decide
      exact t_zret hQ X hT (by decide) (⟨rfl, (by decide)⟩) (Nat.le_of_ble_eq_true rfl) (Nat.le_of_ble_eq_true rfl) dX13_isCell_46
    · have w28970 := cv_ne (rfl : z28965.toInt = z28965.toInt) (by decide : (0 : Int32).toInt = 0) c28967
      have w28971 := xz28965_0 (by omega)
      refine lv_iconst (v := 1) hx hb dX13_isCell_41 (by decide) ?_
      refine lv_goto (tgt := 46) hx hb dX13_isCell_42 (by decide) ?_
      have k28972 : (1 : Int32).toInt = 1 := by decide
      exact t_zret hQ X hT (by decide) (⟨rfl, (by decide)⟩) (Nat.le_of_ble_eq_true rfl) (Nat.le_of_ble_eq_true rfl) dX13_isCell_46
set_option maxHeartbeats 4000000 in
set_option maxRecDepth 100000 in
theorem km88_X13_refused (l : Launch) (G : KG) (tag : Nat → Nat) (L : List Nat) (Fo : Nat → va_E) (ho : okT G ttC tag L Fo) (p0 : Nat) (p1 : Int32) (m0 : p0 ∈ L) (g0 : tag p0 = 46) : TMi l yX13_refused cX13_refused 2 (some .int) { frames := 0, cells := 0, slots := 0, locals := 0 } G ttC tag L Fo [.ref p0, .int p1] (fun r F1 => ((-1) ≤ r.toInt ∧ r.toInt ≤ (-1)) ∧ ((∀ b j : Nat, (tag b ≠ 46 ∨ j ≠ 1) → (tag b ≠ 46 ∨ j ≠ 2) → fld F1 b j = fld Fo b j) ∧ (∀ b j : Nat, elm F1 b j = elm Fo b j))) := by
  refine t_bodyi (y := yX13_refused) (cd := cX13_refused) (mL := 2) (rt := (some .int)) (rm := { frames := 0, cells := 0, slots := 0, locals := 0 }) (av := [.ref p0, .int p1]) (by decide) (Nat.le_of_ble_eq_true rfl) ho ?_
  intro p e s m args below meth c ls A Q hQ X hT hl
  have hx := X.1.1
  have hb := X.1.2.1
  have hl : lv_has ls 2 [(0, .ref p0), (1, .int p1)] := hl
  have rp1 := rg_all p1
  obtain ⟨F, hFo⟩ : ∃ F : Nat → va_E, F = Fo := ⟨_, rfl⟩
  rw [← hFo] at hT
  have hfr : (∀ b j : Nat, (tag b ≠ 46 ∨ j ≠ 1) → (tag b ≠ 46 ∨ j ≠ 2) → fld F b j = fld Fo b j) ∧ (∀ b j : Nat, elm F b j = elm Fo b j) := by
    rw [hFo]
    exact ⟨by intros; rfl, by intros; rfl⟩
  refine lv_aload_n hx hb dX13_refused_0 rfl (lv_at hl 0 rfl) ?_
  refine lv_iload_n hx hb dX13_refused_1 rfl (lv_at hl 1 rfl) ?_
  refine t_put (C := RX13) (T := TX13) (N := 37) (v := .int p1) X hT m0 g0 rfl tyX13 tyX13_ok nmX13 rfl 1 (by decide) qw_479 inlX13 rfl (by first | rfl | decide) (by first | rfl | decide) rfl (⟨_, rfl, (show (-2147483648) ≤ (p1 : Int32).toInt from (by omega)), (show (p1 : Int32).toInt ≤ 2147483647 from (by omega))⟩) dX13_refused_2 (fun F H locs hT v28998 h1v28998 h2v28998 => ?_)
  have hfr : (∀ b j : Nat, (tag b ≠ 46 ∨ j ≠ 1) → (tag b ≠ 46 ∨ j ≠ 2) → fld F b j = fld Fo b j) ∧ (∀ b j : Nat, elm F b j = elm Fo b j) := ⟨fun b j n46_1 n46_2 => (h1v28998 b j (fr_ne g0 n46_1)).trans (hfr.1 b j n46_1 n46_2), fun b j  => (h2v28998 b j).trans (hfr.2 b j )⟩
  refine lv_aload_n hx hb dX13_refused_5 rfl (lv_at hl 0 rfl) ?_
  refine lv_iconst (v := (-1)) hx hb dX13_refused_6 (by decide) ?_
  refine t_put (C := RX13) (T := TX13) (N := 37) (v := .int (-1)) X hT m0 g0 rfl tyX13 tyX13_ok nmX13 rfl 2 (by decide) qw_109 inlX13 rfl (by first | rfl | decide) (by first | rfl | decide) rfl (⟨_, rfl, (show (-2147483648) ≤ ((-1) : Int32).toInt from (by decide)), (show ((-1) : Int32).toInt ≤ 2147483647 from (by decide))⟩) dX13_refused_7 (fun F H locs hT v28999 h1v28999 h2v28999 => ?_)
  have v28998 := (h1v28999 _ _ (Or.inr (by decide))).trans v28998
  have hfr : (∀ b j : Nat, (tag b ≠ 46 ∨ j ≠ 1) → (tag b ≠ 46 ∨ j ≠ 2) → fld F b j = fld Fo b j) ∧ (∀ b j : Nat, elm F b j = elm Fo b j) := ⟨fun b j n46_1 n46_2 => (h1v28999 b j (fr_ne g0 n46_2)).trans (hfr.1 b j n46_1 n46_2), fun b j  => (h2v28999 b j).trans (hfr.2 b j )⟩
  refine lv_iconst (v := (-1)) hx hb dX13_refused_10 (by decide) ?_
  have k29000 : ((-1) : Int32).toInt = (-1) := by decide
  exact t_iret hQ X hT (⟨(by decide), hfr⟩) (Nat.le_of_ble_eq_true rfl) (Nat.le_of_ble_eq_true rfl) dX13_refused_11
set_option maxHeartbeats 4000000 in
set_option maxRecDepth 100000 in
theorem km89_X12_x (l : Launch) (G : KG) (tag : Nat → Nat) (L : List Nat) (F : Nat → va_E) (ho : okT G ttC tag L F) (p0 : Nat) (p1 : Int32) (m0 : p0 ∈ L) (g0 : tag p0 = 45) (h1 : 0 ≤ p1.toInt ∧ p1.toInt ≤ 3) : TMi l yX12_x cX12_x 2 (some .int) { frames := 0, cells := 0, slots := 0, locals := 0 } G ttC tag L F [.ref p0, .int p1] (fun r F1 => F1 = F ∧ (0 ≤ r.toInt ∧ r.toInt ≤ 11)) := by
  refine t_bodyi (y := yX12_x) (cd := cX12_x) (mL := 2) (rt := (some .int)) (rm := { frames := 0, cells := 0, slots := 0, locals := 0 }) (av := [.ref p0, .int p1]) (by decide) (Nat.le_of_ble_eq_true rfl) ho ?_
  intro p e s m args below meth c ls A Q hQ X hT hl
  have hx := X.1.1
  have hb := X.1.2.1
  have hl : lv_has ls 2 [(0, .ref p0), (1, .int p1)] := hl
  refine lv_aload_n hx hb dX12_x_0 rfl (lv_at hl 0 rfl) ?_
  refine t_get (C := RX12) (T := TX12) (N := 31) X hT m0 g0 rfl rfl 21 (by decide) qw_498 inlX12 rfl dX12_x_1 (fun v29077 hv29077 ov29077 => ?_)
  obtain ⟨b29078, rfl, mb29078, gb29078⟩ := okV_r ov29077
  have gb29078 : tag b29078 = 30 := tg_of gb29078
  refine lv_iload_n hx hb dX12_x_4 rfl (lv_at hl 1 rfl) ?_
  refine t_ild X hT mb29078 gb29078 rfl (by omega) dX12_x_5 (fun z29079 vz29079 rz29079 => ?_)
  have rz29079 : 0 ≤ z29079.toInt ∧ z29079.toInt ≤ 143 := rz29079
  refine lv_aload_n hx hb dX12_x_6 rfl (lv_at hl 0 rfl) ?_
  refine t_get (C := RX12) (T := TX12) (N := 31) X hT m0 g0 rfl rfl 0 (by decide) qw_627 inlX12 rfl dX12_x_7 (fun v29080 hv29080 ov29080 => ?_)
  obtain ⟨z29081, rfl, rz29081⟩ := okV_i ov29080
  refine lv_irem hx hb dX12_x_10 (ne0_of (by omega)) ?_
  refine lv_topi (fun z29082 ez29082 => ?_)
  have hz29082 := ar_remv ez29082 (by omega) (by omega)
  have rz29082 : 0 ≤ z29082.toInt ∧ z29082.toInt ≤ 11 := by omega
  exact t_iret hQ X hT (⟨rfl, (by omega)⟩) (Nat.le_of_ble_eq_true rfl) (Nat.le_of_ble_eq_true rfl) dX12_x_11
set_option maxHeartbeats 4000000 in
set_option maxRecDepth 100000 in
theorem km90_X12_y (l : Launch) (G : KG) (tag : Nat → Nat) (L : List Nat) (F : Nat → va_E) (ho : okT G ttC tag L F) (p0 : Nat) (p1 : Int32) (m0 : p0 ∈ L) (g0 : tag p0 = 45) (h1 : 0 ≤ p1.toInt ∧ p1.toInt ≤ 3) : TMi l yX12_y cX12_y 2 (some .int) { frames := 0, cells := 0, slots := 0, locals := 0 } G ttC tag L F [.ref p0, .int p1] (fun r F1 => F1 = F ∧ (0 ≤ r.toInt ∧ r.toInt ≤ 143)) := by
  refine t_bodyi (y := yX12_y) (cd := cX12_y) (mL := 2) (rt := (some .int)) (rm := { frames := 0, cells := 0, slots := 0, locals := 0 }) (av := [.ref p0, .int p1]) (by decide) (Nat.le_of_ble_eq_true rfl) ho ?_
  intro p e s m args below meth c ls A Q hQ X hT hl
  have hx := X.1.1
  have hb := X.1.2.1
  have hl : lv_has ls 2 [(0, .ref p0), (1, .int p1)] := hl
  refine lv_aload_n hx hb dX12_y_0 rfl (lv_at hl 0 rfl) ?_
  refine t_get (C := RX12) (T := TX12) (N := 31) X hT m0 g0 rfl rfl 21 (by decide) qw_498 inlX12 rfl dX12_y_1 (fun v29157 hv29157 ov29157 => ?_)
  obtain ⟨b29158, rfl, mb29158, gb29158⟩ := okV_r ov29157
  have gb29158 : tag b29158 = 30 := tg_of gb29158
  refine lv_iload_n hx hb dX12_y_4 rfl (lv_at hl 1 rfl) ?_
  refine t_ild X hT mb29158 gb29158 rfl (by omega) dX12_y_5 (fun z29159 vz29159 rz29159 => ?_)
  have rz29159 : 0 ≤ z29159.toInt ∧ z29159.toInt ≤ 143 := rz29159
  refine lv_aload_n hx hb dX12_y_6 rfl (lv_at hl 0 rfl) ?_
  refine t_get (C := RX12) (T := TX12) (N := 31) X hT m0 g0 rfl rfl 0 (by decide) qw_627 inlX12 rfl dX12_y_7 (fun v29160 hv29160 ov29160 => ?_)
  obtain ⟨z29161, rfl, rz29161⟩ := okV_i ov29160
  refine lv_idiv hx hb dX12_y_10 (ne0_of (by omega)) ?_
  refine lv_topi (fun z29162 ez29162 => ?_)
  have rz29162 : 0 ≤ z29162.toInt ∧ z29162.toInt ≤ 143 := ar_divv ez29162 (A := 143) (by omega) (by omega)
  exact t_iret hQ X hT (⟨rfl, (by omega)⟩) (Nat.le_of_ble_eq_true rfl) (Nat.le_of_ble_eq_true rfl) dX12_y_11
set_option maxHeartbeats 4000000 in
set_option maxRecDepth 100000 in
theorem km91_X12_far (l : Launch) (G : KG) (tag : Nat → Nat) (L : List Nat) (F : Nat → va_E) (ho : okT G ttC tag L F) (p0 : Nat) (p1 : Int32) (p2 : Int32) (p3 : Int32) (m0 : p0 ∈ L) (g0 : tag p0 = 45) (h1 : 0 ≤ p1.toInt ∧ p1.toInt ≤ 3) : TMi l yX12_far cX12_far 6 (some .int) { frames := 1, cells := 0, slots := 0, locals := 21 } G ttC tag L F [.ref p0, .int p1, .int p2, .int p3] (fun r F1 => F1 = F ∧ ((-2147483648) ≤ r.toInt ∧ r.toInt ≤ 2147483647)) := by
  refine t_bodyi (y := yX12_far) (cd := cX12_far) (mL := 6) (rt := (some .int)) (rm := { frames := 1, cells := 0, slots := 0, locals := 21 }) (av := [.ref p0, .int p1, .int p2, .int p3]) (by decide) (Nat.le_of_ble_eq_true rfl) ho ?_
  intro p e s m args below meth c ls A Q hQ X hT hl
  have hx := X.1.1
  have hb := X.1.2.1
  have hl : lv_has ls 6 [(0, .ref p0), (1, .int p1), (2, .int p2), (3, .int p3)] := hl
  have rp2 := rg_all p2
  have rp3 := rg_all p3
  have K54 : ∀ (z29372 : Int32) (z29373 : Int32) (H : Heap) (locs : List Loc) (ls : Array Slot), TH G ttC A s tag L F H locs → lv_has ls 6 [(0, .ref p0), (1, .int p1), (2, .int p2), (3, .int p3), (4, .int z29372)] → W p l e { frames := 1, cells := 0, slots := 0, locals := 21 } s m args below meth c H locs 0 0 Q (F0 m 54 ls [.int z29373]) := by
    intro z29372 z29373 H locs ls hT hl
    have rz29372 := rg_all z29372
    have rz29373 := rg_all z29373
    refine lv_istore (lv' := [(5, .int z29373), (0, .ref p0), (1, .int p1), (2, .int p2), (3, .int p3), (4, .int z29372)]) hx hb dX12_far_54 hl (by decide) rfl (fun ls hl => ?_)
    refine lv_iload hx hb dX12_far_56 (lv_at hl 5 rfl) ?_
    refine lv_iload hx hb dX12_far_58 (lv_at hl 0 rfl) ?_
    refine lv_icmp_le (tgt := 68) hx hb dX12_far_60 (by decide) (fun c29374 => ?_) (fun c29374 => ?_)
    · have w29375 := cv_le (rfl : z29372.toInt = z29372.toInt) (rfl : z29373.toInt = z29373.toInt) c29374
      refine lv_iload hx hb dX12_far_68 (lv_at hl 0 rfl) ?_
      exact t_iret hQ X hT (⟨rfl, rg_all _⟩) (Nat.le_of_ble_eq_true rfl) (Nat.le_of_ble_eq_true rfl) dX12_far_70
    · have w29376 := cv_nle (rfl : z29372.toInt = z29372.toInt) (rfl : z29373.toInt = z29373.toInt) c29374
      refine lv_iload hx hb dX12_far_63 (lv_at hl 5 rfl) ?_
      refine lv_goto (tgt := 70) hx hb dX12_far_65 (by decide) ?_
      exact t_iret hQ X hT (⟨rfl, rg_all _⟩) (Nat.le_of_ble_eq_true rfl) (Nat.le_of_ble_eq_true rfl) dX12_far_70
  have K26 : ∀ (z29377 : Int32) (H : Heap) (locs : List Loc) (ls : Array Slot), TH G ttC A s tag L F H locs → lv_has ls 6 [(0, .ref p0), (1, .int p1), (2, .int p2), (3, .int p3)] → W p l e { frames := 1, cells := 0, slots := 0, locals := 21 } s m args below meth c H locs 0 0 Q (F0 m 26 ls [.int z29377]) := by
    intro z29377 H locs ls hT hl
    have rz29377 := rg_all z29377
    refine lv_istore (lv' := [(4, .int z29377), (0, .ref p0), (1, .int p1), (2, .int p2), (3, .int p3)]) hx hb dX12_far_26 hl (by decide) rfl (fun ls hl => ?_)
    refine lv_iload_n hx hb dX12_far_28 rfl (lv_at hl 4 rfl) ?_
    refine lv_aload_n hx hb dX12_far_29 rfl (lv_at hl 1 rfl) ?_
    refine lv_iload_n hx hb dX12_far_30 rfl (lv_at hl 2 rfl) ?_
    refine t_cVi (n := 1) (C := RX12) (T := TX12) (N := 31) (As := [.int p1]) (rest := [.int p3]) X hT (km90_X12_y l G tag L F hT.2.2.2 p0 p1 m0 g0 (by omega)) m0 g0 rfl rfl qw_628 qw_629 qw_630 qw_476 qw_631 ⟨rfl, by decide +kernel, by decide +kernel, by decide +kernel⟩ ⟨Nat.le_of_ble_eq_true rfl, Nat.le_of_ble_eq_true rfl⟩ hl rfl rfl (Nat.le_of_ble_eq_true rfl) dX12_far_31 ⟨Nat.le_of_ble_eq_true rfl, Nat.le_of_ble_eq_true rfl⟩ (fun z29378 F9 H locs hT hz29378 => ?_)
    obtain ⟨fz29378, hz29378⟩ := hz29378
    rw [fz29378] at hT
    refine lv_icmp_le (tgt := 47) hx hb dX12_far_34 (by decide) (fun c29379 => ?_) (fun c29379 => ?_)
    · have w29380 := cv_le (rfl : p3.toInt = p3.toInt) (rfl : z29378.toInt = z29378.toInt) c29379
      refine lv_aload_n hx hb dX12_far_47 rfl (lv_at hl 1 rfl) ?_
      refine lv_iload_n hx hb dX12_far_48 rfl (lv_at hl 2 rfl) ?_
      refine t_cVi (n := 1) (C := RX12) (T := TX12) (N := 31) (As := [.int p1]) (rest := []) X hT (km90_X12_y l G tag L F hT.2.2.2 p0 p1 m0 g0 (by omega)) m0 g0 rfl rfl qw_628 qw_629 qw_630 qw_476 qw_631 ⟨rfl, by decide +kernel, by decide +kernel, by decide +kernel⟩ ⟨Nat.le_of_ble_eq_true rfl, Nat.le_of_ble_eq_true rfl⟩ hl rfl rfl (Nat.le_of_ble_eq_true rfl) dX12_far_49 ⟨Nat.le_of_ble_eq_true rfl, Nat.le_of_ble_eq_true rfl⟩ (fun z29381 F9 H locs hT hz29381 => ?_)
      obtain ⟨fz29381, hz29381⟩ := hz29381
      rw [fz29381] at hT
      refine lv_iload_n hx hb dX12_far_52 rfl (lv_at hl 4 rfl) ?_
      refine lv_isub hx hb dX12_far_53 ?_
      refine lv_topi (fun z29382 ez29382 => ?_)
      have rz29382 := rg_all z29382
      exact K54 z29377 z29382 _ _ _  hT  (lv_sub hl [1, 2, 3, 4, 0] rfl)
    · have w29383 := cv_nle (rfl : p3.toInt = p3.toInt) (rfl : z29378.toInt = z29378.toInt) c29379
      refine lv_iload_n hx hb dX12_far_37 rfl (lv_at hl 4 rfl) ?_
      refine lv_aload_n hx hb dX12_far_38 rfl (lv_at hl 1 rfl) ?_
      refine lv_iload_n hx hb dX12_far_39 rfl (lv_at hl 2 rfl) ?_
      refine t_cVi (n := 1) (C := RX12) (T := TX12) (N := 31) (As := [.int p1]) (rest := [.int p3]) X hT (km90_X12_y l G tag L F hT.2.2.2 p0 p1 m0 g0 (by omega)) m0 g0 rfl rfl qw_628 qw_629 qw_630 qw_476 qw_631 ⟨rfl, by decide +kernel, by decide +kernel, by decide +kernel⟩ ⟨Nat.le_of_ble_eq_true rfl, Nat.le_of_ble_eq_true rfl⟩ hl rfl rfl (Nat.le_of_ble_eq_true rfl) dX12_far_40 ⟨Nat.le_of_ble_eq_true rfl, Nat.le_of_ble_eq_true rfl⟩ (fun z29384 F9 H locs hT hz29384 => ?_)
      obtain ⟨fz29384, hz29384⟩ := hz29384
      rw [fz29384] at hT
      refine lv_isub hx hb dX12_far_43 ?_
      refine lv_topi (fun z29385 ez29385 => ?_)
      have hz29385 : z29385.toInt = p3.toInt - z29384.toInt := ar_sub ez29385 (rfl : p3.toInt = p3.toInt) (rfl : z29384.toInt = z29384.toInt) (by omega) (by omega)
      have rz29385 : (-142) ≤ z29385.toInt ∧ z29385.toInt ≤ 2147483647 := by omega
      refine lv_goto (tgt := 54) hx hb dX12_far_44 (by decide) ?_
      exact K54 z29377 z29385 _ _ _  hT  (lv_sub hl [1, 2, 3, 4, 0] rfl)
  refine lv_iload_n hx hb dX12_far_0 rfl (lv_at hl 2 rfl) ?_
  refine lv_aload_n hx hb dX12_far_1 rfl (lv_at hl 0 rfl) ?_
  refine lv_iload_n hx hb dX12_far_2 rfl (lv_at hl 1 rfl) ?_
  refine t_cVi (n := 1) (C := RX12) (T := TX12) (N := 31) (As := [.int p1]) (rest := [.int p2]) X hT (km89_X12_x l G tag L F hT.2.2.2 p0 p1 m0 g0 (by omega)) m0 g0 rfl rfl qw_623 qw_624 qw_625 qw_476 qw_626 ⟨rfl, by decide +kernel, by decide +kernel, by decide +kernel⟩ ⟨Nat.le_of_ble_eq_true rfl, Nat.le_of_ble_eq_true rfl⟩ hl rfl rfl (Nat.le_of_ble_eq_true rfl) dX12_far_3 ⟨Nat.le_of_ble_eq_true rfl, Nat.le_of_ble_eq_true rfl⟩ (fun z29386 F9 H locs hT hz29386 => ?_)
  obtain ⟨fz29386, hz29386⟩ := hz29386
  rw [fz29386] at hT
  refine lv_icmp_le (tgt := 19) hx hb dX12_far_6 (by decide) (fun c29387 => ?_) (fun c29387 => ?_)
  · have w29388 := cv_le (rfl : p2.toInt = p2.toInt) (rfl : z29386.toInt = z29386.toInt) c29387
    refine lv_aload_n hx hb dX12_far_19 rfl (lv_at hl 0 rfl) ?_
    refine lv_iload_n hx hb dX12_far_20 rfl (lv_at hl 1 rfl) ?_
    refine t_cVi (n := 1) (C := RX12) (T := TX12) (N := 31) (As := [.int p1]) (rest := []) X hT (km89_X12_x l G tag L F hT.2.2.2 p0 p1 m0 g0 (by omega)) m0 g0 rfl rfl qw_623 qw_624 qw_625 qw_476 qw_626 ⟨rfl, by decide +kernel, by decide +kernel, by decide +kernel⟩ ⟨Nat.le_of_ble_eq_true rfl, Nat.le_of_ble_eq_true rfl⟩ hl rfl rfl (Nat.le_of_ble_eq_true rfl) dX12_far_21 ⟨Nat.le_of_ble_eq_true rfl, Nat.le_of_ble_eq_true rfl⟩ (fun z29389 F9 H locs hT hz29389 => ?_)
    obtain ⟨fz29389, hz29389⟩ := hz29389
    rw [fz29389] at hT
    refine lv_iload_n hx hb dX12_far_24 rfl (lv_at hl 2 rfl) ?_
    refine lv_isub hx hb dX12_far_25 ?_
    refine lv_topi (fun z29390 ez29390 => ?_)
    have rz29390 := rg_all z29390
    exact K26 z29390 _ _ _  hT  (lv_sub hl [0, 1, 2, 3] rfl)
  · have w29391 := cv_nle (rfl : p2.toInt = p2.toInt) (rfl : z29386.toInt = z29386.toInt) c29387
    refine lv_iload_n hx hb dX12_far_9 rfl (lv_at hl 2 rfl) ?_
    refine lv_aload_n hx hb dX12_far_10 rfl (lv_at hl 0 rfl) ?_
    refine lv_iload_n hx hb dX12_far_11 rfl (lv_at hl 1 rfl) ?_
    refine t_cVi (n := 1) (C := RX12) (T := TX12) (N := 31) (As := [.int p1]) (rest := [.int p2]) X hT (km89_X12_x l G tag L F hT.2.2.2 p0 p1 m0 g0 (by omega)) m0 g0 rfl rfl qw_623 qw_624 qw_625 qw_476 qw_626 ⟨rfl, by decide +kernel, by decide +kernel, by decide +kernel⟩ ⟨Nat.le_of_ble_eq_true rfl, Nat.le_of_ble_eq_true rfl⟩ hl rfl rfl (Nat.le_of_ble_eq_true rfl) dX12_far_12 ⟨Nat.le_of_ble_eq_true rfl, Nat.le_of_ble_eq_true rfl⟩ (fun z29392 F9 H locs hT hz29392 => ?_)
    obtain ⟨fz29392, hz29392⟩ := hz29392
    rw [fz29392] at hT
    refine lv_isub hx hb dX12_far_15 ?_
    refine lv_topi (fun z29393 ez29393 => ?_)
    have hz29393 : z29393.toInt = p2.toInt - z29392.toInt := ar_sub ez29393 (rfl : p2.toInt = p2.toInt) (rfl : z29392.toInt = z29392.toInt) (by omega) (by omega)
    have rz29393 : (-10) ≤ z29393.toInt ∧ z29393.toInt ≤ 2147483647 := by omega
    refine lv_goto (tgt := 26) hx hb dX12_far_16 (by decide) ?_
    exact K26 z29393 _ _ _  hT  (lv_sub hl [0, 1, 2, 3] rfl)
set_option maxHeartbeats 4000000 in
set_option maxRecDepth 100000 in
theorem km92_X13_ownersOf (l : Launch) (G : KG) (tag : Nat → Nat) (L : List Nat) (F : Nat → va_E) (ho : okT G ttC tag L F) (p0 : Nat) (p1 : Nat) (p2 : Int32) (p3 : Int32) (m0 : p0 ∈ L) (g0 : tag p0 = 45) (m1 : p1 ∈ L) (g1 : tag p1 = 37) : TMi l yX13_ownersOf cX13_ownersOf 6 (some .int) { frames := 2, cells := 0, slots := 0, locals := 46 } G ttC tag L F [.ref p0, .ref p1, .int p2, .int p3] (fun r F1 => F1 = F ∧ (0 ≤ r.toInt ∧ r.toInt ≤ 15)) := by
  refine t_bodyi (y := yX13_ownersOf) (cd := cX13_ownersOf) (mL := 6) (rt := (some .int)) (rm := { frames := 2, cells := 0, slots := 0, locals := 46 }) (av := [.ref p0, .ref p1, .int p2, .int p3]) (by decide) (Nat.le_of_ble_eq_true rfl) ho ?_
  intro p e s m args below meth c ls A Q hQ X hT hl
  have hx := X.1.1
  have hb := X.1.2.1
  have hl : lv_has ls 6 [(0, .ref p0), (1, .ref p1), (2, .int p2), (3, .int p3)] := hl
  have rp2 := rg_all p2
  have rp3 := rg_all p3
  have K6 : ∀ (n : Nat) (z29611 : Int32) (z29612 : Int32) (H : Heap) (locs : List Loc) (ls : Array Slot), (4 - z29612.toInt < (n : Int)) → (0 ≤ z29611.toInt ∧ z29611.toInt ≤ 15) → (0 ≤ z29612.toInt ∧ z29612.toInt ≤ 4) → TH G ttC A s tag L F H locs → lv_has ls 6 [(0, .ref p0), (1, .ref p1), (2, .int p2), (3, .int p3), (4, .int z29611), (5, .int z29612)] → W p l e { frames := 2, cells := 0, slots := 0, locals := 46 } s m args below meth c H locs 0 0 Q (F0 m 6 ls []) := by
    intro n
    induction n with
    | zero =>
      intro z29611 z29612 H locs ls hn rz29611 rz29612 hT hl
      exfalso
      omega
    | succ n ih6 =>
      intro z29611 z29612 H locs ls hn rz29611 rz29612 hT hl
      have K42 : ∀ (z29614 : Int32) (z29615 : Int32) (z29616 : Int32) (H : Heap) (locs : List Loc) (ls : Array Slot), (0 ≤ z29614.toInt ∧ z29614.toInt ≤ 8) → (0 ≤ z29615.toInt ∧ z29615.toInt ≤ 15) → (1 ≤ z29616.toInt ∧ z29616.toInt ≤ 4) → (0 ≤ z29612.toInt ∧ z29612.toInt ≤ 3) → TH G ttC A s tag L F H locs → (fld F p0 8 = .int z29616) → lv_has ls 6 [(0, .ref p0), (1, .ref p1), (2, .int p2), (3, .int p3), (4, .int z29611), (5, .int z29612)] → W p l e { frames := 2, cells := 0, slots := 0, locals := 46 } s m args below meth c H locs 0 0 Q (F0 m 42 ls [.int z29614, .int z29615]) := by
        intro z29614 z29615 z29616 H locs ls rz29614 rz29615 rz29616 r9s29613 hT qz29616 hl
        refine lv_ior hx hb dX13_ownersOf_42 ?_
        refine lv_topi (fun z29617 ez29617 => ?_)
        have rz29617 : 0 ≤ z29617.toInt ∧ z29617.toInt ≤ 15 := ar_or ez29617 4 (by omega) (by omega) (by decide)
        refine lv_istore (lv' := [(4, .int z29617), (0, .ref p0), (1, .ref p1), (2, .int p2), (3, .int p3), (5, .int z29612)]) hx hb dX13_ownersOf_43 hl (by decide) rfl (fun ls hl => ?_)
        obtain ⟨z29618, ez29618⟩ : ∃ y : Int32, y = z29612 + 1 := ⟨_, rfl⟩
        have hz29618 : z29618.toInt = z29612.toInt + 1 := ar_add ez29618 rfl (by decide : (1 : Int32).toInt = 1) (by omega) (by omega)
        refine lv_iinc (v := z29618) (lv' := [(5, .int z29618), (4, .int z29617), (0, .ref p0), (1, .ref p1), (2, .int p2), (3, .int p3)]) hx hb dX13_ownersOf_45 hl (k := 5) rfl (by rw [ez29618]; rfl) (by decide) rfl (fun ls hl => ?_)
        refine lv_goto (tgt := 6) hx hb dX13_ownersOf_48 (by decide) ?_
        exact ih6 z29617 z29618 _ _ _ (by omega) (by omega) (by omega) hT  (lv_sub hl [2, 3, 4, 5, 1, 0] rfl)
      refine lv_iload hx hb dX13_ownersOf_6 (lv_at hl 5 rfl) ?_
      refine lv_aload_n hx hb dX13_ownersOf_8 rfl (lv_at hl 0 rfl) ?_
      refine t_getN (C := RX12) (T := TX12) (N := 31) X hT m0 g0 rfl rfl 8 (by decide) (List.mem_of_getElem? (i := 12) rfl) inlX12 rfl dX13_ownersOf_9 (fun v29619 hv29619 ov29619 => ?_)
      obtain ⟨z29620, rfl, rz29620⟩ := okV_i ov29619
      refine lv_icmp_ge (tgt := 51) hx hb dX13_ownersOf_12 (by decide) (fun c29621 => ?_) (fun c29621 => ?_)
      · have w29622 := cv_le (rfl : z29620.toInt = z29620.toInt) (rfl : z29612.toInt = z29612.toInt) c29621
        refine lv_iload hx hb dX13_ownersOf_51 (lv_at hl 4 rfl) ?_
        exact t_iret hQ X hT (⟨rfl, (by omega)⟩) (Nat.le_of_ble_eq_true rfl) (Nat.le_of_ble_eq_true rfl) dX13_ownersOf_53
      · have w29623 := cv_nle (rfl : z29620.toInt = z29620.toInt) (rfl : z29612.toInt = z29612.toInt) c29621
        refine lv_iload hx hb dX13_ownersOf_15 (lv_at hl 4 rfl) ?_
        refine lv_aload_n hx hb dX13_ownersOf_17 rfl (lv_at hl 0 rfl) ?_
        refine lv_iload hx hb dX13_ownersOf_18 (lv_at hl 5 rfl) ?_
        refine lv_iload_n hx hb dX13_ownersOf_20 rfl (lv_at hl 2 rfl) ?_
        refine lv_iload_n hx hb dX13_ownersOf_21 rfl (lv_at hl 3 rfl) ?_
        refine t_cVi (n := 3) (C := RX12) (T := TX12) (N := 31) (As := [.int z29612, .int p2, .int p3]) (rest := [.int z29611]) X hT (km91_X12_far l G tag L F hT.2.2.2 p0 z29612 p2 p3 m0 g0 (by omega)) m0 g0 rfl rfl qw_619 qw_620 qw_621 qw_476 qw_622 ⟨rfl, by decide +kernel, by decide +kernel, by decide +kernel⟩ ⟨Nat.le_of_ble_eq_true rfl, Nat.le_of_ble_eq_true rfl⟩ hl rfl rfl (Nat.le_of_ble_eq_true rfl) dX13_ownersOf_22 ⟨Nat.le_of_ble_eq_true rfl, Nat.le_of_ble_eq_true rfl⟩ (fun z29624 F9 H locs hT hz29624 => ?_)
        obtain ⟨fz29624, hz29624⟩ := hz29624
        rw [fz29624] at hT
        refine lv_aload_n hx hb dX13_ownersOf_25 rfl (lv_at hl 1 rfl) ?_
        refine lv_iconst (v := 0) hx hb dX13_ownersOf_26 (by decide) ?_
        refine lv_iload hx hb dX13_ownersOf_27 (lv_at hl 5 rfl) ?_
        refine lv_iadd hx hb dX13_ownersOf_29 ?_
        refine lv_topi (fun z29625 ez29625 => ?_)
        obtain rfl : z29612 = z29625 := (ar_zadd ez29625).symm
        refine t_ild X hT m1 g1 rfl (by omega) dX13_ownersOf_30 (fun z29626 vz29626 rz29626 => ?_)
        have rz29626 := row_ml (by omega) rz29626
        refine lv_icmp_gt (tgt := 41) hx hb dX13_ownersOf_31 (by decide) (fun c29627 => ?_) (fun c29627 => ?_)
        · have w29628 := cv_lt (rfl : z29626.toInt = z29626.toInt) (rfl : z29624.toInt = z29624.toInt) c29627
          refine lv_iconst (v := 0) hx hb dX13_ownersOf_41 (by decide) ?_
          have k29629 : (0 : Int32).toInt = 0 := by decide
          exact K42 0 z29611 z29620 _ _ _ (by decide) (by omega) (by omega) (by omega) hT hv29619 (lv_sub hl [0, 1, 2, 3, 4, 5] rfl)
        · have w29630 := cv_nlt (rfl : z29626.toInt = z29626.toInt) (rfl : z29624.toInt = z29624.toInt) c29627
          refine lv_iconst (v := 1) hx hb dX13_ownersOf_34 (by decide) ?_
          refine lv_iload hx hb dX13_ownersOf_35 (lv_at hl 5 rfl) ?_
          refine lv_ishl hx hb dX13_ownersOf_37 ?_
          refine lv_topi (fun z29631 ez29631 => ?_)
          have hz29631 := ar_shl3 ez29631 (by omega)
          have rz29631 : 1 ≤ z29631.toInt ∧ z29631.toInt ≤ 8 := by omega
          refine lv_goto (tgt := 42) hx hb dX13_ownersOf_38 (by decide) ?_
          exact K42 z29631 z29611 z29620 _ _ _ (by omega) (by omega) (by omega) (by omega) hT hv29619 (lv_sub hl [0, 1, 2, 3, 4, 5] rfl)
  refine lv_iconst (v := 0) hx hb dX13_ownersOf_0 (by decide) ?_
  refine lv_istore (lv' := [(4, .int 0), (0, .ref p0), (1, .ref p1), (2, .int p2), (3, .int p3)]) hx hb dX13_ownersOf_1 hl (by decide) rfl (fun ls hl => ?_)
  refine lv_iconst (v := 0) hx hb dX13_ownersOf_3 (by decide) ?_
  refine lv_istore (lv' := [(5, .int 0), (4, .int 0), (0, .ref p0), (1, .ref p1), (2, .int p2), (3, .int p3)]) hx hb dX13_ownersOf_4 hl (by decide) rfl (fun ls hl => ?_)
  have k29632 : (0 : Int32).toInt = 0 := by decide
  have k29633 : (0 : Int32).toInt = 0 := by decide
  exact K6 5 0 0 _ _ _ (by omega) (by decide) (by decide) hT  (lv_sub hl [2, 3, 4, 5, 1, 0] rfl)
set_option maxHeartbeats 4000000 in
set_option maxRecDepth 100000 in
theorem km93_X13_good (l : Launch) (G : KG) (tag : Nat → Nat) (L : List Nat) (Fo : Nat → va_E) (ho : okT G ttC tag L Fo) (p0 : Nat) (p1 : Int32) (m0 : p0 ∈ L) (g0 : tag p0 = 46) : TMi l yX13_good cX13_good 2 (some .int) { frames := 0, cells := 0, slots := 0, locals := 0 } G ttC tag L Fo [.ref p0, .int p1] (fun r F1 => ((-2147483648) ≤ r.toInt ∧ r.toInt ≤ 2147483647) ∧ ((∀ b j : Nat, (tag b ≠ 46 ∨ j ≠ 1) → (tag b ≠ 46 ∨ j ≠ 2) → fld F1 b j = fld Fo b j) ∧ (∀ b j : Nat, elm F1 b j = elm Fo b j))) := by
  refine t_bodyi (y := yX13_good) (cd := cX13_good) (mL := 2) (rt := (some .int)) (rm := { frames := 0, cells := 0, slots := 0, locals := 0 }) (av := [.ref p0, .int p1]) (by decide) (Nat.le_of_ble_eq_true rfl) ho ?_
  intro p e s m args below meth c ls A Q hQ X hT hl
  have hx := X.1.1
  have hb := X.1.2.1
  have hl : lv_has ls 2 [(0, .ref p0), (1, .int p1)] := hl
  have rp1 := rg_all p1
  obtain ⟨F, hFo⟩ : ∃ F : Nat → va_E, F = Fo := ⟨_, rfl⟩
  rw [← hFo] at hT
  have hfr : (∀ b j : Nat, (tag b ≠ 46 ∨ j ≠ 1) → (tag b ≠ 46 ∨ j ≠ 2) → fld F b j = fld Fo b j) ∧ (∀ b j : Nat, elm F b j = elm Fo b j) := by
    rw [hFo]
    exact ⟨by intros; rfl, by intros; rfl⟩
  refine lv_aload_n hx hb dX13_good_0 rfl (lv_at hl 0 rfl) ?_
  refine lv_iconst (v := 0) hx hb dX13_good_1 (by decide) ?_
  refine t_put (C := RX13) (T := TX13) (N := 37) (v := .int 0) X hT m0 g0 rfl tyX13 tyX13_ok nmX13 rfl 1 (by decide) qw_479 inlX13 rfl (by first | rfl | decide) (by first | rfl | decide) rfl (⟨_, rfl, (show (-2147483648) ≤ (0 : Int32).toInt from (by decide)), (show (0 : Int32).toInt ≤ 2147483647 from (by decide))⟩) dX13_good_2 (fun F H locs hT v29657 h1v29657 h2v29657 => ?_)
  have hfr : (∀ b j : Nat, (tag b ≠ 46 ∨ j ≠ 1) → (tag b ≠ 46 ∨ j ≠ 2) → fld F b j = fld Fo b j) ∧ (∀ b j : Nat, elm F b j = elm Fo b j) := ⟨fun b j n46_1 n46_2 => (h1v29657 b j (fr_ne g0 n46_1)).trans (hfr.1 b j n46_1 n46_2), fun b j  => (h2v29657 b j).trans (hfr.2 b j )⟩
  refine lv_aload_n hx hb dX13_good_5 rfl (lv_at hl 0 rfl) ?_
  refine lv_iconst (v := (-1)) hx hb dX13_good_6 (by decide) ?_
  refine t_put (C := RX13) (T := TX13) (N := 37) (v := .int (-1)) X hT m0 g0 rfl tyX13 tyX13_ok nmX13 rfl 2 (by decide) qw_109 inlX13 rfl (by first | rfl | decide) (by first | rfl | decide) rfl (⟨_, rfl, (show (-2147483648) ≤ ((-1) : Int32).toInt from (by decide)), (show ((-1) : Int32).toInt ≤ 2147483647 from (by decide))⟩) dX13_good_7 (fun F H locs hT v29658 h1v29658 h2v29658 => ?_)
  have v29657 := (h1v29658 _ _ (Or.inr (by decide))).trans v29657
  have hfr : (∀ b j : Nat, (tag b ≠ 46 ∨ j ≠ 1) → (tag b ≠ 46 ∨ j ≠ 2) → fld F b j = fld Fo b j) ∧ (∀ b j : Nat, elm F b j = elm Fo b j) := ⟨fun b j n46_1 n46_2 => (h1v29658 b j (fr_ne g0 n46_2)).trans (hfr.1 b j n46_1 n46_2), fun b j  => (h2v29658 b j).trans (hfr.2 b j )⟩
  refine lv_iload_n hx hb dX13_good_10 rfl (lv_at hl 1 rfl) ?_
  exact t_iret hQ X hT (⟨rg_all _, hfr⟩) (Nat.le_of_ble_eq_true rfl) (Nat.le_of_ble_eq_true rfl) dX13_good_11
set_option maxHeartbeats 4000000 in
set_option maxRecDepth 100000 in
theorem km94_X13_whose (l : Launch) (G : KG) (tag : Nat → Nat) (L : List Nat) (Fo : Nat → va_E) (ho : okT G ttC tag L Fo) (p0 : Nat) (p1 : Int32) (p2 : Int32) (x0 : Nat) (m0 : p0 ∈ L) (g0 : tag p0 = 46) (mx0 : x0 ∈ L) (gx0 : tag x0 = 45) (pf0 : fld Fo p0 3 = .ref x0) : TMi l yX13_whose cX13_whose 3 (some .int) { frames := 3, cells := 0, slots := 0, locals := 71 } G ttC tag L Fo [.ref p0, .int p1, .int p2] (fun r F1 => ((-2147483648) ≤ r.toInt ∧ r.toInt ≤ 2147483647) ∧ ((∀ b j : Nat, (tag b ≠ 46 ∨ j ≠ 0) → (tag b ≠ 46 ∨ j ≠ 1) → (tag b ≠ 46 ∨ j ≠ 2) → fld F1 b j = fld Fo b j) ∧ (∀ b j : Nat, elm F1 b j = elm Fo b j))) := by
  refine t_bodyi (y := yX13_whose) (cd := cX13_whose) (mL := 3) (rt := (some .int)) (rm := { frames := 3, cells := 0, slots := 0, locals := 71 }) (av := [.ref p0, .int p1, .int p2]) (by decide) (Nat.le_of_ble_eq_true rfl) ho ?_
  intro p e s m args below meth c ls A Q hQ X hT hl
  have hx := X.1.1
  have hb := X.1.2.1
  have hl : lv_has ls 3 [(0, .ref p0), (1, .int p1), (2, .int p2)] := hl
  have rp1 := rg_all p1
  have rp2 := rg_all p2
  obtain ⟨F, hFo⟩ : ∃ F : Nat → va_E, F = Fo := ⟨_, rfl⟩
  rw [← hFo] at hT pf0
  have hfr : (∀ b j : Nat, (tag b ≠ 46 ∨ j ≠ 0) → (tag b ≠ 46 ∨ j ≠ 1) → (tag b ≠ 46 ∨ j ≠ 2) → fld F b j = fld Fo b j) ∧ (∀ b j : Nat, elm F b j = elm Fo b j) := by
    rw [hFo]
    exact ⟨by intros; rfl, by intros; rfl⟩
  refine lv_aload_n hx hb dX13_whose_0 rfl (lv_at hl 0 rfl) ?_
  refine lv_iconst (v := 0) hx hb dX13_whose_1 (by decide) ?_
  refine t_put (C := RX13) (T := TX13) (N := 37) (v := .int 0) X hT m0 g0 rfl tyX13 tyX13_ok nmX13 rfl 0 (by decide) qw_140 inlX13 rfl (by first | rfl | decide) (by first | rfl | decide) rfl (⟨_, rfl, (show (-2147483648) ≤ (0 : Int32).toInt from (by decide)), (show (0 : Int32).toInt ≤ 2147483647 from (by decide))⟩) dX13_whose_2 (fun F H locs hT v29770 h1v29770 h2v29770 => ?_)
  have pf0 := (h1v29770 _ _ (Or.inr (by decide))).trans pf0
  have hfr : (∀ b j : Nat, (tag b ≠ 46 ∨ j ≠ 0) → (tag b ≠ 46 ∨ j ≠ 1) → (tag b ≠ 46 ∨ j ≠ 2) → fld F b j = fld Fo b j) ∧ (∀ b j : Nat, elm F b j = elm Fo b j) := ⟨fun b j n46_0 n46_1 n46_2 => (h1v29770 b j (fr_ne g0 n46_0)).trans (hfr.1 b j n46_0 n46_1 n46_2), fun b j  => (h2v29770 b j).trans (hfr.2 b j )⟩
  refine lv_aload_n hx hb dX13_whose_5 rfl (lv_at hl 0 rfl) ?_
  refine lv_iload_n hx hb dX13_whose_6 rfl (lv_at hl 1 rfl) ?_
  refine lv_iload_n hx hb dX13_whose_7 rfl (lv_at hl 2 rfl) ?_
  refine t_cVi (n := 2) (C := RX13) (T := TX13) (N := 37) (As := [.int p1, .int p2]) (rest := []) X hT (km87_X13_isCell l G tag L F hT.2.2.2 p0 p1 p2 x0 m0 g0 mx0 gx0 pf0) m0 g0 rfl rfl qw_719 qw_720 qw_721 qw_5 qw_722 ⟨rfl, by decide +kernel, by decide +kernel, by decide +kernel⟩ ⟨Nat.le_of_ble_eq_true rfl, Nat.le_of_ble_eq_true rfl⟩ hl rfl rfl (Nat.le_of_ble_eq_true rfl) dX13_whose_8 ⟨Nat.le_of_ble_eq_true rfl, Nat.le_of_ble_eq_true rfl⟩ (fun z29771 F9 H locs hT hz29771 => ?_)
  obtain ⟨fz29771, hz29771⟩ := hz29771
  rw [fz29771] at hT
  refine lv_if_eq (tgt := 34) hx hb dX13_whose_11 (by decide) (fun c29772 => ?_) (fun c29772 => ?_)
  · have w29773 := cv_eq (rfl : z29771.toInt = z29771.toInt) (by decide : (0 : Int32).toInt = 0) c29772
    refine lv_aload_n hx hb dX13_whose_34 rfl (lv_at hl 0 rfl) ?_
    refine lv_iconst (v := 1) hx hb dX13_whose_35 (by decide) ?_
    refine t_cVi (n := 1) (C := RX13) (T := TX13) (N := 37) (As := [.int 1]) (rest := []) X hT (km88_X13_refused l G tag L F hT.2.2.2 p0 1 m0 g0) m0 g0 rfl rfl qw_484 qw_485 qw_486 qw_5 qw_487 ⟨rfl, by decide +kernel, by decide +kernel, by decide +kernel⟩ ⟨Nat.le_of_ble_eq_true rfl, Nat.le_of_ble_eq_true rfl⟩ hl rfl rfl (Nat.le_of_ble_eq_true rfl) dX13_whose_36 ⟨Nat.le_of_ble_eq_true rfl, Nat.le_of_ble_eq_true rfl⟩ (fun z29774 F H locs hT hz29774 => ?_)
    obtain ⟨hz29774, yz29774⟩ := hz29774
    have pf0 := (yz29774.1 _ 3 (Or.inr (by decide)) (Or.inr (by decide))).trans pf0
    have v29770 := (yz29774.1 _ 0 (Or.inr (by decide)) (Or.inr (by decide))).trans v29770
    have hfr : (∀ b j : Nat, (tag b ≠ 46 ∨ j ≠ 0) → (tag b ≠ 46 ∨ j ≠ 1) → (tag b ≠ 46 ∨ j ≠ 2) → fld F b j = fld Fo b j) ∧ (∀ b j : Nat, elm F b j = elm Fo b j) := ⟨fun b j n46_0 n46_1 n46_2 => (yz29774.1 b j n46_1 n46_2).trans (hfr.1 b j n46_0 n46_1 n46_2), fun b j  => (yz29774.2 b j ).trans (hfr.2 b j )⟩
    exact t_iret hQ X hT (⟨rg_all _, hfr⟩) (Nat.le_of_ble_eq_true rfl) (Nat.le_of_ble_eq_true rfl) dX13_whose_39
  · have w29775 := cv_ne (rfl : z29771.toInt = z29771.toInt) (by decide : (0 : Int32).toInt = 0) c29772
    refine lv_aload_n hx hb dX13_whose_14 rfl (lv_at hl 0 rfl) ?_
    refine lv_aload_n hx hb dX13_whose_15 rfl (lv_at hl 0 rfl) ?_
    refine t_get (C := RX13) (T := TX13) (N := 37) X hT m0 g0 rfl rfl 3 (by decide) qw_481 inlX13 rfl dX13_whose_16 (fun v29776 hv29776 ov29776 => ?_)
    obtain rfl : v29776 = .ref x0 := hv29776.symm.trans pf0
    refine lv_aload_n hx hb dX13_whose_19 rfl (lv_at hl 0 rfl) ?_
    refine t_get (C := RX13) (T := TX13) (N := 37) X hT m0 g0 rfl rfl 16 (by decide) qw_112 inlX13 rfl dX13_whose_20 (fun v29777 hv29777 ov29777 => ?_)
    obtain ⟨b29778, rfl, mb29778, gb29778⟩ := okV_r ov29777
    have gb29778 : tag b29778 = 37 := tg_of gb29778
    refine lv_iload_n hx hb dX13_whose_23 rfl (lv_at hl 1 rfl) ?_
    refine lv_iload_n hx hb dX13_whose_24 rfl (lv_at hl 2 rfl) ?_
    refine t_cSi (n := 4) (As := [.ref x0, .ref b29778, .int p1, .int p2]) (rest := [.ref p0]) X hT (km92_X13_ownersOf l G tag L F hT.2.2.2 x0 b29778 p1 p2 mx0 gx0 mb29778 gb29778) qw_616 qw_617 qw_5 qw_618 ⟨by decide +kernel, by decide +kernel, by decide +kernel⟩ ⟨Nat.le_of_ble_eq_true rfl, Nat.le_of_ble_eq_true rfl⟩ hl rfl rfl (Nat.le_of_ble_eq_true rfl) dX13_whose_25 ⟨Nat.le_of_ble_eq_true rfl, Nat.le_of_ble_eq_true rfl⟩ (fun z29779 F9 H locs hT hz29779 => ?_)
    obtain ⟨fz29779, hz29779⟩ := hz29779
    rw [fz29779] at hT
    refine t_cVi (n := 1) (C := RX13) (T := TX13) (N := 37) (As := [.int z29779]) (rest := []) X hT (km93_X13_good l G tag L F hT.2.2.2 p0 z29779 m0 g0) m0 g0 rfl rfl qw_687 qw_688 qw_689 qw_5 qw_690 ⟨rfl, by decide +kernel, by decide +kernel, by decide +kernel⟩ ⟨Nat.le_of_ble_eq_true rfl, Nat.le_of_ble_eq_true rfl⟩ hl rfl rfl (Nat.le_of_ble_eq_true rfl) dX13_whose_28 ⟨Nat.le_of_ble_eq_true rfl, Nat.le_of_ble_eq_true rfl⟩ (fun z29780 F H locs hT hz29780 => ?_)
    obtain ⟨hz29780, yz29780⟩ := hz29780
    have pf0 := (yz29780.1 _ 3 (Or.inr (by decide)) (Or.inr (by decide))).trans pf0
    have v29770 := (yz29780.1 _ 0 (Or.inr (by decide)) (Or.inr (by decide))).trans v29770
    have hv29777 := (yz29780.1 _ 16 (Or.inr (by decide)) (Or.inr (by decide))).trans hv29777
    have hfr : (∀ b j : Nat, (tag b ≠ 46 ∨ j ≠ 0) → (tag b ≠ 46 ∨ j ≠ 1) → (tag b ≠ 46 ∨ j ≠ 2) → fld F b j = fld Fo b j) ∧ (∀ b j : Nat, elm F b j = elm Fo b j) := ⟨fun b j n46_0 n46_1 n46_2 => (yz29780.1 b j n46_1 n46_2).trans (hfr.1 b j n46_0 n46_1 n46_2), fun b j  => (yz29780.2 b j ).trans (hfr.2 b j )⟩
    refine lv_goto (tgt := 39) hx hb dX13_whose_31 (by decide) ?_
    exact t_iret hQ X hT (⟨rg_all _, hfr⟩) (Nat.le_of_ble_eq_true rfl) (Nat.le_of_ble_eq_true rfl) dX13_whose_39
set_option maxHeartbeats 4000000 in
set_option maxRecDepth 100000 in
theorem km95_X13_isCell (l : Launch) (G : KG) (tag : Nat → Nat) (L : List Nat) (F : Nat → va_E) (ho : okT G ttC tag L F) (p0 : Nat) (p1 : Int32) (p2 : Int32) (m0 : p0 ∈ L) (g0 : tag p0 = 46) (pf0 : fld F p0 3 = .null) : TMi l yX13_isCell cX13_isCell 3 (some .boolean) { frames := 0, cells := 0, slots := 0, locals := 0 } G ttC tag L F [.ref p0, .int p1, .int p2] (fun r F1 => F1 = F ∧ (0 ≤ r.toInt ∧ r.toInt ≤ 0)) := by
  refine t_bodyi (y := yX13_isCell) (cd := cX13_isCell) (mL := 3) (rt := (some .boolean)) (rm := { frames := 0, cells := 0, slots := 0, locals := 0 }) (av := [.ref p0, .int p1, .int p2]) (by decide) (Nat.le_of_ble_eq_true rfl) ho ?_
  intro p e s m args below meth c ls A Q hQ X hT hl
  have hx := X.1.1
  have hb := X.1.2.1
  have hl : lv_has ls 3 [(0, .ref p0), (1, .int p1), (2, .int p2)] := hl
  have rp1 := rg_all p1
  have rp2 := rg_all p2
  refine lv_aload_n hx hb dX13_isCell_0 rfl (lv_at hl 0 rfl) ?_
  refine t_get (C := RX13) (T := TX13) (N := 37) X hT m0 g0 rfl rfl 3 (by decide) qw_481 inlX13 rfl dX13_isCell_1 (fun v29793 hv29793 ov29793 => ?_)
  obtain rfl : v29793 = .null := hv29793.symm.trans pf0
  refine lv_ifnullN (tgt := 45) hx hb dX13_isCell_4 (by decide) ?_
  refine lv_iconst (v := 0) hx hb dX13_isCell_45 (by decide) ?_
  have k29794 : (0 : Int32).toInt = 0 := by decide
  exact t_zret hQ X hT (by decide) (⟨rfl, (by decide)⟩) (Nat.le_of_ble_eq_true rfl) (Nat.le_of_ble_eq_true rfl) dX13_isCell_46
set_option maxHeartbeats 4000000 in
set_option maxRecDepth 100000 in
theorem km96_X13_whose (l : Launch) (G : KG) (tag : Nat → Nat) (L : List Nat) (Fo : Nat → va_E) (ho : okT G ttC tag L Fo) (p0 : Nat) (p1 : Int32) (p2 : Int32) (m0 : p0 ∈ L) (g0 : tag p0 = 46) (pf0 : fld Fo p0 3 = .null) : TMi l yX13_whose cX13_whose 3 (some .int) { frames := 3, cells := 0, slots := 0, locals := 71 } G ttC tag L Fo [.ref p0, .int p1, .int p2] (fun r F1 => ((-2147483648) ≤ r.toInt ∧ r.toInt ≤ 2147483647) ∧ ((∀ b j : Nat, (tag b ≠ 46 ∨ j ≠ 0) → (tag b ≠ 46 ∨ j ≠ 1) → (tag b ≠ 46 ∨ j ≠ 2) → fld F1 b j = fld Fo b j) ∧ (∀ b j : Nat, elm F1 b j = elm Fo b j))) := by
  refine t_bodyi (y := yX13_whose) (cd := cX13_whose) (mL := 3) (rt := (some .int)) (rm := { frames := 3, cells := 0, slots := 0, locals := 71 }) (av := [.ref p0, .int p1, .int p2]) (by decide) (Nat.le_of_ble_eq_true rfl) ho ?_
  intro p e s m args below meth c ls A Q hQ X hT hl
  have hx := X.1.1
  have hb := X.1.2.1
  have hl : lv_has ls 3 [(0, .ref p0), (1, .int p1), (2, .int p2)] := hl
  have rp1 := rg_all p1
  have rp2 := rg_all p2
  obtain ⟨F, hFo⟩ : ∃ F : Nat → va_E, F = Fo := ⟨_, rfl⟩
  rw [← hFo] at hT pf0
  have hfr : (∀ b j : Nat, (tag b ≠ 46 ∨ j ≠ 0) → (tag b ≠ 46 ∨ j ≠ 1) → (tag b ≠ 46 ∨ j ≠ 2) → fld F b j = fld Fo b j) ∧ (∀ b j : Nat, elm F b j = elm Fo b j) := by
    rw [hFo]
    exact ⟨by intros; rfl, by intros; rfl⟩
  refine lv_aload_n hx hb dX13_whose_0 rfl (lv_at hl 0 rfl) ?_
  refine lv_iconst (v := 0) hx hb dX13_whose_1 (by decide) ?_
  refine t_put (C := RX13) (T := TX13) (N := 37) (v := .int 0) X hT m0 g0 rfl tyX13 tyX13_ok nmX13 rfl 0 (by decide) qw_140 inlX13 rfl (by first | rfl | decide) (by first | rfl | decide) rfl (⟨_, rfl, (show (-2147483648) ≤ (0 : Int32).toInt from (by decide)), (show (0 : Int32).toInt ≤ 2147483647 from (by decide))⟩) dX13_whose_2 (fun F H locs hT v29860 h1v29860 h2v29860 => ?_)
  have pf0 := (h1v29860 _ _ (Or.inr (by decide))).trans pf0
  have hfr : (∀ b j : Nat, (tag b ≠ 46 ∨ j ≠ 0) → (tag b ≠ 46 ∨ j ≠ 1) → (tag b ≠ 46 ∨ j ≠ 2) → fld F b j = fld Fo b j) ∧ (∀ b j : Nat, elm F b j = elm Fo b j) := ⟨fun b j n46_0 n46_1 n46_2 => (h1v29860 b j (fr_ne g0 n46_0)).trans (hfr.1 b j n46_0 n46_1 n46_2), fun b j  => (h2v29860 b j).trans (hfr.2 b j )⟩
  refine lv_aload_n hx hb dX13_whose_5 rfl (lv_at hl 0 rfl) ?_
  refine lv_iload_n hx hb dX13_whose_6 rfl (lv_at hl 1 rfl) ?_
  refine lv_iload_n hx hb dX13_whose_7 rfl (lv_at hl 2 rfl) ?_
  refine t_cVi (n := 2) (C := RX13) (T := TX13) (N := 37) (As := [.int p1, .int p2]) (rest := []) X hT (km95_X13_isCell l G tag L F hT.2.2.2 p0 p1 p2 m0 g0 pf0) m0 g0 rfl rfl qw_719 qw_720 qw_721 qw_5 qw_722 ⟨rfl, by decide +kernel, by decide +kernel, by decide +kernel⟩ ⟨Nat.le_of_ble_eq_true rfl, Nat.le_of_ble_eq_true rfl⟩ hl rfl rfl (Nat.le_of_ble_eq_true rfl) dX13_whose_8 ⟨Nat.le_of_ble_eq_true rfl, Nat.le_of_ble_eq_true rfl⟩ (fun z29861 F9 H locs hT hz29861 => ?_)
  obtain ⟨fz29861, hz29861⟩ := hz29861
  rw [fz29861] at hT
  refine lv_if_eq (tgt := 34) hx hb dX13_whose_11 (by decide) (fun c29862 => ?_) (fun c29862 => ?_)
  · have w29863 := cv_eq (rfl : z29861.toInt = z29861.toInt) (by decide : (0 : Int32).toInt = 0) c29862
    refine lv_aload_n hx hb dX13_whose_34 rfl (lv_at hl 0 rfl) ?_
    refine lv_iconst (v := 1) hx hb dX13_whose_35 (by decide) ?_
    refine t_cVi (n := 1) (C := RX13) (T := TX13) (N := 37) (As := [.int 1]) (rest := []) X hT (km88_X13_refused l G tag L F hT.2.2.2 p0 1 m0 g0) m0 g0 rfl rfl qw_484 qw_485 qw_486 qw_5 qw_487 ⟨rfl, by decide +kernel, by decide +kernel, by decide +kernel⟩ ⟨Nat.le_of_ble_eq_true rfl, Nat.le_of_ble_eq_true rfl⟩ hl rfl rfl (Nat.le_of_ble_eq_true rfl) dX13_whose_36 ⟨Nat.le_of_ble_eq_true rfl, Nat.le_of_ble_eq_true rfl⟩ (fun z29864 F H locs hT hz29864 => ?_)
    obtain ⟨hz29864, yz29864⟩ := hz29864
    have pf0 := (yz29864.1 _ 3 (Or.inr (by decide)) (Or.inr (by decide))).trans pf0
    have v29860 := (yz29864.1 _ 0 (Or.inr (by decide)) (Or.inr (by decide))).trans v29860
    have hfr : (∀ b j : Nat, (tag b ≠ 46 ∨ j ≠ 0) → (tag b ≠ 46 ∨ j ≠ 1) → (tag b ≠ 46 ∨ j ≠ 2) → fld F b j = fld Fo b j) ∧ (∀ b j : Nat, elm F b j = elm Fo b j) := ⟨fun b j n46_0 n46_1 n46_2 => (yz29864.1 b j n46_1 n46_2).trans (hfr.1 b j n46_0 n46_1 n46_2), fun b j  => (yz29864.2 b j ).trans (hfr.2 b j )⟩
    exact t_iret hQ X hT (⟨rg_all _, hfr⟩) (Nat.le_of_ble_eq_true rfl) (Nat.le_of_ble_eq_true rfl) dX13_whose_39
  · have w29865 := cv_ne (rfl : z29861.toInt = z29861.toInt) (by decide : (0 : Int32).toInt = 0) c29862
    exfalso
    omega
theorem kp_X13_whose (l : Launch) (G : KG) (tag : Nat → Nat) (L : List Nat) (Fo : Nat → va_E) (ho : okT G ttC tag L Fo) (p0 : Nat) (p1 : Int32) (p2 : Int32) (m0 : p0 ∈ L) (g0 : tag p0 = 46) : TMi l yX13_whose cX13_whose 3 (some .int) { frames := 3, cells := 0, slots := 0, locals := 71 } G ttC tag L Fo [.ref p0, .int p1, .int p2] (fun r F1 => ((-2147483648) ≤ r.toInt ∧ r.toInt ≤ 2147483647) ∧ ((∀ b j : Nat, (tag b ≠ 46 ∨ j ≠ 0) → (tag b ≠ 46 ∨ j ≠ 1) → (tag b ≠ 46 ∨ j ≠ 2) → fld F1 b j = fld Fo b j) ∧ (∀ b j : Nat, elm F1 b j = elm Fo b j))) := by
  rcases t_fldn ho m0 g0 rfl 3 rfl with h9 | ⟨b9, h9, m9, t9⟩
  · exact km96_X13_whose l G tag L Fo ho p0 p1 p2  m0 g0 h9 
  · exact km94_X13_whose l G tag L Fo ho p0 p1 p2 b9  m0 g0 m9 (tg_of t9) h9 
set_option maxHeartbeats 4000000 in
set_option maxRecDepth 100000 in
theorem km98_X12_cells (l : Launch) (G : KG) (tag : Nat → Nat) (L : List Nat) (F : Nat → va_E) (ho : okT G ttC tag L F) (p0 : Nat) (m0 : p0 ∈ L) (g0 : tag p0 = 45) : TMi l yX12_cells cX12_cells 1 (some .int) { frames := 0, cells := 0, slots := 0, locals := 0 } G ttC tag L F [.ref p0] (fun r F1 => F1 = F ∧ (0 ≤ r.toInt ∧ r.toInt ≤ 144)) := by
  refine t_bodyi (y := yX12_cells) (cd := cX12_cells) (mL := 1) (rt := (some .int)) (rm := { frames := 0, cells := 0, slots := 0, locals := 0 }) (av := [.ref p0]) (by decide) (Nat.le_of_ble_eq_true rfl) ho ?_
  intro p e s m args below meth c ls A Q hQ X hT hl
  have hx := X.1.1
  have hb := X.1.2.1
  have hl : lv_has ls 1 [(0, .ref p0)] := hl
  refine lv_aload_n hx hb dX12_cells_0 rfl (lv_at hl 0 rfl) ?_
  refine t_get (C := RX12) (T := TX12) (N := 31) X hT m0 g0 rfl rfl 0 (by decide) qw_627 inlX12 rfl dX12_cells_1 (fun v29924 hv29924 ov29924 => ?_)
  obtain ⟨z29925, rfl, rz29925⟩ := okV_i ov29924
  refine lv_aload_n hx hb dX12_cells_4 rfl (lv_at hl 0 rfl) ?_
  refine t_get (C := RX12) (T := TX12) (N := 31) X hT m0 g0 rfl rfl 1 (by decide) qw_653 inlX12 rfl dX12_cells_5 (fun v29926 hv29926 ov29926 => ?_)
  obtain ⟨z29927, rfl, rz29927⟩ := okV_i ov29926
  refine lv_imul hx hb dX12_cells_8 ?_
  refine lv_topi (fun z29928 ez29928 => ?_)
  have rz29928 : 0 ≤ z29928.toInt ∧ z29928.toInt ≤ 144 := ar_mulb ez29928 (A := 12) (B := 12) (by omega) (by omega) (by decide) (by decide)
  exact t_iret hQ X hT (⟨rfl, (by omega)⟩) (Nat.le_of_ble_eq_true rfl) (Nat.le_of_ble_eq_true rfl) dX12_cells_9
set_option maxHeartbeats 4000000 in
set_option maxRecDepth 100000 in
theorem km99_X13_bits (l : Launch) (G : KG) (tag : Nat → Nat) (L : List Nat) (F : Nat → va_E) (ho : okT G ttC tag L F) (p0 : Int32) (h0 : 0 ≤ p0.toInt ∧ p0.toInt ≤ 15) : TMi l yX13_bits cX13_bits 3 (some .int) { frames := 0, cells := 0, slots := 0, locals := 0 } G ttC tag L F [.int p0] (fun r F1 => F1 = F ∧ ((-2147483648) ≤ r.toInt ∧ r.toInt ≤ 2147483647)) := by
  refine t_bodyi (y := yX13_bits) (cd := cX13_bits) (mL := 3) (rt := (some .int)) (rm := { frames := 0, cells := 0, slots := 0, locals := 0 }) (av := [.int p0]) (by decide) (Nat.le_of_ble_eq_true rfl) ho ?_
  intro p e s m args below meth c ls A Q hQ X hT hl
  have hx := X.1.1
  have hb := X.1.2.1
  have hl : lv_has ls 3 [(0, .int p0)] := hl
  have K4 : ∀ (n : Nat) (z30262 : Int32) (z30263 : Int32) (H : Heap) (locs : List Loc) (ls : Array Slot), (z30263.toInt - 0 < (n : Int)) → (0 ≤ z30263.toInt ∧ z30263.toInt ≤ 15) → TH G ttC A s tag L F H locs → lv_has ls 3 [(0, .int p0), (1, .int z30262), (2, .int z30263)] → W p l e { frames := 0, cells := 0, slots := 0, locals := 0 } s m args below meth c H locs 0 0 Q (F0 m 4 ls []) := by
    intro n
    induction n with
    | zero =>
      intro z30262 z30263 H locs ls hn rz30263 hT hl
      have rz30262 := rg_all z30262
      exfalso
      omega
    | succ n ih4 =>
      intro z30262 z30263 H locs ls hn rz30263 hT hl
      have rz30262 := rg_all z30262
      refine lv_iload_n hx hb dX13_bits_4 rfl (lv_at hl 2 rfl) ?_
      refine lv_if_eq (tgt := 20) hx hb dX13_bits_5 (by decide) (fun c30264 => ?_) (fun c30264 => ?_)
      · have w30265 := cv_eq (rfl : z30263.toInt = z30263.toInt) (by decide : (0 : Int32).toInt = 0) c30264
        refine lv_iload_n hx hb dX13_bits_20 rfl (lv_at hl 1 rfl) ?_
        exact t_iret hQ X hT (⟨rfl, rg_all _⟩) (Nat.le_of_ble_eq_true rfl) (Nat.le_of_ble_eq_true rfl) dX13_bits_21
      · have w30266 := cv_ne (rfl : z30263.toInt = z30263.toInt) (by decide : (0 : Int32).toInt = 0) c30264
        obtain ⟨z30267, ez30267⟩ : ∃ y : Int32, y = z30262 + 1 := ⟨_, rfl⟩
        have rz30267 := rg_all z30267
        refine lv_iinc (v := z30267) (lv' := [(1, .int z30267), (0, .int p0), (2, .int z30263)]) hx hb dX13_bits_8 hl (k := 1) rfl (by rw [ez30267]; rfl) (by decide) rfl (fun ls hl => ?_)
        refine lv_iload_n hx hb dX13_bits_11 rfl (lv_at hl 2 rfl) ?_
        refine lv_iload_n hx hb dX13_bits_12 rfl (lv_at hl 2 rfl) ?_
        refine lv_iconst (v := 1) hx hb dX13_bits_13 (by decide) ?_
        refine lv_isub hx hb dX13_bits_14 ?_
        refine lv_topi (fun z30268 ez30268 => ?_)
        have hz30268 : z30268.toInt = z30263.toInt - 1 := ar_sub ez30268 (rfl : z30263.toInt = z30263.toInt) (by decide : (1 : Int32).toInt = 1) (by omega) (by omega)
        have rz30268 : 0 ≤ z30268.toInt ∧ z30268.toInt ≤ 14 := by omega
        refine lv_iand hx hb dX13_bits_15 ?_
        refine lv_topi (fun z30269 ez30269 => ?_)
        have rz30269 := ar_andn ez30269 (by omega) (by omega)
        refine lv_istore_n (lv' := [(2, .int z30269), (1, .int z30267), (0, .int p0)]) hx hb dX13_bits_16 rfl hl (by decide) rfl (fun ls hl => ?_)
        refine lv_goto (tgt := 4) hx hb dX13_bits_17 (by decide) ?_
        exact ih4 z30267 z30269 _ _ _ (by omega) (by omega) hT  (lv_sub hl [2, 1, 0] rfl)
  refine lv_iconst (v := 0) hx hb dX13_bits_0 (by decide) ?_
  refine lv_istore_n (lv' := [(1, .int 0), (0, .int p0)]) hx hb dX13_bits_1 rfl hl (by decide) rfl (fun ls hl => ?_)
  refine lv_iload_n hx hb dX13_bits_2 rfl (lv_at hl 1 rfl) ?_
  refine lv_istore_n (lv' := [(2, .int p0), (1, .int 0), (0, .int p0)]) hx hb dX13_bits_3 rfl hl (by decide) rfl (fun ls hl => ?_)
  have k30270 : (0 : Int32).toInt = 0 := by decide
  exact K4 16 0 p0 _ _ _ (by omega) (by omega) hT  (lv_sub hl [2, 1, 0] rfl)
set_option maxHeartbeats 4000000 in
set_option maxRecDepth 100000 in
theorem km100_X13_owned (l : Launch) (G : KG) (tag : Nat → Nat) (L : List Nat) (F : Nat → va_E) (ho : okT G ttC tag L F) (p0 : Nat) (p1 : Int32) (p2 : Int32) (p3 : Int32) (x0 : Nat) (m0 : p0 ∈ L) (g0 : tag p0 = 46) (h3 : 0 ≤ p3.toInt ∧ p3.toInt ≤ 1) (mx0 : x0 ∈ L) (gx0 : tag x0 = 45) (pf0 : fld F p0 3 = .ref x0) : TMi l yX13_owned cX13_owned 6 (some .int) { frames := 3, cells := 0, slots := 0, locals := 71 } G ttC tag L F [.ref p0, .int p1, .int p2, .int p3] (fun r F1 => F1 = F ∧ ((-2147483648) ≤ r.toInt ∧ r.toInt ≤ 2147483647)) := by
  refine t_bodyi (y := yX13_owned) (cd := cX13_owned) (mL := 6) (rt := (some .int)) (rm := { frames := 3, cells := 0, slots := 0, locals := 71 }) (av := [.ref p0, .int p1, .int p2, .int p3]) (by decide) (Nat.le_of_ble_eq_true rfl) ho ?_
  intro p e s m args below meth c ls A Q hQ X hT hl
  have hx := X.1.1
  have hb := X.1.2.1
  have hl : lv_has ls 6 [(0, .ref p0), (1, .int p1), (2, .int p2), (3, .int p3)] := hl
  have rp1 := rg_all p1
  have rp2 := rg_all p2
  have K6 : ∀ (n : Nat) (z32155 : Int32) (z32156 : Int32) (H : Heap) (locs : List Loc) (ls : Array Slot), (144 - z32156.toInt < (n : Int)) → (0 ≤ z32156.toInt ∧ z32156.toInt ≤ 144) → TH G ttC A s tag L F H locs → lv_has ls 6 [(0, .ref p0), (1, .int p1), (2, .int p2), (3, .int p3), (4, .int z32155), (5, .int z32156)] → W p l e { frames := 3, cells := 0, slots := 0, locals := 71 } s m args below meth c H locs 0 0 Q (F0 m 6 ls []) := by
    intro n
    induction n with
    | zero =>
      intro z32155 z32156 H locs ls hn rz32156 hT hl
      have rz32155 := rg_all z32155
      exfalso
      omega
    | succ n ih6 =>
      intro z32155 z32156 H locs ls hn rz32156 hT hl
      have rz32155 := rg_all z32155
      have K84 : ∀ (z32158 : Int32) (z32159 : Int32) (z32160 : Int32) (H : Heap) (locs : List Loc) (ls : Array Slot), (0 ≤ z32158.toInt ∧ z32158.toInt ≤ 1) → (1 ≤ z32160.toInt ∧ z32160.toInt ≤ 12) → (0 ≤ z32156.toInt ∧ z32156.toInt ≤ 143) → TH G ttC A s tag L F H locs → (fld F x0 0 = .int z32160) → lv_has ls 6 [(0, .ref p0), (1, .int p1), (2, .int p2), (3, .int p3), (4, .int z32155), (5, .int z32156)] → W p l e { frames := 3, cells := 0, slots := 0, locals := 71 } s m args below meth c H locs 0 0 Q (F0 m 84 ls [.int z32158, .int z32159]) := by
        intro z32158 z32159 z32160 H locs ls rz32158 rz32160 r9s32157 hT qz32160 hl
        have rz32159 := rg_all z32159
        refine lv_iadd hx hb dX13_owned_84 ?_
        refine lv_topi (fun z32161 ez32161 => ?_)
        have rz32161 := rg_all z32161
        refine lv_istore (lv' := [(4, .int z32161), (0, .ref p0), (1, .int p1), (2, .int p2), (3, .int p3), (5, .int z32156)]) hx hb dX13_owned_85 hl (by decide) rfl (fun ls hl => ?_)
        obtain ⟨z32162, ez32162⟩ : ∃ y : Int32, y = z32156 + 1 := ⟨_, rfl⟩
        have hz32162 : z32162.toInt = z32156.toInt + 1 := ar_add ez32162 rfl (by decide : (1 : Int32).toInt = 1) (by omega) (by omega)
        refine lv_iinc (v := z32162) (lv' := [(5, .int z32162), (4, .int z32161), (0, .ref p0), (1, .int p1), (2, .int p2), (3, .int p3)]) hx hb dX13_owned_87 hl (k := 5) rfl (by rw [ez32162]; rfl) (by decide) rfl (fun ls hl => ?_)
        refine lv_goto (tgt := 6) hx hb dX13_owned_90 (by decide) ?_
        exact ih6 z32161 z32162 _ _ _ (by omega) (by omega) hT  (lv_sub hl [2, 3, 4, 5, 1, 0] rfl)
      have K79 : ∀ (z32164 : Int32) (z32165 : Int32) (H : Heap) (locs : List Loc) (ls : Array Slot), (1 ≤ z32165.toInt ∧ z32165.toInt ≤ 12) → (0 ≤ z32156.toInt ∧ z32156.toInt ≤ 143) → TH G ttC A s tag L F H locs → (fld F x0 0 = .int z32165) → lv_has ls 6 [(0, .ref p0), (1, .int p1), (2, .int p2), (3, .int p3), (4, .int z32155), (5, .int z32156)] → W p l e { frames := 3, cells := 0, slots := 0, locals := 71 } s m args below meth c H locs 0 0 Q (F0 m 79 ls [.int z32164]) := by
        intro z32164 z32165 H locs ls rz32165 r9s32163 hT qz32165 hl
        have rz32164 := rg_all z32164
        refine lv_iconst (v := 1) hx hb dX13_owned_79 (by decide) ?_
        refine lv_goto (tgt := 84) hx hb dX13_owned_80 (by decide) ?_
        have k32166 : (1 : Int32).toInt = 1 := by decide
        exact K84 1 z32164 z32165 _ _ _ (by decide) (by omega) (by omega) hT qz32165 (lv_sub hl [0, 1, 2, 3, 4, 5] rfl)
      have K83 : ∀ (z32168 : Int32) (z32169 : Int32) (H : Heap) (locs : List Loc) (ls : Array Slot), (1 ≤ z32169.toInt ∧ z32169.toInt ≤ 12) → (0 ≤ z32156.toInt ∧ z32156.toInt ≤ 143) → TH G ttC A s tag L F H locs → (fld F x0 0 = .int z32169) → lv_has ls 6 [(0, .ref p0), (1, .int p1), (2, .int p2), (3, .int p3), (4, .int z32155), (5, .int z32156)] → W p l e { frames := 3, cells := 0, slots := 0, locals := 71 } s m args below meth c H locs 0 0 Q (F0 m 83 ls [.int z32168]) := by
        intro z32168 z32169 H locs ls rz32169 r9s32167 hT qz32169 hl
        have rz32168 := rg_all z32168
        refine lv_iconst (v := 0) hx hb dX13_owned_83 (by decide) ?_
        have k32170 : (0 : Int32).toInt = 0 := by decide
        exact K84 0 z32168 z32169 _ _ _ (by decide) (by omega) (by omega) hT qz32169 (lv_sub hl [0, 1, 2, 3, 4, 5] rfl)
      refine lv_iload hx hb dX13_owned_6 (lv_at hl 5 rfl) ?_
      refine lv_aload_n hx hb dX13_owned_8 rfl (lv_at hl 0 rfl) ?_
      refine t_get (C := RX13) (T := TX13) (N := 37) X hT m0 g0 rfl rfl 3 (by decide) qw_481 inlX13 rfl dX13_owned_9 (fun v32171 hv32171 ov32171 => ?_)
      obtain rfl : v32171 = .ref x0 := hv32171.symm.trans pf0
      refine t_cVi (n := 0) (C := RX12) (T := TX12) (N := 31) (As := []) (rest := [.int z32156]) X hT (km98_X12_cells l G tag L F hT.2.2.2 x0 mx0 gx0) mx0 gx0 rfl rfl qw_744 qw_745 qw_746 qw_476 qw_747 ⟨rfl, by decide +kernel, by decide +kernel, by decide +kernel⟩ ⟨Nat.le_of_ble_eq_true rfl, Nat.le_of_ble_eq_true rfl⟩ hl rfl rfl (Nat.le_of_ble_eq_true rfl) dX13_owned_12 ⟨Nat.le_of_ble_eq_true rfl, Nat.le_of_ble_eq_true rfl⟩ (fun z32172 F9 H locs hT hz32172 => ?_)
      obtain ⟨fz32172, hz32172⟩ := hz32172
      rw [fz32172] at hT
      refine lv_icmp_ge (tgt := 93) hx hb dX13_owned_15 (by decide) (fun c32173 => ?_) (fun c32173 => ?_)
      · have w32174 := cv_le (rfl : z32172.toInt = z32172.toInt) (rfl : z32156.toInt = z32156.toInt) c32173
        refine lv_iload hx hb dX13_owned_93 (lv_at hl 4 rfl) ?_
        exact t_iret hQ X hT (⟨rfl, rg_all _⟩) (Nat.le_of_ble_eq_true rfl) (Nat.le_of_ble_eq_true rfl) dX13_owned_95
      · have w32175 := cv_nle (rfl : z32172.toInt = z32172.toInt) (rfl : z32156.toInt = z32156.toInt) c32173
        refine lv_iload hx hb dX13_owned_18 (lv_at hl 4 rfl) ?_
        refine lv_aload_n hx hb dX13_owned_20 rfl (lv_at hl 0 rfl) ?_
        refine t_get (C := RX13) (T := TX13) (N := 37) X hT m0 g0 rfl rfl 3 (by decide) qw_481 inlX13 rfl dX13_owned_21 (fun v32176 hv32176 ov32176 => ?_)
        obtain rfl : v32176 = .ref x0 := hv32176.symm.trans pf0
        refine lv_aload_n hx hb dX13_owned_24 rfl (lv_at hl 0 rfl) ?_
        refine t_get (C := RX13) (T := TX13) (N := 37) X hT m0 g0 rfl rfl 16 (by decide) qw_112 inlX13 rfl dX13_owned_25 (fun v32177 hv32177 ov32177 => ?_)
        obtain ⟨b32178, rfl, mb32178, gb32178⟩ := okV_r ov32177
        have gb32178 : tag b32178 = 37 := tg_of gb32178
        refine lv_iload hx hb dX13_owned_28 (lv_at hl 5 rfl) ?_
        refine lv_aload_n hx hb dX13_owned_30 rfl (lv_at hl 0 rfl) ?_
        refine t_get (C := RX13) (T := TX13) (N := 37) X hT m0 g0 rfl rfl 3 (by decide) qw_481 inlX13 rfl dX13_owned_31 (fun v32179 hv32179 ov32179 => ?_)
        obtain rfl : v32179 = .ref x0 := hv32179.symm.trans pf0
        refine t_getN (C := RX12) (T := TX12) (N := 31) X hT mx0 gx0 rfl rfl 0 (by decide) (List.mem_of_getElem? (i := 4) rfl) inlX12 rfl dX13_owned_34 (fun v32180 hv32180 ov32180 => ?_)
        obtain ⟨z32181, rfl, rz32181⟩ := okV_i ov32180
        refine lv_irem hx hb dX13_owned_37 (ne0_of (by omega)) ?_
        refine lv_topi (fun z32182 ez32182 => ?_)
        have hz32182 := ar_remv ez32182 (by omega) (by omega)
        have rz32182 : 0 ≤ z32182.toInt ∧ z32182.toInt ≤ 11 := by omega
        refine lv_iload hx hb dX13_owned_38 (lv_at hl 5 rfl) ?_
        refine lv_aload_n hx hb dX13_owned_40 rfl (lv_at hl 0 rfl) ?_
        refine t_get (C := RX13) (T := TX13) (N := 37) X hT m0 g0 rfl rfl 3 (by decide) qw_481 inlX13 rfl dX13_owned_41 (fun v32183 hv32183 ov32183 => ?_)
        obtain rfl : v32183 = .ref x0 := hv32183.symm.trans pf0
        refine t_getN (C := RX12) (T := TX12) (N := 31) X hT mx0 gx0 rfl rfl 0 (by decide) (List.mem_of_getElem? (i := 4) rfl) inlX12 rfl dX13_owned_44 (fun v32184 hv32184 ov32184 => ?_)
        obtain rfl : v32184 = .int z32181 := hv32184.symm.trans hv32180
        refine lv_idiv hx hb dX13_owned_47 (ne0_of (by omega)) ?_
        refine lv_topi (fun z32185 ez32185 => ?_)
        have rz32185 : 0 ≤ z32185.toInt ∧ z32185.toInt ≤ 143 := ar_divv ez32185 (A := 143) (by omega) (by omega)
        refine t_cSi (n := 4) (As := [.ref x0, .ref b32178, .int z32182, .int z32185]) (rest := [.int z32155]) X hT (km92_X13_ownersOf l G tag L F hT.2.2.2 x0 b32178 z32182 z32185 mx0 gx0 mb32178 gb32178) qw_616 qw_617 qw_5 qw_618 ⟨by decide +kernel, by decide +kernel, by decide +kernel⟩ ⟨Nat.le_of_ble_eq_true rfl, Nat.le_of_ble_eq_true rfl⟩ hl rfl rfl (Nat.le_of_ble_eq_true rfl) dX13_owned_48 ⟨Nat.le_of_ble_eq_true rfl, Nat.le_of_ble_eq_true rfl⟩ (fun z32186 F9 H locs hT hz32186 => ?_)
        obtain ⟨fz32186, hz32186⟩ := hz32186
        rw [fz32186] at hT
        refine t_cSi (n := 1) (As := [.int z32186]) (rest := [.int z32155]) X hT (km99_X13_bits l G tag L F hT.2.2.2 z32186 (by omega)) qw_748 qw_749 qw_5 qw_750 ⟨by decide +kernel, by decide +kernel, by decide +kernel⟩ ⟨Nat.le_of_ble_eq_true rfl, Nat.le_of_ble_eq_true rfl⟩ hl rfl rfl (Nat.le_of_ble_eq_true rfl) dX13_owned_51 ⟨Nat.le_of_ble_eq_true rfl, Nat.le_of_ble_eq_true rfl⟩ (fun z32187 F9 H locs hT hz32187 => ?_)
        obtain ⟨fz32187, hz32187⟩ := hz32187
        rw [fz32187] at hT
        refine lv_iload_n hx hb dX13_owned_54 rfl (lv_at hl 1 rfl) ?_
        refine lv_iload_n hx hb dX13_owned_55 rfl (lv_at hl 2 rfl) ?_
        refine t_cSi (n := 3) (As := [.int z32187, .int p1, .int p2]) (rest := [.int z32155]) X hT (km19_X13_within l G tag L F hT.2.2.2 z32187 p1 p2 ) qw_568 qw_569 qw_5 qw_570 ⟨by decide +kernel, by decide +kernel, by decide +kernel⟩ ⟨Nat.le_of_ble_eq_true rfl, Nat.le_of_ble_eq_true rfl⟩ hl rfl rfl (Nat.le_of_ble_eq_true rfl) dX13_owned_56 ⟨Nat.le_of_ble_eq_true rfl, Nat.le_of_ble_eq_true rfl⟩ (fun z32188 F9 H locs hT hz32188 => ?_)
        obtain ⟨fz32188, hz32188, xz32188_0⟩ := hz32188
        rw [fz32188] at hT
        refine lv_if_eq (tgt := 83) hx hb dX13_owned_59 (by decide) (fun c32189 => ?_) (fun c32189 => ?_)
        · have w32190 := cv_eq (rfl : z32188.toInt = z32188.toInt) (by decide : (0 : Int32).toInt = 0) c32189
          exact K83 z32155 z32181 _ _ _ (by omega) (by omega) hT hv32180 (lv_sub hl [0, 1, 2, 3, 4, 5] rfl)
        · have w32191 := cv_ne (rfl : z32188.toInt = z32188.toInt) (by decide : (0 : Int32).toInt = 0) c32189
          have w32192 := xz32188_0 (by omega)
          refine lv_iload_n hx hb dX13_owned_62 rfl (lv_at hl 3 rfl) ?_
          refine lv_if_eq (tgt := 79) hx hb dX13_owned_63 (by decide) (fun c32193 => ?_) (fun c32193 => ?_)
          · have w32194 := cv_eq (rfl : p3.toInt = p3.toInt) (by decide : (0 : Int32).toInt = 0) c32193
            exact K79 z32155 z32181 _ _ _ (by omega) (by omega) hT hv32180 (lv_sub hl [0, 1, 2, 3, 4, 5] rfl)
          · have w32195 := cv_ne (rfl : p3.toInt = p3.toInt) (by decide : (0 : Int32).toInt = 0) c32193
            refine lv_aload_n hx hb dX13_owned_66 rfl (lv_at hl 0 rfl) ?_
            refine t_get (C := RX13) (T := TX13) (N := 37) X hT m0 g0 rfl rfl 3 (by decide) qw_481 inlX13 rfl dX13_owned_67 (fun v32196 hv32196 ov32196 => ?_)
            obtain rfl : v32196 = .ref x0 := hv32196.symm.trans pf0
            refine t_getN (C := RX12) (T := TX12) (N := 31) X hT mx0 gx0 rfl rfl 15 (by decide) (List.mem_of_getElem? (i := 19) rfl) inlX12 rfl dX13_owned_70 (fun v32197 hv32197 ov32197 => ?_)
            obtain ⟨b32198, rfl, mb32198, gb32198⟩ := okV_r ov32197
            have gb32198 : tag b32198 = 28 := tg_of gb32198
            refine lv_iload hx hb dX13_owned_73 (lv_at hl 5 rfl) ?_
            refine t_zld X hT mb32198 gb32198 rfl (by omega) dX13_owned_75 (fun z32199 vz32199 rz32199 => ?_)
            have rz32199 : 0 ≤ z32199.toInt ∧ z32199.toInt ≤ 1 := rz32199
            refine lv_if_ne (tgt := 83) hx hb dX13_owned_76 (by decide) (fun c32200 => ?_) (fun c32200 => ?_)
            · have w32201 := cv_ne (rfl : z32199.toInt = z32199.toInt) (by decide : (0 : Int32).toInt = 0) c32200
              exact K83 z32155 z32181 _ _ _ (by omega) (by omega) hT hv32180 (lv_sub hl [0, 1, 2, 3, 4, 5] rfl)
            · have w32202 := cv_eq (rfl : z32199.toInt = z32199.toInt) (by decide : (0 : Int32).toInt = 0) c32200
              exact K79 z32155 z32181 _ _ _ (by omega) (by omega) hT hv32180 (lv_sub hl [0, 1, 2, 3, 4, 5] rfl)
  refine lv_iconst (v := 0) hx hb dX13_owned_0 (by decide) ?_
  refine lv_istore (lv' := [(4, .int 0), (0, .ref p0), (1, .int p1), (2, .int p2), (3, .int p3)]) hx hb dX13_owned_1 hl (by decide) rfl (fun ls hl => ?_)
  refine lv_iconst (v := 0) hx hb dX13_owned_3 (by decide) ?_
  refine lv_istore (lv' := [(5, .int 0), (4, .int 0), (0, .ref p0), (1, .int p1), (2, .int p2), (3, .int p3)]) hx hb dX13_owned_4 hl (by decide) rfl (fun ls hl => ?_)
  have k32203 : (0 : Int32).toInt = 0 := by decide
  have k32204 : (0 : Int32).toInt = 0 := by decide
  exact K6 145 0 0 _ _ _ (by omega) (by decide) hT  (lv_sub hl [2, 3, 4, 5, 1, 0] rfl)
