set_option maxHeartbeats 4000000 in
set_option maxRecDepth 100000 in
theorem km84_X13_fault (l : Launch) (G : KG) (tag : Nat → Nat) (L : List Nat) (Fo : Nat → va_E) (ho : okT G ttC tag L Fo) (p0 : Nat) (m0 : p0 ∈ L) (g0 : tag p0 = 46) : TMi l yX13_fault cX13_fault 1 (some .int) { frames := 0, cells := 0, slots := 0, locals := 0 } G ttC tag L Fo [.ref p0] (fun r F1 => (0 ≤ r.toInt ∧ r.toInt ≤ 7) ∧ ((∀ b j : Nat, (tag b ≠ 46 ∨ j ≠ 0) → fld F1 b j = fld Fo b j) ∧ (∀ b j : Nat, elm F1 b j = elm Fo b j))) := by
  refine t_bodyi (y := yX13_fault) (cd := cX13_fault) (mL := 1) (rt := (some .int)) (rm := { frames := 0, cells := 0, slots := 0, locals := 0 }) (av := [.ref p0]) (by decide) (Nat.le_of_ble_eq_true rfl) ho ?_
  intro p e s m args below meth c ls A Q hQ X hT hl
  have hx := X.1.1
  have hb := X.1.2.1
  have hl : lv_has ls 1 [(0, .ref p0)] := hl
  obtain ⟨F, hFo⟩ : ∃ F : Nat → va_E, F = Fo := ⟨_, rfl⟩
  rw [← hFo] at hT
  have hfr : (∀ b j : Nat, (tag b ≠ 46 ∨ j ≠ 0) → fld F b j = fld Fo b j) ∧ (∀ b j : Nat, elm F b j = elm Fo b j) := by
    rw [hFo]
    exact ⟨by intros; rfl, by intros; rfl⟩
  refine lv_aload_n hx hb dX13_fault_0 rfl (lv_at hl 0 rfl) ?_
  refine lv_iconst (v := 0) hx hb dX13_fault_1 (by decide) ?_
  refine t_put (C := RX13) (T := TX13) (N := 37) (v := .int 0) X hT m0 g0 rfl tyX13 tyX13_ok nmX13 rfl 0 (by decide) qw_140 inlX13 rfl (by first | rfl | decide) (by first | rfl | decide) rfl (⟨_, rfl, (show (-2147483648) ≤ (0 : Int32).toInt from (by decide)), (show (0 : Int32).toInt ≤ 2147483647 from (by decide))⟩) dX13_fault_2 (fun F H locs hT v28465 h1v28465 h2v28465 => ?_)
  have hfr : (∀ b j : Nat, (tag b ≠ 46 ∨ j ≠ 0) → fld F b j = fld Fo b j) ∧ (∀ b j : Nat, elm F b j = elm Fo b j) := ⟨fun b j n46_0 => (h1v28465 b j (fr_ne g0 n46_0)).trans (hfr.1 b j n46_0), fun b j  => (h2v28465 b j).trans (hfr.2 b j )⟩
  refine lv_aload_n hx hb dX13_fault_5 rfl (lv_at hl 0 rfl) ?_
  refine t_get (C := RX13) (T := TX13) (N := 37) X hT m0 g0 rfl rfl 13 (by decide) qw_473 inlX13 rfl dX13_fault_6 (fun v28466 hv28466 ov28466 => ?_)
  obtain ⟨z28467, rfl, rz28467⟩ := okV_i ov28466
  exact t_iret hQ X hT (⟨(by omega), hfr⟩) (Nat.le_of_ble_eq_true rfl) (Nat.le_of_ble_eq_true rfl) dX13_fault_9
set_option maxHeartbeats 4000000 in
set_option maxRecDepth 100000 in
theorem km85_X13_where (l : Launch) (G : KG) (tag : Nat → Nat) (L : List Nat) (Fo : Nat → va_E) (ho : okT G ttC tag L Fo) (p0 : Nat) (m0 : p0 ∈ L) (g0 : tag p0 = 46) : TMi l yX13_where cX13_where 1 (some .int) { frames := 0, cells := 0, slots := 0, locals := 0 } G ttC tag L Fo [.ref p0] (fun r F1 => ((-2147483648) ≤ r.toInt ∧ r.toInt ≤ 2147483647) ∧ ((∀ b j : Nat, (tag b ≠ 46 ∨ j ≠ 0) → fld F1 b j = fld Fo b j) ∧ (∀ b j : Nat, elm F1 b j = elm Fo b j))) := by
  refine t_bodyi (y := yX13_where) (cd := cX13_where) (mL := 1) (rt := (some .int)) (rm := { frames := 0, cells := 0, slots := 0, locals := 0 }) (av := [.ref p0]) (by decide) (Nat.le_of_ble_eq_true rfl) ho ?_
  intro p e s m args below meth c ls A Q hQ X hT hl
  have hx := X.1.1
  have hb := X.1.2.1
  have hl : lv_has ls 1 [(0, .ref p0)] := hl
  obtain ⟨F, hFo⟩ : ∃ F : Nat → va_E, F = Fo := ⟨_, rfl⟩
  rw [← hFo] at hT
  have hfr : (∀ b j : Nat, (tag b ≠ 46 ∨ j ≠ 0) → fld F b j = fld Fo b j) ∧ (∀ b j : Nat, elm F b j = elm Fo b j) := by
    rw [hFo]
    exact ⟨by intros; rfl, by intros; rfl⟩
  refine lv_aload_n hx hb dX13_where_0 rfl (lv_at hl 0 rfl) ?_
  refine lv_iconst (v := 0) hx hb dX13_where_1 (by decide) ?_
  refine t_put (C := RX13) (T := TX13) (N := 37) (v := .int 0) X hT m0 g0 rfl tyX13 tyX13_ok nmX13 rfl 0 (by decide) qw_140 inlX13 rfl (by first | rfl | decide) (by first | rfl | decide) rfl (⟨_, rfl, (show (-2147483648) ≤ (0 : Int32).toInt from (by decide)), (show (0 : Int32).toInt ≤ 2147483647 from (by decide))⟩) dX13_where_2 (fun F H locs hT v28501 h1v28501 h2v28501 => ?_)
  have hfr : (∀ b j : Nat, (tag b ≠ 46 ∨ j ≠ 0) → fld F b j = fld Fo b j) ∧ (∀ b j : Nat, elm F b j = elm Fo b j) := ⟨fun b j n46_0 => (h1v28501 b j (fr_ne g0 n46_0)).trans (hfr.1 b j n46_0), fun b j  => (h2v28501 b j).trans (hfr.2 b j )⟩
  refine lv_aload_n hx hb dX13_where_5 rfl (lv_at hl 0 rfl) ?_
  refine t_get (C := RX13) (T := TX13) (N := 37) X hT m0 g0 rfl rfl 2 (by decide) qw_109 inlX13 rfl dX13_where_6 (fun v28502 hv28502 ov28502 => ?_)
  obtain ⟨z28503, rfl, rz28503⟩ := okV_i ov28502
  exact t_iret hQ X hT (⟨rg_all _, hfr⟩) (Nat.le_of_ble_eq_true rfl) (Nat.le_of_ble_eq_true rfl) dX13_where_9
set_option maxHeartbeats 4000000 in
set_option maxRecDepth 100000 in
theorem km86_X13_trouble (l : Launch) (G : KG) (tag : Nat → Nat) (L : List Nat) (Fo : Nat → va_E) (ho : okT G ttC tag L Fo) (p0 : Nat) (m0 : p0 ∈ L) (g0 : tag p0 = 46) : TMi l yX13_trouble cX13_trouble 1 (some .int) { frames := 0, cells := 0, slots := 0, locals := 0 } G ttC tag L Fo [.ref p0] (fun r F1 => ((-2147483648) ≤ r.toInt ∧ r.toInt ≤ 2147483647) ∧ ((∀ b j : Nat, (tag b ≠ 46 ∨ j ≠ 0) → fld F1 b j = fld Fo b j) ∧ (∀ b j : Nat, elm F1 b j = elm Fo b j))) := by
  refine t_bodyi (y := yX13_trouble) (cd := cX13_trouble) (mL := 1) (rt := (some .int)) (rm := { frames := 0, cells := 0, slots := 0, locals := 0 }) (av := [.ref p0]) (by decide) (Nat.le_of_ble_eq_true rfl) ho ?_
  intro p e s m args below meth c ls A Q hQ X hT hl
  have hx := X.1.1
  have hb := X.1.2.1
  have hl : lv_has ls 1 [(0, .ref p0)] := hl
  obtain ⟨F, hFo⟩ : ∃ F : Nat → va_E, F = Fo := ⟨_, rfl⟩
  rw [← hFo] at hT
  have hfr : (∀ b j : Nat, (tag b ≠ 46 ∨ j ≠ 0) → fld F b j = fld Fo b j) ∧ (∀ b j : Nat, elm F b j = elm Fo b j) := by
    rw [hFo]
    exact ⟨by intros; rfl, by intros; rfl⟩
  refine lv_aload_n hx hb dX13_trouble_0 rfl (lv_at hl 0 rfl) ?_
  refine lv_iconst (v := 0) hx hb dX13_trouble_1 (by decide) ?_
  refine t_put (C := RX13) (T := TX13) (N := 37) (v := .int 0) X hT m0 g0 rfl tyX13 tyX13_ok nmX13 rfl 0 (by decide) qw_140 inlX13 rfl (by first | rfl | decide) (by first | rfl | decide) rfl (⟨_, rfl, (show (-2147483648) ≤ (0 : Int32).toInt from (by decide)), (show (0 : Int32).toInt ≤ 2147483647 from (by decide))⟩) dX13_trouble_2 (fun F H locs hT v28537 h1v28537 h2v28537 => ?_)
  have hfr : (∀ b j : Nat, (tag b ≠ 46 ∨ j ≠ 0) → fld F b j = fld Fo b j) ∧ (∀ b j : Nat, elm F b j = elm Fo b j) := ⟨fun b j n46_0 => (h1v28537 b j (fr_ne g0 n46_0)).trans (hfr.1 b j n46_0), fun b j  => (h2v28537 b j).trans (hfr.2 b j )⟩
  refine lv_aload_n hx hb dX13_trouble_5 rfl (lv_at hl 0 rfl) ?_
  refine t_get (C := RX13) (T := TX13) (N := 37) X hT m0 g0 rfl rfl 1 (by decide) qw_479 inlX13 rfl dX13_trouble_6 (fun v28538 hv28538 ov28538 => ?_)
  obtain ⟨z28539, rfl, rz28539⟩ := okV_i ov28538
  exact t_iret hQ X hT (⟨rg_all _, hfr⟩) (Nat.le_of_ble_eq_true rfl) (Nat.le_of_ble_eq_true rfl) dX13_trouble_9
set_option maxHeartbeats 4000000 in
set_option maxRecDepth 100000 in
theorem km87_X13_isCell (l : Launch) (G : KG) (tag : Nat → Nat) (L : List Nat) (F : Nat → va_E) (ho : okT G ttC tag L F) (p0 : Nat) (p1 : Int32) (p2 : Int32) (x0 : Nat) (m0 : p0 ∈ L) (g0 : tag p0 = 46) (mx0 : x0 ∈ L) (gx0 : tag x0 = 45) (pf0 : fld F p0 3 = .ref x0) : TMi l yX13_isCell cX13_isCell 3 (some .boolean) { frames := 1, cells := 0, slots := 0, locals := 22 } G ttC tag L F [.ref p0, .int p1, .int p2] (fun r F1 => F1 = F ∧ (0 ≤ r.toInt ∧ r.toInt ≤ 1)) := by
  refine t_bodyi (y := yX13_isCell) (cd := cX13_isCell) (mL := 3) (rt := (some .boolean)) (rm := { frames := 1, cells := 0, slots := 0, locals := 22 }) (av := [.ref p0, .int p1, .int p2]) (by decide) (Nat.le_of_ble_eq_true rfl) ho ?_
  intro p e s m args below meth c ls A Q hQ X hT hl
  have hx := X.1.1
  have hb := X.1.2.1
  have hl : lv_has ls 3 [(0, .ref p0), (1, .int p1), (2, .int p2)] := hl
  have rp1 := rg_all p1
  have rp2 := rg_all p2
  refine lv_aload_n hx hb dX13_isCell_0 rfl (lv_at hl 0 rfl) ?_
  refine t_get (C := RX13) (T := TX13) (N := 37) X hT m0 g0 rfl rfl 3 (by decide) qw_481 inlX13 rfl dX13_isCell_1 (fun v28772 hv28772 ov28772 => ?_)
  obtain rfl : v28772 = .ref x0 := hv28772.symm.trans pf0
  refine lv_ifnull hx hb dX13_isCell_4 ?_
  refine lv_iload_n hx hb dX13_isCell_7 rfl (lv_at hl 1 rfl) ?_
  refine lv_iconst (v := 0) hx hb dX13_isCell_8 (by decide) ?_
  refine lv_aload_n hx hb dX13_isCell_9 rfl (lv_at hl 0 rfl) ?_
  refine t_get (C := RX13) (T := TX13) (N := 37) X hT m0 g0 rfl rfl 3 (by decide) qw_481 inlX13 rfl dX13_isCell_10 (fun v28773 hv28773 ov28773 => ?_)
  obtain rfl : v28773 = .ref x0 := hv28773.symm.trans pf0
  refine t_getN (C := RX12) (T := TX12) (N := 31) X hT mx0 gx0 rfl rfl 0 (by decide) (List.mem_of_getElem? (i := 4) rfl) inlX12 rfl dX13_isCell_13 (fun v28774 hv28774 ov28774 => ?_)
  obtain ⟨z28775, rfl, rz28775⟩ := okV_i ov28774
  refine lv_iconst (v := 1) hx hb dX13_isCell_16 (by decide) ?_
  refine lv_isub hx hb dX13_isCell_17 ?_
  refine lv_topi (fun z28776 ez28776 => ?_)
  have hz28776 : z28776.toInt = z28775.toInt - 1 := ar_sub ez28776 (rfl : z28775.toInt = z28775.toInt) (by decide : (1 : Int32).toInt = 1) (by omega) (by omega)
  have rz28776 : 0 ≤ z28776.toInt ∧ z28776.toInt ≤ 11 := by omega
  refine t_cSi (n := 3) (As := [.int p1, .int 0, .int z28776]) (rest := []) X hT (km19_X13_within l G tag L F hT.2.2.2 p1 0 z28776 ) qw_568 qw_569 qw_5 qw_570 ⟨by decide +kernel, by decide +kernel, by decide +kernel⟩ ⟨Nat.le_of_ble_eq_true rfl, Nat.le_of_ble_eq_true rfl⟩ hl rfl rfl (Nat.le_of_ble_eq_true rfl) dX13_isCell_18 ⟨Nat.le_of_ble_eq_true rfl, Nat.le_of_ble_eq_true rfl⟩ (fun z28777 F9 H locs hT hz28777 => ?_)
  obtain ⟨fz28777, hz28777, xz28777_0⟩ := hz28777
  rw [fz28777] at hT
  have k28778 : (0 : Int32).toInt = 0 := by decide
  refine lv_if_eq (tgt := 45) hx hb dX13_isCell_21 (by decide) (fun c28779 => ?_) (fun c28779 => ?_)
  · have w28780 := cv_eq (rfl : z28777.toInt = z28777.toInt) (by decide : (0 : Int32).toInt = 0) c28779
    refine lv_iconst (v := 0) hx hb dX13_isCell_45 (by decide) ?_
    have k28781 : (0 : Int32).toInt = 0 := by decide
    exact t_zret hQ X hT (by decide) (⟨rfl, (by decide)⟩) (Nat.le_of_ble_eq_true rfl) (Nat.le_of_ble_eq_true rfl) dX13_isCell_46
  · have w28782 := cv_ne (rfl : z28777.toInt = z28777.toInt) (by decide : (0 : Int32).toInt = 0) c28779
    have w28783 := xz28777_0 (by omega)
    refine lv_iload_n hx hb dX13_isCell_24 rfl (lv_at hl 2 rfl) ?_
    refine lv_iconst (v := 0) hx hb dX13_isCell_25 (by decide) ?_
    refine lv_aload_n hx hb dX13_isCell_26 rfl (lv_at hl 0 rfl) ?_
    refine t_get (C := RX13) (T := TX13) (N := 37) X hT m0 g0 rfl rfl 3 (by decide) qw_481 inlX13 rfl dX13_isCell_27 (fun v28784 hv28784 ov28784 => ?_)
    obtain rfl : v28784 = .ref x0 := hv28784.symm.trans pf0
    refine t_getN (C := RX12) (T := TX12) (N := 31) X hT mx0 gx0 rfl rfl 1 (by decide) (List.mem_of_getElem? (i := 5) rfl) inlX12 rfl dX13_isCell_30 (fun v28785 hv28785 ov28785 => ?_)
    obtain ⟨z28786, rfl, rz28786⟩ := okV_i ov28785
    refine lv_iconst (v := 1) hx hb dX13_isCell_33 (by decide) ?_
    refine lv_isub hx hb dX13_isCell_34 ?_
    refine lv_topi (fun z28787 ez28787 => ?_)
    have hz28787 : z28787.toInt = z28786.toInt - 1 := ar_sub ez28787 (rfl : z28786.toInt = z28786.toInt) (by decide : (1 : Int32).toInt = 1) (by omega) (by omega)
    have rz28787 : (-1) ≤ z28787.toInt ∧ z28787.toInt ≤ 11 := by omega
    refine t_cSi (n := 3) (As := [.int p2, .int 0, .int z28787]) (rest := []) X hT (km19_X13_within l G tag L F hT.2.2.2 p2 0 z28787 ) qw_568 qw_569 qw_5 qw_570 ⟨by decide +kernel, by decide +kernel, by decide +kernel⟩ ⟨Nat.le_of_ble_eq_true rfl, Nat.le_of_ble_eq_true rfl⟩ hl rfl rfl (Nat.le_of_ble_eq_true rfl) dX13_isCell_35 ⟨Nat.le_of_ble_eq_true rfl, Nat.le_of_ble_eq_true rfl⟩ (fun z28788 F9 H locs hT hz28788 => ?_)
    obtain ⟨fz28788, hz28788, xz28788_0⟩ := hz28788
    rw [fz28788] at hT
    have k28789 : (0 : Int32).toInt = 0 := by decide
    refine lv_if_eq (tgt := 45) hx hb dX13_isCell_38 (by decide) (fun c28790 => ?_) (fun c28790 => ?_)
    · have w28791 := cv_eq (rfl : z28788.toInt = z28788.toInt) (by decide : (0 : Int32).toInt = 0) c28790
      refine lv_iconst (v := 0) hx hb dX13_isCell_45 (by decide) ?_
      have k28792 : (0 : Int32).toInt = 0 := by decide
      exact t_zret hQ X hT (by decide) (⟨rfl, (by decide)⟩) (Nat.le_of_ble_eq_true rfl) (Nat.le_of_ble_eq_true rfl) dX13_isCell_46
    · have w28793 := cv_ne (rfl : z28788.toInt = z28788.toInt) (by decide : (0 : Int32).toInt = 0) c28790
      have w28794 := xz28788_0 (by omega)
      refine lv_iconst (v := 1) hx hb dX13_isCell_41 (by decide) ?_
      refine lv_goto (tgt := 46) hx hb dX13_isCell_42 (by decide) ?_
      have k28795 : (1 : Int32).toInt = 1 := by decide
      exact t_zret hQ X hT (by decide) (⟨rfl, (by decide)⟩) (Nat.le_of_ble_eq_true rfl) (Nat.le_of_ble_eq_true rfl) dX13_isCell_46
set_option maxHeartbeats 4000000 in
set_option maxRecDepth 100000 in
theorem km88_X13_refused (l : Launch) (G : KG) (tag : Nat → Nat) (L : List Nat) (Fo : Nat → va_E) (ho : okT G ttC tag L Fo) (p0 : Nat) (p1 : Int32) (m0 : p0 ∈ L) (g0 : tag p0 = 46) : TMi l yX13_refused cX13_refused 2 (some .int) { frames := 0, cells := 0, slots := 0, locals := 0 } G ttC tag L Fo [.ref p0, .int p1] (fun r F1 => ((-1) ≤ r.toInt ∧ r.toInt ≤ (-1)) ∧ ((∀ b j : Nat, (tag b ≠ 46 ∨ j ≠ 1) → (tag b ≠ 46 ∨ j ≠ 2) → fld F1 b j = fld Fo b j) ∧ (∀ b j : Nat, elm F1 b j = elm Fo b j))) := by
  refine t_bodyi (y := yX13_refused) (cd := cX13_refused) (mL := 2) (rt := (some .int)) (rm := { frames := 0, cells := 0, slots := 0, locals := 0 }) (av := [.ref p0, .int p1]) (by decide) (Nat.le_of_ble_eq_true rfl) ho ?_
  intro p e s m args below meth c ls A Q hQ X hT hl
  have hx := X.1.1
  have hb := X.1.2.1
  have hl : lv_has ls 2 [(0, .ref p0), (1, .int p1)] := hl
  have rp1 := rg_all p1
  obtain ⟨F, hFo⟩ : ∃ F : Nat → va_E, F = Fo := ⟨_, rfl⟩
  rw [← hFo] at hT
  have hfr : (∀ b j : Nat, (tag b ≠ 46 ∨ j ≠ 1) → (tag b ≠ 46 ∨ j ≠ 2) → fld F b j = fld Fo b j) ∧ (∀ b j : Nat, elm F b j = elm Fo b j) := by
    rw [hFo]
    exact ⟨by intros; rfl, by intros; rfl⟩
  refine lv_aload_n hx hb dX13_refused_0 rfl (lv_at hl 0 rfl) ?_
  refine lv_iload_n hx hb dX13_refused_1 rfl (lv_at hl 1 rfl) ?_
  refine t_put (C := RX13) (T := TX13) (N := 37) (v := .int p1) X hT m0 g0 rfl tyX13 tyX13_ok nmX13 rfl 1 (by decide) qw_479 inlX13 rfl (by first | rfl | decide) (by first | rfl | decide) rfl (⟨_, rfl, (show (-2147483648) ≤ (p1 : Int32).toInt from (by omega)), (show (p1 : Int32).toInt ≤ 2147483647 from (by omega))⟩) dX13_refused_2 (fun F H locs hT v28821 h1v28821 h2v28821 => ?_)
  have hfr : (∀ b j : Nat, (tag b ≠ 46 ∨ j ≠ 1) → (tag b ≠ 46 ∨ j ≠ 2) → fld F b j = fld Fo b j) ∧ (∀ b j : Nat, elm F b j = elm Fo b j) := ⟨fun b j n46_1 n46_2 => (h1v28821 b j (fr_ne g0 n46_1)).trans (hfr.1 b j n46_1 n46_2), fun b j  => (h2v28821 b j).trans (hfr.2 b j )⟩
  refine lv_aload_n hx hb dX13_refused_5 rfl (lv_at hl 0 rfl) ?_
  refine lv_iconst (v := (-1)) hx hb dX13_refused_6 (by decide) ?_
  refine t_put (C := RX13) (T := TX13) (N := 37) (v := .int (-1)) X hT m0 g0 rfl tyX13 tyX13_ok nmX13 rfl 2 (by decide) qw_109 inlX13 rfl (by first | rfl | decide) (by first | rfl | decide) rfl (⟨_, rfl, (show (-2147483648) ≤ ((-1) : Int32).toInt from (by decide)), (show ((-1) : Int32).toInt ≤ 2147483647 from (by decide))⟩) dX13_refused_7 (fun F H locs hT v28822 h1v28822 h2v28822 => ?_)
  have v28821 := (h1v28822 _ _ (Or.inr (by decide))).trans v28821
  have hfr : (∀ b j : Nat, (tag b ≠ 46 ∨ j ≠ 1) → (tag b ≠ 46 ∨ j ≠ 2) → fld F b j = fld Fo b j) ∧ (∀ b j : Nat, elm F b j = elm Fo b j) := ⟨fun b j n46_1 n46_2 => (h1v28822 b j (fr_ne g0 n46_2)).trans (hfr.1 b j n46_1 n46_2), fun b j  => (h2v28822 b j).trans (hfr.2 b j )⟩
  refine lv_iconst (v := (-1)) hx hb dX13_refused_10 (by decide) ?_
  have k28823 : ((-1) : Int32).toInt = (-1) := by decide
  exact t_iret hQ X hT (⟨(by decide), hfr⟩) (Nat.le_of_ble_eq_true rfl) (Nat.le_of_ble_eq_true rfl) dX13_refused_11
set_option maxHeartbeats 4000000 in
set_option maxRecDepth 100000 in
theorem km89_X12_x (l : Launch) (G : KG) (tag : Nat → Nat) (L : List Nat) (F : Nat → va_E) (ho : okT G ttC tag L F) (p0 : Nat) (p1 : Int32) (m0 : p0 ∈ L) (g0 : tag p0 = 45) (h1 : 0 ≤ p1.toInt ∧ p1.toInt ≤ 3) : TMi l yX12_x cX12_x 2 (some .int) { frames := 0, cells := 0, slots := 0, locals := 0 } G ttC tag L F [.ref p0, .int p1] (fun r F1 => F1 = F ∧ (0 ≤ r.toInt ∧ r.toInt ≤ 11)) := by
  refine t_bodyi (y := yX12_x) (cd := cX12_x) (mL := 2) (rt := (some .int)) (rm := { frames := 0, cells := 0, slots := 0, locals := 0 }) (av := [.ref p0, .int p1]) (by decide) (Nat.le_of_ble_eq_true rfl) ho ?_
  intro p e s m args below meth c ls A Q hQ X hT hl
  have hx := X.1.1
  have hb := X.1.2.1
  have hl : lv_has ls 2 [(0, .ref p0), (1, .int p1)] := hl
  refine lv_aload_n hx hb dX12_x_0 rfl (lv_at hl 0 rfl) ?_
  refine t_get (C := RX12) (T := TX12) (N := 31) X hT m0 g0 rfl rfl 21 (by decide) qw_498 inlX12 rfl dX12_x_1 (fun v28900 hv28900 ov28900 => ?_)
  obtain ⟨b28901, rfl, mb28901, gb28901⟩ := okV_r ov28900
  have gb28901 : tag b28901 = 30 := tg_of gb28901
  refine lv_iload_n hx hb dX12_x_4 rfl (lv_at hl 1 rfl) ?_
  refine t_ild X hT mb28901 gb28901 rfl (by omega) dX12_x_5 (fun z28902 vz28902 rz28902 => ?_)
  have rz28902 : 0 ≤ z28902.toInt ∧ z28902.toInt ≤ 143 := rz28902
  refine lv_aload_n hx hb dX12_x_6 rfl (lv_at hl 0 rfl) ?_
  refine t_get (C := RX12) (T := TX12) (N := 31) X hT m0 g0 rfl rfl 0 (by decide) qw_627 inlX12 rfl dX12_x_7 (fun v28903 hv28903 ov28903 => ?_)
  obtain ⟨z28904, rfl, rz28904⟩ := okV_i ov28903
  refine lv_irem hx hb dX12_x_10 (ne0_of (by omega)) ?_
  refine lv_topi (fun z28905 ez28905 => ?_)
  have hz28905 := ar_remv ez28905 (by omega) (by omega)
  have rz28905 : 0 ≤ z28905.toInt ∧ z28905.toInt ≤ 11 := by omega
  exact t_iret hQ X hT (⟨rfl, (by omega)⟩) (Nat.le_of_ble_eq_true rfl) (Nat.le_of_ble_eq_true rfl) dX12_x_11
set_option maxHeartbeats 4000000 in
set_option maxRecDepth 100000 in
theorem km90_X12_y (l : Launch) (G : KG) (tag : Nat → Nat) (L : List Nat) (F : Nat → va_E) (ho : okT G ttC tag L F) (p0 : Nat) (p1 : Int32) (m0 : p0 ∈ L) (g0 : tag p0 = 45) (h1 : 0 ≤ p1.toInt ∧ p1.toInt ≤ 3) : TMi l yX12_y cX12_y 2 (some .int) { frames := 0, cells := 0, slots := 0, locals := 0 } G ttC tag L F [.ref p0, .int p1] (fun r F1 => F1 = F ∧ (0 ≤ r.toInt ∧ r.toInt ≤ 143)) := by
  refine t_bodyi (y := yX12_y) (cd := cX12_y) (mL := 2) (rt := (some .int)) (rm := { frames := 0, cells := 0, slots := 0, locals := 0 }) (av := [.ref p0, .int p1]) (by decide) (Nat.le_of_ble_eq_true rfl) ho ?_
  intro p e s m args below meth c ls A Q hQ X hT hl
  have hx := X.1.1
  have hb := X.1.2.1
  have hl : lv_has ls 2 [(0, .ref p0), (1, .int p1)] := hl
  refine lv_aload_n hx hb dX12_y_0 rfl (lv_at hl 0 rfl) ?_
  refine t_get (C := RX12) (T := TX12) (N := 31) X hT m0 g0 rfl rfl 21 (by decide) qw_498 inlX12 rfl dX12_y_1 (fun v28980 hv28980 ov28980 => ?_)
  obtain ⟨b28981, rfl, mb28981, gb28981⟩ := okV_r ov28980
  have gb28981 : tag b28981 = 30 := tg_of gb28981
  refine lv_iload_n hx hb dX12_y_4 rfl (lv_at hl 1 rfl) ?_
  refine t_ild X hT mb28981 gb28981 rfl (by omega) dX12_y_5 (fun z28982 vz28982 rz28982 => ?_)
  have rz28982 : 0 ≤ z28982.toInt ∧ z28982.toInt ≤ 143 := rz28982
  refine lv_aload_n hx hb dX12_y_6 rfl (lv_at hl 0 rfl) ?_
  refine t_get (C := RX12) (T := TX12) (N := 31) X hT m0 g0 rfl rfl 0 (by decide) qw_627 inlX12 rfl dX12_y_7 (fun v28983 hv28983 ov28983 => ?_)
  obtain ⟨z28984, rfl, rz28984⟩ := okV_i ov28983
  refine lv_idiv hx hb dX12_y_10 (ne0_of (by omega)) ?_
  refine lv_topi (fun z28985 ez28985 => ?_)
  have rz28985 : 0 ≤ z28985.toInt ∧ z28985.toInt ≤ 143 := ar_divv ez28985 (A := 143) (by omega) (by omega)
  exact t_iret hQ X hT (⟨rfl, (by omega)⟩) (Nat.le_of_ble_eq_true rfl) (Nat.le_of_ble_eq_true rfl) dX12_y_11
set_option maxHeartbeats 4000000 in
set_option maxRecDepth 100000 in
theorem km91_X12_far (l : Launch) (G : KG) (tag : Nat → Nat) (L : List Nat) (F : Nat → va_E) (ho : okT G ttC tag L F) (p0 : Nat) (p1 : Int32) (p2 : Int32) (p3 : Int32) (m0 : p0 ∈ L) (g0 : tag p0 = 45) (h1 : 0 ≤ p1.toInt ∧ p1.toInt ≤ 3) : TMi l yX12_far cX12_far 6 (some .int) { frames := 1, cells := 0, slots := 0, locals := 21 } G ttC tag L F [.ref p0, .int p1, .int p2, .int p3] (fun r F1 => F1 = F ∧ ((-2147483648) ≤ r.toInt ∧ r.toInt ≤ 2147483647)) := by
  refine t_bodyi (y := yX12_far) (cd := cX12_far) (mL := 6) (rt := (some .int)) (rm := { frames := 1, cells := 0, slots := 0, locals := 21 }) (av := [.ref p0, .int p1, .int p2, .int p3]) (by decide) (Nat.le_of_ble_eq_true rfl) ho ?_
  intro p e s m args below meth c ls A Q hQ X hT hl
  have hx := X.1.1
  have hb := X.1.2.1
  have hl : lv_has ls 6 [(0, .ref p0), (1, .int p1), (2, .int p2), (3, .int p3)] := hl
  have rp2 := rg_all p2
  have rp3 := rg_all p3
  have K54 : ∀ (z29195 : Int32) (z29196 : Int32) (H : Heap) (locs : List Loc) (ls : Array Slot), TH G ttC A s tag L F H locs → lv_has ls 6 [(0, .ref p0), (1, .int p1), (2, .int p2), (3, .int p3), (4, .int z29195)] → W p l e { frames := 1, cells := 0, slots := 0, locals := 21 } s m args below meth c H locs 0 0 Q (F0 m 54 ls [.int z29196]) := by
    intro z29195 z29196 H locs ls hT hl
    have rz29195 := rg_all z29195
    have rz29196 := rg_all z29196
    refine lv_istore (lv' := [(5, .int z29196), (0, .ref p0), (1, .int p1), (2, .int p2), (3, .int p3), (4, .int z29195)]) hx hb dX12_far_54 hl (by decide) rfl (fun ls hl => ?_)
    refine lv_iload hx hb dX12_far_56 (lv_at hl 5 rfl) ?_
    refine lv_iload hx hb dX12_far_58 (lv_at hl 0 rfl) ?_
    refine lv_icmp_le (tgt := 68) hx hb dX12_far_60 (by decide) (fun c29197 => ?_) (fun c29197 => ?_)
    · have w29198 := cv_le (rfl : z29195.toInt = z29195.toInt) (rfl : z29196.toInt = z29196.toInt) c29197
      refine lv_iload hx hb dX12_far_68 (lv_at hl 0 rfl) ?_
      exact t_iret hQ X hT (⟨rfl, rg_all _⟩) (Nat.le_of_ble_eq_true rfl) (Nat.le_of_ble_eq_true rfl) dX12_far_70
    · have w29199 := cv_nle (rfl : z29195.toInt = z29195.toInt) (rfl : z29196.toInt = z29196.toInt) c29197
      refine lv_iload hx hb dX12_far_63 (lv_at hl 5 rfl) ?_
      refine lv_goto (tgt := 70) hx hb dX12_far_65 (by decide) ?_
      exact t_iret hQ X hT (⟨rfl, rg_all _⟩) (Nat.le_of_ble_eq_true rfl) (Nat.le_of_ble_eq_true rfl) dX12_far_70
  have K26 : ∀ (z29200 : Int32) (H : Heap) (locs : List Loc) (ls : Array Slot), TH G ttC A s tag L F H locs → lv_has ls 6 [(0, .ref p0), (1, .int p1), (2, .int p2), (3, .int p3)] → W p l e { frames := 1, cells := 0, slots := 0, locals := 21 } s m args below meth c H locs 0 0 Q (F0 m 26 ls [.int z29200]) := by
    intro z29200 H locs ls hT hl
    have rz29200 := rg_all z29200
    refine lv_istore (lv' := [(4, .int z29200), (0, .ref p0), (1, .int p1), (2, .int p2), (3, .int p3)]) hx hb dX12_far_26 hl (by decide) rfl (fun ls hl => ?_)
    refine lv_iload_n hx hb dX12_far_28 rfl (lv_at hl 4 rfl) ?_
    refine lv_aload_n hx hb dX12_far_29 rfl (lv_at hl 1 rfl) ?_
    refine lv_iload_n hx hb dX12_far_30 rfl (lv_at hl 2 rfl) ?_
    refine t_cVi (n := 1) (C := RX12) (T := TX12) (N := 31) (As := [.int p1]) (rest := [.int p3]) X hT (km90_X12_y l G tag L F hT.2.2.2 p0 p1 m0 g0 (by omega)) m0 g0 rfl rfl qw_628 qw_629 qw_630 qw_476 qw_631 ⟨rfl, by decide +kernel, by decide +kernel, by decide +kernel⟩ ⟨Nat.le_of_ble_eq_true rfl, Nat.le_of_ble_eq_true rfl⟩ hl rfl rfl (Nat.le_of_ble_eq_true rfl) dX12_far_31 ⟨Nat.le_of_ble_eq_true rfl, Nat.le_of_ble_eq_true rfl⟩ (fun z29201 F9 H locs hT hz29201 => ?_)
    obtain ⟨fz29201, hz29201⟩ := hz29201
    rw [fz29201] at hT
    refine lv_icmp_le (tgt := 47) hx hb dX12_far_34 (by decide) (fun c29202 => ?_) (fun c29202 => ?_)
    · have w29203 := cv_le (rfl : p3.toInt = p3.toInt) (rfl : z29201.toInt = z29201.toInt) c29202
      refine lv_aload_n hx hb dX12_far_47 rfl (lv_at hl 1 rfl) ?_
      refine lv_iload_n hx hb dX12_far_48 rfl (lv_at hl 2 rfl) ?_
      refine t_cVi (n := 1) (C := RX12) (T := TX12) (N := 31) (As := [.int p1]) (rest := []) X hT (km90_X12_y l G tag L F hT.2.2.2 p0 p1 m0 g0 (by omega)) m0 g0 rfl rfl qw_628 qw_629 qw_630 qw_476 qw_631 ⟨rfl, by decide +kernel, by decide +kernel, by decide +kernel⟩ ⟨Nat.le_of_ble_eq_true rfl, Nat.le_of_ble_eq_true rfl⟩ hl rfl rfl (Nat.le_of_ble_eq_true rfl) dX12_far_49 ⟨Nat.le_of_ble_eq_true rfl, Nat.le_of_ble_eq_true rfl⟩ (fun z29204 F9 H locs hT hz29204 => ?_)
      obtain ⟨fz29204, hz29204⟩ := hz29204
      rw [fz29204] at hT
      refine lv_iload_n hx hb dX12_far_52 rfl (lv_at hl 4 rfl) ?_
      refine lv_isub hx hb dX12_far_53 ?_
      refine lv_topi (fun z29205 ez29205 => ?_)
      have rz29205 := rg_all z29205
      exact K54 z29200 z29205 _ _ _  hT  (lv_sub hl [1, 2, 3, 4, 0] rfl)
    · have w29206 := cv_nle (rfl : p3.toInt = p3.toInt) (rfl : z29201.toInt = z29201.toInt) c29202
      refine lv_iload_n hx hb dX12_far_37 rfl (lv_at hl 4 rfl) ?_
      refine lv_aload_n hx hb dX12_far_38 rfl (lv_at hl 1 rfl) ?_
      refine lv_iload_n hx hb dX12_far_39 rfl (lv_at hl 2 rfl) ?_
      refine t_cVi (n := 1) (C := RX12) (T := TX12) (N := 31) (As := [.int p1]) (rest := [.int p3]) X hT (km90_X12_y l G tag L F hT.2.2.2 p0 p1 m0 g0 (by omega)) m0 g0 rfl rfl qw_628 qw_629 qw_630 qw_476 qw_631 ⟨rfl, by decide +kernel, by decide +kernel, by decide +kernel⟩ ⟨Nat.le_of_ble_eq_true rfl, Nat.le_of_ble_eq_true rfl⟩ hl rfl rfl (Nat.le_of_ble_eq_true rfl) dX12_far_40 ⟨Nat.le_of_ble_eq_true rfl, Nat.le_of_ble_eq_true rfl⟩ (fun z29207 F9 H locs hT hz29207 => ?_)
      obtain ⟨fz29207, hz29207⟩ := hz29207
      rw [fz29207] at hT
      refine lv_isub hx hb dX12_far_43 ?_
      refine lv_topi (fun z29208 ez29208 => ?_)
      have hz29208 : z29208.toInt = p3.toInt - z29207.toInt := ar_sub ez29208 (rfl : p3.toInt = p3.toInt) (rfl : z29207.toInt = z29207.toInt) (by omega) (by omega)
      have rz29208 : (-142) ≤ z29208.toInt ∧ z29208.toInt ≤ 2147483647 := by omega
      refine lv_goto (tgt := 54) hx hb dX12_far_44 (by decide) ?_
      exact K54 z29200 z29208 _ _ _  hT  (lv_sub hl [1, 2, 3, 4, 0] rfl)
  refine lv_iload_n hx hb dX12_far_0 rfl (lv_at hl 2 rfl) ?_
  refine lv_aload_n hx hb dX12_far_1 rfl (lv_at hl 0 rfl) ?_
  refine lv_iload_n hx hb dX12_far_2 rfl (lv_at hl 1 rfl) ?_
  refine t_cVi (n := 1) (C := RX12) (T := TX12) (N := 31) (As := [.int p1]) (rest := [.int p2]) X hT (km89_X12_x l G tag L F hT.2.2.2 p0 p1 m0 g0 (by omega)) m0 g0 rfl rfl qw_623 qw_624 qw_625 qw_476 qw_626 ⟨rfl, by decide +kernel, by decide +kernel, by decide +kernel⟩ ⟨Nat.le_of_ble_eq_true rfl, Nat.le_of_ble_eq_true rfl⟩ hl rfl rfl (Nat.le_of_ble_eq_true rfl) dX12_far_3 ⟨Nat.le_of_ble_eq_true rfl, Nat.le_of_ble_eq_true rfl⟩ (fun z29209 F9 H locs hT hz29209 => ?_)
  obtain ⟨fz29209, hz29209⟩ := hz29209
  rw [fz29209] at hT
  refine lv_icmp_le (tgt := 19) hx hb dX12_far_6 (by decide) (fun c29210 => ?_) (fun c29210 => ?_)
  · have w29211 := cv_le (rfl : p2.toInt = p2.toInt) (rfl : z29209.toInt = z29209.toInt) c29210
    refine lv_aload_n hx hb dX12_far_19 rfl (lv_at hl 0 rfl) ?_
    refine lv_iload_n hx hb dX12_far_20 rfl (lv_at hl 1 rfl) ?_
    refine t_cVi (n := 1) (C := RX12) (T := TX12) (N := 31) (As := [.int p1]) (rest := []) X hT (km89_X12_x l G tag L F hT.2.2.2 p0 p1 m0 g0 (by omega)) m0 g0 rfl rfl qw_623 qw_624 qw_625 qw_476 qw_626 ⟨rfl, by decide +kernel, by decide +kernel, by decide +kernel⟩ ⟨Nat.le_of_ble_eq_true rfl, Nat.le_of_ble_eq_true rfl⟩ hl rfl rfl (Nat.le_of_ble_eq_true rfl) dX12_far_21 ⟨Nat.le_of_ble_eq_true rfl, Nat.le_of_ble_eq_true rfl⟩ (fun z29212 F9 H locs hT hz29212 => ?_)
    obtain ⟨fz29212, hz29212⟩ := hz29212
    rw [fz29212] at hT
    refine lv_iload_n hx hb dX12_far_24 rfl (lv_at hl 2 rfl) ?_
    refine lv_isub hx hb dX12_far_25 ?_
    refine lv_topi (fun z29213 ez29213 => ?_)
    have rz29213 := rg_all z29213
    exact K26 z29213 _ _ _  hT  (lv_sub hl [0, 1, 2, 3] rfl)
  · have w29214 := cv_nle (rfl : p2.toInt = p2.toInt) (rfl : z29209.toInt = z29209.toInt) c29210
    refine lv_iload_n hx hb dX12_far_9 rfl (lv_at hl 2 rfl) ?_
    refine lv_aload_n hx hb dX12_far_10 rfl (lv_at hl 0 rfl) ?_
    refine lv_iload_n hx hb dX12_far_11 rfl (lv_at hl 1 rfl) ?_
    refine t_cVi (n := 1) (C := RX12) (T := TX12) (N := 31) (As := [.int p1]) (rest := [.int p2]) X hT (km89_X12_x l G tag L F hT.2.2.2 p0 p1 m0 g0 (by omega)) m0 g0 rfl rfl qw_623 qw_624 qw_625 qw_476 qw_626 ⟨rfl, by decide +kernel, by decide +kernel, by decide +kernel⟩ ⟨Nat.le_of_ble_eq_true rfl, Nat.le_of_ble_eq_true rfl⟩ hl rfl rfl (Nat.le_of_ble_eq_true rfl) dX12_far_12 ⟨Nat.le_of_ble_eq_true rfl, Nat.le_of_ble_eq_true rfl⟩ (fun z29215 F9 H locs hT hz29215 => ?_)
    obtain ⟨fz29215, hz29215⟩ := hz29215
    rw [fz29215] at hT
    refine lv_isub hx hb dX12_far_15 ?_
    refine lv_topi (fun z29216 ez29216 => ?_)
    have hz29216 : z29216.toInt = p2.toInt - z29215.toInt := ar_sub ez29216 (rfl : p2.toInt = p2.toInt) (rfl : z29215.toInt = z29215.toInt) (by omega) (by omega)
    have rz29216 : (-10) ≤ z29216.toInt ∧ z29216.toInt ≤ 2147483647 := by omega
    refine lv_goto (tgt := 26) hx hb dX12_far_16 (by decide) ?_
    exact K26 z29216 _ _ _  hT  (lv_sub hl [0, 1, 2, 3] rfl)
set_option maxHeartbeats 4000000 in
set_option maxRecDepth 100000 in
theorem km92_X13_ownersOf (l : Launch) (G : KG) (tag : Nat → Nat) (L : List Nat) (F : Nat → va_E) (ho : okT G ttC tag L F) (p0 : Nat) (p1 : Nat) (p2 : Int32) (p3 : Int32) (m0 : p0 ∈ L) (g0 : tag p0 = 45) (m1 : p1 ∈ L) (g1 : tag p1 = 37) : TMi l yX13_ownersOf cX13_ownersOf 6 (some .int) { frames := 2, cells := 0, slots := 0, locals := 46 } G ttC tag L F [.ref p0, .ref p1, .int p2, .int p3] (fun r F1 => F1 = F ∧ (0 ≤ r.toInt ∧ r.toInt ≤ 15)) := by
  refine t_bodyi (y := yX13_ownersOf) (cd := cX13_ownersOf) (mL := 6) (rt := (some .int)) (rm := { frames := 2, cells := 0, slots := 0, locals := 46 }) (av := [.ref p0, .ref p1, .int p2, .int p3]) (by decide) (Nat.le_of_ble_eq_true rfl) ho ?_
  intro p e s m args below meth c ls A Q hQ X hT hl
  have hx := X.1.1
  have hb := X.1.2.1
  have hl : lv_has ls 6 [(0, .ref p0), (1, .ref p1), (2, .int p2), (3, .int p3)] := hl
  have rp2 := rg_all p2
  have rp3 := rg_all p3
  have K6 : ∀ (n : Nat) (z29434 : Int32) (z29435 : Int32) (H : Heap) (locs : List Loc) (ls : Array Slot), (4 - z29435.toInt < (n : Int)) → (0 ≤ z29434.toInt ∧ z29434.toInt ≤ 15) → (0 ≤ z29435.toInt ∧ z29435.toInt ≤ 4) → TH G ttC A s tag L F H locs → lv_has ls 6 [(0, .ref p0), (1, .ref p1), (2, .int p2), (3, .int p3), (4, .int z29434), (5, .int z29435)] → W p l e { frames := 2, cells := 0, slots := 0, locals := 46 } s m args below meth c H locs 0 0 Q (F0 m 6 ls []) := by
    intro n
    induction n with
    | zero =>
      intro z29434 z29435 H locs ls hn rz29434 rz29435 hT hl
      exfalso
      omega
    | succ n ih6 =>
      intro z29434 z29435 H locs ls hn rz29434 rz29435 hT hl
      have K42 : ∀ (z29437 : Int32) (z29438 : Int32) (z29439 : Int32) (H : Heap) (locs : List Loc) (ls : Array Slot), (0 ≤ z29437.toInt ∧ z29437.toInt ≤ 8) → (0 ≤ z29438.toInt ∧ z29438.toInt ≤ 15) → (1 ≤ z29439.toInt ∧ z29439.toInt ≤ 4) → (0 ≤ z29435.toInt ∧ z29435.toInt ≤ 3) → TH G ttC A s tag L F H locs → (fld F p0 8 = .int z29439) → lv_has ls 6 [(0, .ref p0), (1, .ref p1), (2, .int p2), (3, .int p3), (4, .int z29434), (5, .int z29435)] → W p l e { frames := 2, cells := 0, slots := 0, locals := 46 } s m args below meth c H locs 0 0 Q (F0 m 42 ls [.int z29437, .int z29438]) := by
        intro z29437 z29438 z29439 H locs ls rz29437 rz29438 rz29439 r9s29436 hT qz29439 hl
        refine lv_ior hx hb dX13_ownersOf_42 ?_
        refine lv_topi (fun z29440 ez29440 => ?_)
        have rz29440 : 0 ≤ z29440.toInt ∧ z29440.toInt ≤ 15 := ar_or ez29440 4 (by omega) (by omega) (by decide)
        refine lv_istore (lv' := [(4, .int z29440), (0, .ref p0), (1, .ref p1), (2, .int p2), (3, .int p3), (5, .int z29435)]) hx hb dX13_ownersOf_43 hl (by decide) rfl (fun ls hl => ?_)
        obtain ⟨z29441, ez29441⟩ : ∃ y : Int32, y = z29435 + 1 := ⟨_, rfl⟩
        have hz29441 : z29441.toInt = z29435.toInt + 1 := ar_add ez29441 rfl (by decide : (1 : Int32).toInt = 1) (by omega) (by omega)
        refine lv_iinc (v := z29441) (lv' := [(5, .int z29441), (4, .int z29440), (0, .ref p0), (1, .ref p1), (2, .int p2), (3, .int p3)]) hx hb dX13_ownersOf_45 hl (k := 5) rfl (by rw [ez29441]; rfl) (by decide) rfl (fun ls hl => ?_)
        refine lv_goto (tgt := 6) hx hb dX13_ownersOf_48 (by decide) ?_
        exact ih6 z29440 z29441 _ _ _ (by omega) (by omega) (by omega) hT  (lv_sub hl [2, 3, 4, 5, 1, 0] rfl)
      refine lv_iload hx hb dX13_ownersOf_6 (lv_at hl 5 rfl) ?_
      refine lv_aload_n hx hb dX13_ownersOf_8 rfl (lv_at hl 0 rfl) ?_
      refine t_getN (C := RX12) (T := TX12) (N := 31) X hT m0 g0 rfl rfl 8 (by decide) (List.mem_of_getElem? (i := 12) rfl) inlX12 rfl dX13_ownersOf_9 (fun v29442 hv29442 ov29442 => ?_)
      obtain ⟨z29443, rfl, rz29443⟩ := okV_i ov29442
      refine lv_icmp_ge (tgt := 51) hx hb dX13_ownersOf_12 (by decide) (fun c29444 => ?_) (fun c29444 => ?_)
      · have w29445 := cv_le (rfl : z29443.toInt = z29443.toInt) (rfl : z29435.toInt = z29435.toInt) c29444
        refine lv_iload hx hb dX13_ownersOf_51 (lv_at hl 4 rfl) ?_
        exact t_iret hQ X hT (⟨rfl, (by omega)⟩) (Nat.le_of_ble_eq_true rfl) (Nat.le_of_ble_eq_true rfl) dX13_ownersOf_53
      · have w29446 := cv_nle (rfl : z29443.toInt = z29443.toInt) (rfl : z29435.toInt = z29435.toInt) c29444
        refine lv_iload hx hb dX13_ownersOf_15 (lv_at hl 4 rfl) ?_
        refine lv_aload_n hx hb dX13_ownersOf_17 rfl (lv_at hl 0 rfl) ?_
        refine lv_iload hx hb dX13_ownersOf_18 (lv_at hl 5 rfl) ?_
        refine lv_iload_n hx hb dX13_ownersOf_20 rfl (lv_at hl 2 rfl) ?_
        refine lv_iload_n hx hb dX13_ownersOf_21 rfl (lv_at hl 3 rfl) ?_
        refine t_cVi (n := 3) (C := RX12) (T := TX12) (N := 31) (As := [.int z29435, .int p2, .int p3]) (rest := [.int z29434]) X hT (km91_X12_far l G tag L F hT.2.2.2 p0 z29435 p2 p3 m0 g0 (by omega)) m0 g0 rfl rfl qw_619 qw_620 qw_621 qw_476 qw_622 ⟨rfl, by decide +kernel, by decide +kernel, by decide +kernel⟩ ⟨Nat.le_of_ble_eq_true rfl, Nat.le_of_ble_eq_true rfl⟩ hl rfl rfl (Nat.le_of_ble_eq_true rfl) dX13_ownersOf_22 ⟨Nat.le_of_ble_eq_true rfl, Nat.le_of_ble_eq_true rfl⟩ (fun z29447 F9 H locs hT hz29447 => ?_)
        obtain ⟨fz29447, hz29447⟩ := hz29447
        rw [fz29447] at hT
        refine lv_aload_n hx hb dX13_ownersOf_25 rfl (lv_at hl 1 rfl) ?_
        refine lv_iconst (v := 0) hx hb dX13_ownersOf_26 (by decide) ?_
        refine lv_iload hx hb dX13_ownersOf_27 (lv_at hl 5 rfl) ?_
        refine lv_iadd hx hb dX13_ownersOf_29 ?_
        refine lv_topi (fun z29448 ez29448 => ?_)
        obtain rfl : z29435 = z29448 := (ar_zadd ez29448).symm
        refine t_ild X hT m1 g1 rfl (by omega) dX13_ownersOf_30 (fun z29449 vz29449 rz29449 => ?_)
        have rz29449 := row_ml (by omega) rz29449
        refine lv_icmp_gt (tgt := 41) hx hb dX13_ownersOf_31 (by decide) (fun c29450 => ?_) (fun c29450 => ?_)
        · have w29451 := cv_lt (rfl : z29449.toInt = z29449.toInt) (rfl : z29447.toInt = z29447.toInt) c29450
          refine lv_iconst (v := 0) hx hb dX13_ownersOf_41 (by decide) ?_
          have k29452 : (0 : Int32).toInt = 0 := by decide
          exact K42 0 z29434 z29443 _ _ _ (by decide) (by omega) (by omega) (by omega) hT hv29442 (lv_sub hl [0, 1, 2, 3, 4, 5] rfl)
        · have w29453 := cv_nlt (rfl : z29449.toInt = z29449.toInt) (rfl : z29447.toInt = z29447.toInt) c29450
          refine lv_iconst (v := 1) hx hb dX13_ownersOf_34 (by decide) ?_
          refine lv_iload hx hb dX13_ownersOf_35 (lv_at hl 5 rfl) ?_
          refine lv_ishl hx hb dX13_ownersOf_37 ?_
          refine lv_topi (fun z29454 ez29454 => ?_)
          have hz29454 := ar_shl3 ez29454 (by omega)
          have rz29454 : 1 ≤ z29454.toInt ∧ z29454.toInt ≤ 8 := by omega
          refine lv_goto (tgt := 42) hx hb dX13_ownersOf_38 (by decide) ?_
          exact K42 z29454 z29434 z29443 _ _ _ (by omega) (by omega) (by omega) (by omega) hT hv29442 (lv_sub hl [0, 1, 2, 3, 4, 5] rfl)
  refine lv_iconst (v := 0) hx hb dX13_ownersOf_0 (by decide) ?_
  refine lv_istore (lv' := [(4, .int 0), (0, .ref p0), (1, .ref p1), (2, .int p2), (3, .int p3)]) hx hb dX13_ownersOf_1 hl (by decide) rfl (fun ls hl => ?_)
  refine lv_iconst (v := 0) hx hb dX13_ownersOf_3 (by decide) ?_
  refine lv_istore (lv' := [(5, .int 0), (4, .int 0), (0, .ref p0), (1, .ref p1), (2, .int p2), (3, .int p3)]) hx hb dX13_ownersOf_4 hl (by decide) rfl (fun ls hl => ?_)
  have k29455 : (0 : Int32).toInt = 0 := by decide
  have k29456 : (0 : Int32).toInt = 0 := by decide
  exact K6 5 0 0 _ _ _ (by omega) (by decide) (by decide) hT  (lv_sub hl [2, 3, 4, 5, 1, 0] rfl)
set_option maxHeartbeats 4000000 in
set_option maxRecDepth 100000 in
theorem km93_X13_good (l : Launch) (G : KG) (tag : Nat → Nat) (L : List Nat) (Fo : Nat → va_E) (ho : okT G ttC tag L Fo) (p0 : Nat) (p1 : Int32) (m0 : p0 ∈ L) (g0 : tag p0 = 46) : TMi l yX13_good cX13_good 2 (some .int) { frames := 0, cells := 0, slots := 0, locals := 0 } G ttC tag L Fo [.ref p0, .int p1] (fun r F1 => ((-2147483648) ≤ r.toInt ∧ r.toInt ≤ 2147483647) ∧ ((∀ b j : Nat, (tag b ≠ 46 ∨ j ≠ 1) → (tag b ≠ 46 ∨ j ≠ 2) → fld F1 b j = fld Fo b j) ∧ (∀ b j : Nat, elm F1 b j = elm Fo b j))) := by
  refine t_bodyi (y := yX13_good) (cd := cX13_good) (mL := 2) (rt := (some .int)) (rm := { frames := 0, cells := 0, slots := 0, locals := 0 }) (av := [.ref p0, .int p1]) (by decide) (Nat.le_of_ble_eq_true rfl) ho ?_
  intro p e s m args below meth c ls A Q hQ X hT hl
  have hx := X.1.1
  have hb := X.1.2.1
  have hl : lv_has ls 2 [(0, .ref p0), (1, .int p1)] := hl
  have rp1 := rg_all p1
  obtain ⟨F, hFo⟩ : ∃ F : Nat → va_E, F = Fo := ⟨_, rfl⟩
  rw [← hFo] at hT
  have hfr : (∀ b j : Nat, (tag b ≠ 46 ∨ j ≠ 1) → (tag b ≠ 46 ∨ j ≠ 2) → fld F b j = fld Fo b j) ∧ (∀ b j : Nat, elm F b j = elm Fo b j) := by
    rw [hFo]
    exact ⟨by intros; rfl, by intros; rfl⟩
  refine lv_aload_n hx hb dX13_good_0 rfl (lv_at hl 0 rfl) ?_
  refine lv_iconst (v := 0) hx hb dX13_good_1 (by decide) ?_
  refine t_put (C := RX13) (T := TX13) (N := 37) (v := .int 0) X hT m0 g0 rfl tyX13 tyX13_ok nmX13 rfl 1 (by decide) qw_479 inlX13 rfl (by first | rfl | decide) (by first | rfl | decide) rfl (⟨_, rfl, (show (-2147483648) ≤ (0 : Int32).toInt from (by decide)), (show (0 : Int32).toInt ≤ 2147483647 from (by decide))⟩) dX13_good_2 (fun F H locs hT v29480 h1v29480 h2v29480 => ?_)
  have hfr : (∀ b j : Nat, (tag b ≠ 46 ∨ j ≠ 1) → (tag b ≠ 46 ∨ j ≠ 2) → fld F b j = fld Fo b j) ∧ (∀ b j : Nat, elm F b j = elm Fo b j) := ⟨fun b j n46_1 n46_2 => (h1v29480 b j (fr_ne g0 n46_1)).trans (hfr.1 b j n46_1 n46_2), fun b j  => (h2v29480 b j).trans (hfr.2 b j )⟩
  refine lv_aload_n hx hb dX13_good_5 rfl (lv_at hl 0 rfl) ?_
  refine lv_iconst (v := (-1)) hx hb dX13_good_6 (by decide) ?_
  refine t_put (C := RX13) (T := TX13) (N := 37) (v := .int (-1)) X hT m0 g0 rfl tyX13 tyX13_ok nmX13 rfl 2 (by decide) qw_109 inlX13 rfl (by first | rfl | decide) (by first | rfl | decide) rfl (⟨_, rfl, (show (-2147483648) ≤ ((-1) : Int32).toInt from (by decide)), (show ((-1) : Int32).toInt ≤ 2147483647 from (by decide))⟩) dX13_good_7 (fun F H locs hT v29481 h1v29481 h2v29481 => ?_)
  have v29480 := (h1v29481 _ _ (Or.inr (by decide))).trans v29480
  have hfr : (∀ b j : Nat, (tag b ≠ 46 ∨ j ≠ 1) → (tag b ≠ 46 ∨ j ≠ 2) → fld F b j = fld Fo b j) ∧ (∀ b j : Nat, elm F b j = elm Fo b j) := ⟨fun b j n46_1 n46_2 => (h1v29481 b j (fr_ne g0 n46_2)).trans (hfr.1 b j n46_1 n46_2), fun b j  => (h2v29481 b j).trans (hfr.2 b j )⟩
  refine lv_iload_n hx hb dX13_good_10 rfl (lv_at hl 1 rfl) ?_
  exact t_iret hQ X hT (⟨rg_all _, hfr⟩) (Nat.le_of_ble_eq_true rfl) (Nat.le_of_ble_eq_true rfl) dX13_good_11
set_option maxHeartbeats 4000000 in
set_option maxRecDepth 100000 in
theorem km94_X13_whose (l : Launch) (G : KG) (tag : Nat → Nat) (L : List Nat) (Fo : Nat → va_E) (ho : okT G ttC tag L Fo) (p0 : Nat) (p1 : Int32) (p2 : Int32) (x0 : Nat) (m0 : p0 ∈ L) (g0 : tag p0 = 46) (mx0 : x0 ∈ L) (gx0 : tag x0 = 45) (pf0 : fld Fo p0 3 = .ref x0) : TMi l yX13_whose cX13_whose 3 (some .int) { frames := 3, cells := 0, slots := 0, locals := 71 } G ttC tag L Fo [.ref p0, .int p1, .int p2] (fun r F1 => ((-2147483648) ≤ r.toInt ∧ r.toInt ≤ 2147483647) ∧ ((∀ b j : Nat, (tag b ≠ 46 ∨ j ≠ 0) → (tag b ≠ 46 ∨ j ≠ 1) → (tag b ≠ 46 ∨ j ≠ 2) → fld F1 b j = fld Fo b j) ∧ (∀ b j : Nat, elm F1 b j = elm Fo b j))) := by
  refine t_bodyi (y := yX13_whose) (cd := cX13_whose) (mL := 3) (rt := (some .int)) (rm := { frames := 3, cells := 0, slots := 0, locals := 71 }) (av := [.ref p0, .int p1, .int p2]) (by decide) (Nat.le_of_ble_eq_true rfl) ho ?_
  intro p e s m args below meth c ls A Q hQ X hT hl
  have hx := X.1.1
  have hb := X.1.2.1
  have hl : lv_has ls 3 [(0, .ref p0), (1, .int p1), (2, .int p2)] := hl
  have rp1 := rg_all p1
  have rp2 := rg_all p2
  obtain ⟨F, hFo⟩ : ∃ F : Nat → va_E, F = Fo := ⟨_, rfl⟩
  rw [← hFo] at hT pf0
  have hfr : (∀ b j : Nat, (tag b ≠ 46 ∨ j ≠ 0) → (tag b ≠ 46 ∨ j ≠ 1) → (tag b ≠ 46 ∨ j ≠ 2) → fld F b j = fld Fo b j) ∧ (∀ b j : Nat, elm F b j = elm Fo b j) := by
    rw [hFo]
    exact ⟨by intros; rfl, by intros; rfl⟩
  refine lv_aload_n hx hb dX13_whose_0 rfl (lv_at hl 0 rfl) ?_
  refine lv_iconst (v := 0) hx hb dX13_whose_1 (by decide) ?_
  refine t_put (C := RX13) (T := TX13) (N := 37) (v := .int 0) X hT m0 g0 rfl tyX13 tyX13_ok nmX13 rfl 0 (by decide) qw_140 inlX13 rfl (by first | rfl | decide) (by first | rfl | decide) rfl (⟨_, rfl, (show (-2147483648) ≤ (0 : Int32).toInt from (by decide)), (show (0 : Int32).toInt ≤ 2147483647 from (by decide))⟩) dX13_whose_2 (fun F H locs hT v29593 h1v29593 h2v29593 => ?_)
  have pf0 := (h1v29593 _ _ (Or.inr (by decide))).trans pf0
  have hfr : (∀ b j : Nat, (tag b ≠ 46 ∨ j ≠ 0) → (tag b ≠ 46 ∨ j ≠ 1) → (tag b ≠ 46 ∨ j ≠ 2) → fld F b j = fld Fo b j) ∧ (∀ b j : Nat, elm F b j = elm Fo b j) := ⟨fun b j n46_0 n46_1 n46_2 => (h1v29593 b j (fr_ne g0 n46_0)).trans (hfr.1 b j n46_0 n46_1 n46_2), fun b j  => (h2v29593 b j).trans (hfr.2 b j )⟩
  refine lv_aload_n hx hb dX13_whose_5 rfl (lv_at hl 0 rfl) ?_
  refine lv_iload_n hx hb dX13_whose_6 rfl (lv_at hl 1 rfl) ?_
  refine lv_iload_n hx hb dX13_whose_7 rfl (lv_at hl 2 rfl) ?_
  refine t_cVi (n := 2) (C := RX13) (T := TX13) (N := 37) (As := [.int p1, .int p2]) (rest := []) X hT (km87_X13_isCell l G tag L F hT.2.2.2 p0 p1 p2 x0 m0 g0 mx0 gx0 pf0) m0 g0 rfl rfl qw_719 qw_720 qw_721 qw_5 qw_722 ⟨rfl, by decide +kernel, by decide +kernel, by decide +kernel⟩ ⟨Nat.le_of_ble_eq_true rfl, Nat.le_of_ble_eq_true rfl⟩ hl rfl rfl (Nat.le_of_ble_eq_true rfl) dX13_whose_8 ⟨Nat.le_of_ble_eq_true rfl, Nat.le_of_ble_eq_true rfl⟩ (fun z29594 F9 H locs hT hz29594 => ?_)
  obtain ⟨fz29594, hz29594⟩ := hz29594
  rw [fz29594] at hT
  refine lv_if_eq (tgt := 34) hx hb dX13_whose_11 (by decide) (fun c29595 => ?_) (fun c29595 => ?_)
  · have w29596 := cv_eq (rfl : z29594.toInt = z29594.toInt) (by decide : (0 : Int32).toInt = 0) c29595
    refine lv_aload_n hx hb dX13_whose_34 rfl (lv_at hl 0 rfl) ?_
    refine lv_iconst (v := 1) hx hb dX13_whose_35 (by decide) ?_
    refine t_cVi (n := 1) (C := RX13) (T := TX13) (N := 37) (As := [.int 1]) (rest := []) X hT (km88_X13_refused l G tag L F hT.2.2.2 p0 1 m0 g0) m0 g0 rfl rfl qw_484 qw_485 qw_486 qw_5 qw_487 ⟨rfl, by decide +kernel, by decide +kernel, by decide +kernel⟩ ⟨Nat.le_of_ble_eq_true rfl, Nat.le_of_ble_eq_true rfl⟩ hl rfl rfl (Nat.le_of_ble_eq_true rfl) dX13_whose_36 ⟨Nat.le_of_ble_eq_true rfl, Nat.le_of_ble_eq_true rfl⟩ (fun z29597 F H locs hT hz29597 => ?_)
    obtain ⟨hz29597, yz29597⟩ := hz29597
    have pf0 := (yz29597.1 _ 3 (Or.inr (by decide)) (Or.inr (by decide))).trans pf0
    have v29593 := (yz29597.1 _ 0 (Or.inr (by decide)) (Or.inr (by decide))).trans v29593
    have hfr : (∀ b j : Nat, (tag b ≠ 46 ∨ j ≠ 0) → (tag b ≠ 46 ∨ j ≠ 1) → (tag b ≠ 46 ∨ j ≠ 2) → fld F b j = fld Fo b j) ∧ (∀ b j : Nat, elm F b j = elm Fo b j) := ⟨fun b j n46_0 n46_1 n46_2 => (yz29597.1 b j n46_1 n46_2).trans (hfr.1 b j n46_0 n46_1 n46_2), fun b j  => (yz29597.2 b j ).trans (hfr.2 b j )⟩
    exact t_iret hQ X hT (⟨rg_all _, hfr⟩) (Nat.le_of_ble_eq_true rfl) (Nat.le_of_ble_eq_true rfl) dX13_whose_39
  · have w29598 := cv_ne (rfl : z29594.toInt = z29594.toInt) (by decide : (0 : Int32).toInt = 0) c29595
    refine lv_aload_n hx hb dX13_whose_14 rfl (lv_at hl 0 rfl) ?_
    refine lv_aload_n hx hb dX13_whose_15 rfl (lv_at hl 0 rfl) ?_
    refine t_get (C := RX13) (T := TX13) (N := 37) X hT m0 g0 rfl rfl 3 (by decide) qw_481 inlX13 rfl dX13_whose_16 (fun v29599 hv29599 ov29599 => ?_)
    obtain rfl : v29599 = .ref x0 := hv29599.symm.trans pf0
    refine lv_aload_n hx hb dX13_whose_19 rfl (lv_at hl 0 rfl) ?_
    refine t_get (C := RX13) (T := TX13) (N := 37) X hT m0 g0 rfl rfl 16 (by decide) qw_112 inlX13 rfl dX13_whose_20 (fun v29600 hv29600 ov29600 => ?_)
    obtain ⟨b29601, rfl, mb29601, gb29601⟩ := okV_r ov29600
    have gb29601 : tag b29601 = 37 := tg_of gb29601
    refine lv_iload_n hx hb dX13_whose_23 rfl (lv_at hl 1 rfl) ?_
    refine lv_iload_n hx hb dX13_whose_24 rfl (lv_at hl 2 rfl) ?_
    refine t_cSi (n := 4) (As := [.ref x0, .ref b29601, .int p1, .int p2]) (rest := [.ref p0]) X hT (km92_X13_ownersOf l G tag L F hT.2.2.2 x0 b29601 p1 p2 mx0 gx0 mb29601 gb29601) qw_616 qw_617 qw_5 qw_618 ⟨by decide +kernel, by decide +kernel, by decide +kernel⟩ ⟨Nat.le_of_ble_eq_true rfl, Nat.le_of_ble_eq_true rfl⟩ hl rfl rfl (Nat.le_of_ble_eq_true rfl) dX13_whose_25 ⟨Nat.le_of_ble_eq_true rfl, Nat.le_of_ble_eq_true rfl⟩ (fun z29602 F9 H locs hT hz29602 => ?_)
    obtain ⟨fz29602, hz29602⟩ := hz29602
    rw [fz29602] at hT
    refine t_cVi (n := 1) (C := RX13) (T := TX13) (N := 37) (As := [.int z29602]) (rest := []) X hT (km93_X13_good l G tag L F hT.2.2.2 p0 z29602 m0 g0) m0 g0 rfl rfl qw_687 qw_688 qw_689 qw_5 qw_690 ⟨rfl, by decide +kernel, by decide +kernel, by decide +kernel⟩ ⟨Nat.le_of_ble_eq_true rfl, Nat.le_of_ble_eq_true rfl⟩ hl rfl rfl (Nat.le_of_ble_eq_true rfl) dX13_whose_28 ⟨Nat.le_of_ble_eq_true rfl, Nat.le_of_ble_eq_true rfl⟩ (fun z29603 F H locs hT hz29603 => ?_)
    obtain ⟨hz29603, yz29603⟩ := hz29603
    have pf0 := (yz29603.1 _ 3 (Or.inr (by decide)) (Or.inr (by decide))).trans pf0
    have v29593 := (yz29603.1 _ 0 (Or.inr (by decide)) (Or.inr (by decide))).trans v29593
    have hv29600 := (yz29603.1 _ 16 (Or.inr (by decide)) (Or.inr (by decide))).trans hv29600
    have hfr : (∀ b j : Nat, (tag b ≠ 46 ∨ j ≠ 0) → (tag b ≠ 46 ∨ j ≠ 1) → (tag b ≠ 46 ∨ j ≠ 2) → fld F b j = fld Fo b j) ∧ (∀ b j : Nat, elm F b j = elm Fo b j) := ⟨fun b j n46_0 n46_1 n46_2 => (yz29603.1 b j n46_1 n46_2).trans (hfr.1 b j n46_0 n46_1 n46_2), fun b j  => (yz29603.2 b j ).trans (hfr.2 b j )⟩
    refine lv_goto (tgt := 39) hx hb dX13_whose_31 (by decide) ?_
    exact t_iret hQ X hT (⟨rg_all _, hfr⟩) (Nat.le_of_ble_eq_true rfl) (Nat.le_of_ble_eq_true rfl) dX13_whose_39
set_option maxHeartbeats 4000000 in
set_option maxRecDepth 100000 in
theorem km95_X13_isCell (l : Launch) (G : KG) (tag : Nat → Nat) (L : List Nat) (F : Nat → va_E) (ho : okT G ttC tag L F) (p0 : Nat) (p1 : Int32) (p2 : Int32) (m0 : p0 ∈ L) (g0 : tag p0 = 46) (pf0 : fld F p0 3 = .null) : TMi l yX13_isCell cX13_isCell 3 (some .boolean) { frames := 0, cells := 0, slots := 0, locals := 0 } G ttC tag L F [.ref p0, .int p1, .int p2] (fun r F1 => F1 = F ∧ (0 ≤ r.toInt ∧ r.toInt ≤ 0)) := by
  refine t_bodyi (y := yX13_isCell) (cd := cX13_isCell) (mL := 3) (rt := (some .boolean)) (rm := { frames := 0, cells := 0, slots := 0, locals := 0 }) (av := [.ref p0, .int p1, .int p2]) (by decide) (Nat.le_of_ble_eq_true rfl) ho ?_
  intro p e s m args below meth c ls A Q hQ X hT hl
  have hx := X.1.1
  have hb := X.1.2.1
  have hl : lv_has ls 3 [(0, .ref p0), (1, .int p1), (2, .int p2)] := hl
  have rp1 := rg_all p1
  have rp2 := rg_all p2
  refine lv_aload_n hx hb dX13_isCell_0 rfl (lv_at hl 0 rfl) ?_
  refine t_get (C := RX13) (T := TX13) (N := 37) X hT m0 g0 rfl rfl 3 (by decide) qw_481 inlX13 rfl dX13_isCell_1 (fun v29616 hv29616 ov29616 => ?_)
  obtain rfl : v29616 = .null := hv29616.symm.trans pf0
  refine lv_ifnullN (tgt := 45) hx hb dX13_isCell_4 (by decide) ?_
  refine lv_iconst (v := 0) hx hb dX13_isCell_45 (by decide) ?_
  have k29617 : (0 : Int32).toInt = 0 := by decide
  exact t_zret hQ X hT (by decide) (⟨rfl, (by decide)⟩) (Nat.le_of_ble_eq_true rfl) (Nat.le_of_ble_eq_true rfl) dX13_isCell_46
set_option maxHeartbeats 4000000 in
set_option maxRecDepth 100000 in
theorem km96_X13_whose (l : Launch) (G : KG) (tag : Nat → Nat) (L : List Nat) (Fo : Nat → va_E) (ho : okT G ttC tag L Fo) (p0 : Nat) (p1 : Int32) (p2 : Int32) (m0 : p0 ∈ L) (g0 : tag p0 = 46) (pf0 : fld Fo p0 3 = .null) : TMi l yX13_whose cX13_whose 3 (some .int) { frames := 3, cells := 0, slots := 0, locals := 71 } G ttC tag L Fo [.ref p0, .int p1, .int p2] (fun r F1 => ((-2147483648) ≤ r.toInt ∧ r.toInt ≤ 2147483647) ∧ ((∀ b j : Nat, (tag b ≠ 46 ∨ j ≠ 0) → (tag b ≠ 46 ∨ j ≠ 1) → (tag b ≠ 46 ∨ j ≠ 2) → fld F1 b j = fld Fo b j) ∧ (∀ b j : Nat, elm F1 b j = elm Fo b j))) := by
  refine t_bodyi (y := yX13_whose) (cd := cX13_whose) (mL := 3) (rt := (some .int)) (rm := { frames := 3, cells := 0, slots := 0, locals := 71 }) (av := [.ref p0, .int p1, .int p2]) (by decide) (Nat.le_of_ble_eq_true rfl) ho ?_
  intro p e s m args below meth c ls A Q hQ X hT hl
  have hx := X.1.1
  have hb := X.1.2.1
  have hl : lv_has ls 3 [(0, .ref p0), (1, .int p1), (2, .int p2)] := hl
  have rp1 := rg_all p1
  have rp2 := rg_all p2
  obtain ⟨F, hFo⟩ : ∃ F : Nat → va_E, F = Fo := ⟨_, rfl⟩
  rw [← hFo] at hT pf0
  have hfr : (∀ b j : Nat, (tag b ≠ 46 ∨ j ≠ 0) → (tag b ≠ 46 ∨ j ≠ 1) → (tag b ≠ 46 ∨ j ≠ 2) → fld F b j = fld Fo b j) ∧ (∀ b j : Nat, elm F b j = elm Fo b j) := by
    rw [hFo]
    exact ⟨by intros; rfl, by intros; rfl⟩
  refine lv_aload_n hx hb dX13_whose_0 rfl (lv_at hl 0 rfl) ?_
  refine lv_iconst (v := 0) hx hb dX13_whose_1 (by decide) ?_
  refine t_put (C := RX13) (T := TX13) (N := 37) (v := .int 0) X hT m0 g0 rfl tyX13 tyX13_ok nmX13 rfl 0 (by decide) qw_140 inlX13 rfl (by first | rfl | decide) (by first | rfl | decide) rfl (⟨_, rfl, (show (-2147483648) ≤ (0 : Int32).toInt from (by decide)), (show (0 : Int32).toInt ≤ 2147483647 from (by decide))⟩) dX13_whose_2 (fun F H locs hT v29683 h1v29683 h2v29683 => ?_)
  have pf0 := (h1v29683 _ _ (Or.inr (by decide))).trans pf0
  have hfr : (∀ b j : Nat, (tag b ≠ 46 ∨ j ≠ 0) → (tag b ≠ 46 ∨ j ≠ 1) → (tag b ≠ 46 ∨ j ≠ 2) → fld F b j = fld Fo b j) ∧ (∀ b j : Nat, elm F b j = elm Fo b j) := ⟨fun b j n46_0 n46_1 n46_2 => (h1v29683 b j (fr_ne g0 n46_0)).trans (hfr.1 b j n46_0 n46_1 n46_2), fun b j  => (h2v29683 b j).trans (hfr.2 b j )⟩
  refine lv_aload_n hx hb dX13_whose_5 rfl (lv_at hl 0 rfl) ?_
  refine lv_iload_n hx hb dX13_whose_6 rfl (lv_at hl 1 rfl) ?_
  refine lv_iload_n hx hb dX13_whose_7 rfl (lv_at hl 2 rfl) ?_
  refine t_cVi (n := 2) (C := RX13) (T := TX13) (N := 37) (As := [.int p1, .int p2]) (rest := []) X hT (km95_X13_isCell l G tag L F hT.2.2.2 p0 p1 p2 m0 g0 pf0) m0 g0 rfl rfl qw_719 qw_720 qw_721 qw_5 qw_722 ⟨rfl, by decide +kernel, by decide +kernel, by decide +kernel⟩ ⟨Nat.le_of_ble_eq_true rfl, Nat.le_of_ble_eq_true rfl⟩ hl rfl rfl (Nat.le_of_ble_eq_true rfl) dX13_whose_8 ⟨Nat.le_of_ble_eq_true rfl, Nat.le_of_ble_eq_true rfl⟩ (fun z29684 F9 H locs hT hz29684 => ?_)
  obtain ⟨fz29684, hz29684⟩ := hz29684
  rw [fz29684] at hT
  refine lv_if_eq (tgt := 34) hx hb dX13_whose_11 (by decide) (fun c29685 => ?_) (fun c29685 => ?_)
  · have w29686 := cv_eq (rfl : z29684.toInt = z29684.toInt) (by decide : (0 : Int32).toInt = 0) c29685
    refine lv_aload_n hx hb dX13_whose_34 rfl (lv_at hl 0 rfl) ?_
    refine lv_iconst (v := 1) hx hb dX13_whose_35 (by decide) ?_
    refine t_cVi (n := 1) (C := RX13) (T := TX13) (N := 37) (As := [.int 1]) (rest := []) X hT (km88_X13_refused l G tag L F hT.2.2.2 p0 1 m0 g0) m0 g0 rfl rfl qw_484 qw_485 qw_486 qw_5 qw_487 ⟨rfl, by decide +kernel, by decide +kernel, by decide +kernel⟩ ⟨Nat.le_of_ble_eq_true rfl, Nat.le_of_ble_eq_true rfl⟩ hl rfl rfl (Nat.le_of_ble_eq_true rfl) dX13_whose_36 ⟨Nat.le_of_ble_eq_true rfl, Nat.le_of_ble_eq_true rfl⟩ (fun z29687 F H locs hT hz29687 => ?_)
    obtain ⟨hz29687, yz29687⟩ := hz29687
    have pf0 := (yz29687.1 _ 3 (Or.inr (by decide)) (Or.inr (by decide))).trans pf0
    have v29683 := (yz29687.1 _ 0 (Or.inr (by decide)) (Or.inr (by decide))).trans v29683
    have hfr : (∀ b j : Nat, (tag b ≠ 46 ∨ j ≠ 0) → (tag b ≠ 46 ∨ j ≠ 1) → (tag b ≠ 46 ∨ j ≠ 2) → fld F b j = fld Fo b j) ∧ (∀ b j : Nat, elm F b j = elm Fo b j) := ⟨fun b j n46_0 n46_1 n46_2 => (yz29687.1 b j n46_1 n46_2).trans (hfr.1 b j n46_0 n46_1 n46_2), fun b j  => (yz29687.2 b j ).trans (hfr.2 b j )⟩
    exact t_iret hQ X hT (⟨rg_all _, hfr⟩) (Nat.le_of_ble_eq_true rfl) (Nat.le_of_ble_eq_true rfl) dX13_whose_39
  · have w29688 := cv_ne (rfl : z29684.toInt = z29684.toInt) (by decide : (0 : Int32).toInt = 0) c29685
    exfalso
    omega
theorem kp_X13_whose (l : Launch) (G : KG) (tag : Nat → Nat) (L : List Nat) (Fo : Nat → va_E) (ho : okT G ttC tag L Fo) (p0 : Nat) (p1 : Int32) (p2 : Int32) (m0 : p0 ∈ L) (g0 : tag p0 = 46) : TMi l yX13_whose cX13_whose 3 (some .int) { frames := 3, cells := 0, slots := 0, locals := 71 } G ttC tag L Fo [.ref p0, .int p1, .int p2] (fun r F1 => ((-2147483648) ≤ r.toInt ∧ r.toInt ≤ 2147483647) ∧ ((∀ b j : Nat, (tag b ≠ 46 ∨ j ≠ 0) → (tag b ≠ 46 ∨ j ≠ 1) → (tag b ≠ 46 ∨ j ≠ 2) → fld F1 b j = fld Fo b j) ∧ (∀ b j : Nat, elm F1 b j = elm Fo b j))) := by
  rcases t_fldn ho m0 g0 rfl 3 rfl with h9 | ⟨b9, h9, m9, t9⟩
  · exact km96_X13_whose l G tag L Fo ho p0 p1 p2  m0 g0 h9 
  · exact km94_X13_whose l G tag L Fo ho p0 p1 p2 b9  m0 g0 m9 (tg_of t9) h9 
set_option maxHeartbeats 4000000 in
set_option maxRecDepth 100000 in
theorem km98_X12_cells (l : Launch) (G : KG) (tag : Nat → Nat) (L : List Nat) (F : Nat → va_E) (ho : okT G ttC tag L F) (p0 : Nat) (m0 : p0 ∈ L) (g0 : tag p0 = 45) : TMi l yX12_cells cX12_cells 1 (some .int) { frames := 0, cells := 0, slots := 0, locals := 0 } G ttC tag L F [.ref p0] (fun r F1 => F1 = F ∧ (0 ≤ r.toInt ∧ r.toInt ≤ 144)) := by
  refine t_bodyi (y := yX12_cells) (cd := cX12_cells) (mL := 1) (rt := (some .int)) (rm := { frames := 0, cells := 0, slots := 0, locals := 0 }) (av := [.ref p0]) (by decide) (Nat.le_of_ble_eq_true rfl) ho ?_
  intro p e s m args below meth c ls A Q hQ X hT hl
  have hx := X.1.1
  have hb := X.1.2.1
  have hl : lv_has ls 1 [(0, .ref p0)] := hl
  refine lv_aload_n hx hb dX12_cells_0 rfl (lv_at hl 0 rfl) ?_
  refine t_get (C := RX12) (T := TX12) (N := 31) X hT m0 g0 rfl rfl 0 (by decide) qw_627 inlX12 rfl dX12_cells_1 (fun v29747 hv29747 ov29747 => ?_)
  obtain ⟨z29748, rfl, rz29748⟩ := okV_i ov29747
  refine lv_aload_n hx hb dX12_cells_4 rfl (lv_at hl 0 rfl) ?_
  refine t_get (C := RX12) (T := TX12) (N := 31) X hT m0 g0 rfl rfl 1 (by decide) qw_653 inlX12 rfl dX12_cells_5 (fun v29749 hv29749 ov29749 => ?_)
  obtain ⟨z29750, rfl, rz29750⟩ := okV_i ov29749
  refine lv_imul hx hb dX12_cells_8 ?_
  refine lv_topi (fun z29751 ez29751 => ?_)
  have rz29751 : 0 ≤ z29751.toInt ∧ z29751.toInt ≤ 144 := ar_mulb ez29751 (A := 12) (B := 12) (by omega) (by omega) (by decide) (by decide)
  exact t_iret hQ X hT (⟨rfl, (by omega)⟩) (Nat.le_of_ble_eq_true rfl) (Nat.le_of_ble_eq_true rfl) dX12_cells_9
set_option maxHeartbeats 4000000 in
set_option maxRecDepth 100000 in
theorem km99_X13_bits (l : Launch) (G : KG) (tag : Nat → Nat) (L : List Nat) (F : Nat → va_E) (ho : okT G ttC tag L F) (p0 : Int32) (h0 : 0 ≤ p0.toInt ∧ p0.toInt ≤ 15) : TMi l yX13_bits cX13_bits 3 (some .int) { frames := 0, cells := 0, slots := 0, locals := 0 } G ttC tag L F [.int p0] (fun r F1 => F1 = F ∧ ((-2147483648) ≤ r.toInt ∧ r.toInt ≤ 2147483647)) := by
  refine t_bodyi (y := yX13_bits) (cd := cX13_bits) (mL := 3) (rt := (some .int)) (rm := { frames := 0, cells := 0, slots := 0, locals := 0 }) (av := [.int p0]) (by decide) (Nat.le_of_ble_eq_true rfl) ho ?_
  intro p e s m args below meth c ls A Q hQ X hT hl
  have hx := X.1.1
  have hb := X.1.2.1
  have hl : lv_has ls 3 [(0, .int p0)] := hl
  have K4 : ∀ (n : Nat) (z30085 : Int32) (z30086 : Int32) (H : Heap) (locs : List Loc) (ls : Array Slot), (z30086.toInt - 0 < (n : Int)) → (0 ≤ z30086.toInt ∧ z30086.toInt ≤ 15) → TH G ttC A s tag L F H locs → lv_has ls 3 [(0, .int p0), (1, .int z30085), (2, .int z30086)] → W p l e { frames := 0, cells := 0, slots := 0, locals := 0 } s m args below meth c H locs 0 0 Q (F0 m 4 ls []) := by
    intro n
    induction n with
    | zero =>
      intro z30085 z30086 H locs ls hn rz30086 hT hl
      have rz30085 := rg_all z30085
      exfalso
      omega
    | succ n ih4 =>
      intro z30085 z30086 H locs ls hn rz30086 hT hl
      have rz30085 := rg_all z30085
      refine lv_iload_n hx hb dX13_bits_4 rfl (lv_at hl 2 rfl) ?_
      refine lv_if_eq (tgt := 20) hx hb dX13_bits_5 (by decide) (fun c30087 => ?_) (fun c30087 => ?_)
      · have w30088 := cv_eq (rfl : z30086.toInt = z30086.toInt) (by decide : (0 : Int32).toInt = 0) c30087
        refine lv_iload_n hx hb dX13_bits_20 rfl (lv_at hl 1 rfl) ?_
        exact t_iret hQ X hT (⟨rfl, rg_all _⟩) (Nat.le_of_ble_eq_true rfl) (Nat.le_of_ble_eq_true rfl) dX13_bits_21
      · have w30089 := cv_ne (rfl : z30086.toInt = z30086.toInt) (by decide : (0 : Int32).toInt = 0) c30087
        obtain ⟨z30090, ez30090⟩ : ∃ y : Int32, y = z30085 + 1 := ⟨_, rfl⟩
        have rz30090 := rg_all z30090
        refine lv_iinc (v := z30090) (lv' := [(1, .int z30090), (0, .int p0), (2, .int z30086)]) hx hb dX13_bits_8 hl (k := 1) rfl (by rw [ez30090]; rfl) (by decide) rfl (fun ls hl => ?_)
        refine lv_iload_n hx hb dX13_bits_11 rfl (lv_at hl 2 rfl) ?_
        refine lv_iload_n hx hb dX13_bits_12 rfl (lv_at hl 2 rfl) ?_
        refine lv_iconst (v := 1) hx hb dX13_bits_13 (by decide) ?_
        refine lv_isub hx hb dX13_bits_14 ?_
        refine lv_topi (fun z30091 ez30091 => ?_)
        have hz30091 : z30091.toInt = z30086.toInt - 1 := ar_sub ez30091 (rfl : z30086.toInt = z30086.toInt) (by decide : (1 : Int32).toInt = 1) (by omega) (by omega)
        have rz30091 : 0 ≤ z30091.toInt ∧ z30091.toInt ≤ 14 := by omega
        refine lv_iand hx hb dX13_bits_15 ?_
        refine lv_topi (fun z30092 ez30092 => ?_)
        have rz30092 := ar_andn ez30092 (by omega) (by omega)
        refine lv_istore_n (lv' := [(2, .int z30092), (1, .int z30090), (0, .int p0)]) hx hb dX13_bits_16 rfl hl (by decide) rfl (fun ls hl => ?_)
        refine lv_goto (tgt := 4) hx hb dX13_bits_17 (by decide) ?_
        exact ih4 z30090 z30092 _ _ _ (by omega) (by omega) hT  (lv_sub hl [2, 1, 0] rfl)
  refine lv_iconst (v := 0) hx hb dX13_bits_0 (by decide) ?_
  refine lv_istore_n (lv' := [(1, .int 0), (0, .int p0)]) hx hb dX13_bits_1 rfl hl (by decide) rfl (fun ls hl => ?_)
  refine lv_iload_n hx hb dX13_bits_2 rfl (lv_at hl 1 rfl) ?_
  refine lv_istore_n (lv' := [(2, .int p0), (1, .int 0), (0, .int p0)]) hx hb dX13_bits_3 rfl hl (by decide) rfl (fun ls hl => ?_)
  have k30093 : (0 : Int32).toInt = 0 := by decide
  exact K4 16 0 p0 _ _ _ (by omega) (by omega) hT  (lv_sub hl [2, 1, 0] rfl)
set_option maxHeartbeats 4000000 in
set_option maxRecDepth 100000 in
theorem km100_X13_owned (l : Launch) (G : KG) (tag : Nat → Nat) (L : List Nat) (F : Nat → va_E) (ho : okT G ttC tag L F) (p0 : Nat) (p1 : Int32) (p2 : Int32) (p3 : Int32) (x0 : Nat) (m0 : p0 ∈ L) (g0 : tag p0 = 46) (h3 : 0 ≤ p3.toInt ∧ p3.toInt ≤ 1) (mx0 : x0 ∈ L) (gx0 : tag x0 = 45) (pf0 : fld F p0 3 = .ref x0) : TMi l yX13_owned cX13_owned 6 (some .int) { frames := 3, cells := 0, slots := 0, locals := 71 } G ttC tag L F [.ref p0, .int p1, .int p2, .int p3] (fun r F1 => F1 = F ∧ ((-2147483648) ≤ r.toInt ∧ r.toInt ≤ 2147483647)) := by
  refine t_bodyi (y := yX13_owned) (cd := cX13_owned) (mL := 6) (rt := (some .int)) (rm := { frames := 3, cells := 0, slots := 0, locals := 71 }) (av := [.ref p0, .int p1, .int p2, .int p3]) (by decide) (Nat.le_of_ble_eq_true rfl) ho ?_
  intro p e s m args below meth c ls A Q hQ X hT hl
  have hx := X.1.1
  have hb := X.1.2.1
  have hl : lv_has ls 6 [(0, .ref p0), (1, .int p1), (2, .int p2), (3, .int p3)] := hl
  have rp1 := rg_all p1
  have rp2 := rg_all p2
  have K6 : ∀ (n : Nat) (z31978 : Int32) (z31979 : Int32) (H : Heap) (locs : List Loc) (ls : Array Slot), (144 - z31979.toInt < (n : Int)) → (0 ≤ z31979.toInt ∧ z31979.toInt ≤ 144) → TH G ttC A s tag L F H locs → lv_has ls 6 [(0, .ref p0), (1, .int p1), (2, .int p2), (3, .int p3), (4, .int z31978), (5, .int z31979)] → W p l e { frames := 3, cells := 0, slots := 0, locals := 71 } s m args below meth c H locs 0 0 Q (F0 m 6 ls []) := by
    intro n
    induction n with
    | zero =>
      intro z31978 z31979 H locs ls hn rz31979 hT hl
      have rz31978 := rg_all z31978
      exfalso
      omega
    | succ n ih6 =>
      intro z31978 z31979 H locs ls hn rz31979 hT hl
      have rz31978 := rg_all z31978
      have K84 : ∀ (z31981 : Int32) (z31982 : Int32) (z31983 : Int32) (H : Heap) (locs : List Loc) (ls : Array Slot), (0 ≤ z31981.toInt ∧ z31981.toInt ≤ 1) → (1 ≤ z31983.toInt ∧ z31983.toInt ≤ 12) → (0 ≤ z31979.toInt ∧ z31979.toInt ≤ 143) → TH G ttC A s tag L F H locs → (fld F x0 0 = .int z31983) → lv_has ls 6 [(0, .ref p0), (1, .int p1), (2, .int p2), (3, .int p3), (4, .int z31978), (5, .int z31979)] → W p l e { frames := 3, cells := 0, slots := 0, locals := 71 } s m args below meth c H locs 0 0 Q (F0 m 84 ls [.int z31981, .int z31982]) := by
        intro z31981 z31982 z31983 H locs ls rz31981 rz31983 r9s31980 hT qz31983 hl
        have rz31982 := rg_all z31982
        refine lv_iadd hx hb dX13_owned_84 ?_
        refine lv_topi (fun z31984 ez31984 => ?_)
        have rz31984 := rg_all z31984
        refine lv_istore (lv' := [(4, .int z31984), (0, .ref p0), (1, .int p1), (2, .int p2), (3, .int p3), (5, .int z31979)]) hx hb dX13_owned_85 hl (by decide) rfl (fun ls hl => ?_)
        obtain ⟨z31985, ez31985⟩ : ∃ y : Int32, y = z31979 + 1 := ⟨_, rfl⟩
        have hz31985 : z31985.toInt = z31979.toInt + 1 := ar_add ez31985 rfl (by decide : (1 : Int32).toInt = 1) (by omega) (by omega)
        refine lv_iinc (v := z31985) (lv' := [(5, .int z31985), (4, .int z31984), (0, .ref p0), (1, .int p1), (2, .int p2), (3, .int p3)]) hx hb dX13_owned_87 hl (k := 5) rfl (by rw [ez31985]; rfl) (by decide) rfl (fun ls hl => ?_)
        refine lv_goto (tgt := 6) hx hb dX13_owned_90 (by decide) ?_
        exact ih6 z31984 z31985 _ _ _ (by omega) (by omega) hT  (lv_sub hl [2, 3, 4, 5, 1, 0] rfl)
      have K79 : ∀ (z31987 : Int32) (z31988 : Int32) (H : Heap) (locs : List Loc) (ls : Array Slot), (1 ≤ z31988.toInt ∧ z31988.toInt ≤ 12) → (0 ≤ z31979.toInt ∧ z31979.toInt ≤ 143) → TH G ttC A s tag L F H locs → (fld F x0 0 = .int z31988) → lv_has ls 6 [(0, .ref p0), (1, .int p1), (2, .int p2), (3, .int p3), (4, .int z31978), (5, .int z31979)] → W p l e { frames := 3, cells := 0, slots := 0, locals := 71 } s m args below meth c H locs 0 0 Q (F0 m 79 ls [.int z31987]) := by
        intro z31987 z31988 H locs ls rz31988 r9s31986 hT qz31988 hl
        have rz31987 := rg_all z31987
        refine lv_iconst (v := 1) hx hb dX13_owned_79 (by decide) ?_
        refine lv_goto (tgt := 84) hx hb dX13_owned_80 (by decide) ?_
        have k31989 : (1 : Int32).toInt = 1 := by decide
        exact K84 1 z31987 z31988 _ _ _ (by decide) (by omega) (by omega) hT qz31988 (lv_sub hl [0, 1, 2, 3, 4, 5] rfl)
      have K83 : ∀ (z31991 : Int32) (z31992 : Int32) (H : Heap) (locs : List Loc) (ls : Array Slot), (1 ≤ z31992.toInt ∧ z31992.toInt ≤ 12) → (0 ≤ z31979.toInt ∧ z31979.toInt ≤ 143) → TH G ttC A s tag L F H locs → (fld F x0 0 = .int z31992) → lv_has ls 6 [(0, .ref p0), (1, .int p1), (2, .int p2), (3, .int p3), (4, .int z31978), (5, .int z31979)] → W p l e { frames := 3, cells := 0, slots := 0, locals := 71 } s m args below meth c H locs 0 0 Q (F0 m 83 ls [.int z31991]) := by
        intro z31991 z31992 H locs ls rz31992 r9s31990 hT qz31992 hl
        have rz31991 := rg_all z31991
        refine lv_iconst (v := 0) hx hb dX13_owned_83 (by decide) ?_
        have k31993 : (0 : Int32).toInt = 0 := by decide
        exact K84 0 z31991 z31992 _ _ _ (by decide) (by omega) (by omega) hT qz31992 (lv_sub hl [0, 1, 2, 3, 4, 5] rfl)
      refine lv_iload hx hb dX13_owned_6 (lv_at hl 5 rfl) ?_
      refine lv_aload_n hx hb dX13_owned_8 rfl (lv_at hl 0 rfl) ?_
      refine t_get (C := RX13) (T := TX13) (N := 37) X hT m0 g0 rfl rfl 3 (by decide) qw_481 inlX13 rfl dX13_owned_9 (fun v31994 hv31994 ov31994 => ?_)
      obtain rfl : v31994 = .ref x0 := hv31994.symm.trans pf0
      refine t_cVi (n := 0) (C := RX12) (T := TX12) (N := 31) (As := []) (rest := [.int z31979]) X hT (km98_X12_cells l G tag L F hT.2.2.2 x0 mx0 gx0) mx0 gx0 rfl rfl qw_744 qw_745 qw_746 qw_476 qw_747 ⟨rfl, by decide +kernel, by decide +kernel, by decide +kernel⟩ ⟨Nat.le_of_ble_eq_true rfl, Nat.le_of_ble_eq_true rfl⟩ hl rfl rfl (Nat.le_of_ble_eq_true rfl) dX13_owned_12 ⟨Nat.le_of_ble_eq_true rfl, Nat.le_of_ble_eq_true rfl⟩ (fun z31995 F9 H locs hT hz31995 => ?_)
      obtain ⟨fz31995, hz31995⟩ := hz31995
      rw [fz31995] at hT
      refine lv_icmp_ge (tgt := 93) hx hb dX13_owned_15 (by decide) (fun c31996 => ?_) (fun c31996 => ?_)
      · have w31997 := cv_le (rfl : z31995.toInt = z31995.toInt) (rfl : z31979.toInt = z31979.toInt) c31996
        refine lv_iload hx hb dX13_owned_93 (lv_at hl 4 rfl) ?_
        exact t_iret hQ X hT (⟨rfl, rg_all _⟩) (Nat.le_of_ble_eq_true rfl) (Nat.le_of_ble_eq_true rfl) dX13_owned_95
      · have w31998 := cv_nle (rfl : z31995.toInt = z31995.toInt) (rfl : z31979.toInt = z31979.toInt) c31996
        refine lv_iload hx hb dX13_owned_18 (lv_at hl 4 rfl) ?_
        refine lv_aload_n hx hb dX13_owned_20 rfl (lv_at hl 0 rfl) ?_
        refine t_get (C := RX13) (T := TX13) (N := 37) X hT m0 g0 rfl rfl 3 (by decide) qw_481 inlX13 rfl dX13_owned_21 (fun v31999 hv31999 ov31999 => ?_)
        obtain rfl : v31999 = .ref x0 := hv31999.symm.trans pf0
        refine lv_aload_n hx hb dX13_owned_24 rfl (lv_at hl 0 rfl) ?_
        refine t_get (C := RX13) (T := TX13) (N := 37) X hT m0 g0 rfl rfl 16 (by decide) qw_112 inlX13 rfl dX13_owned_25 (fun v32000 hv32000 ov32000 => ?_)
        obtain ⟨b32001, rfl, mb32001, gb32001⟩ := okV_r ov32000
        have gb32001 : tag b32001 = 37 := tg_of gb32001
        refine lv_iload hx hb dX13_owned_28 (lv_at hl 5 rfl) ?_
        refine lv_aload_n hx hb dX13_owned_30 rfl (lv_at hl 0 rfl) ?_
        refine t_get (C := RX13) (T := TX13) (N := 37) X hT m0 g0 rfl rfl 3 (by decide) qw_481 inlX13 rfl dX13_owned_31 (fun v32002 hv32002 ov32002 => ?_)
        obtain rfl : v32002 = .ref x0 := hv32002.symm.trans pf0
        refine t_getN (C := RX12) (T := TX12) (N := 31) X hT mx0 gx0 rfl rfl 0 (by decide) (List.mem_of_getElem? (i := 4) rfl) inlX12 rfl dX13_owned_34 (fun v32003 hv32003 ov32003 => ?_)
        obtain ⟨z32004, rfl, rz32004⟩ := okV_i ov32003
        refine lv_irem hx hb dX13_owned_37 (ne0_of (by omega)) ?_
        refine lv_topi (fun z32005 ez32005 => ?_)
        have hz32005 := ar_remv ez32005 (by omega) (by omega)
        have rz32005 : 0 ≤ z32005.toInt ∧ z32005.toInt ≤ 11 := by omega
        refine lv_iload hx hb dX13_owned_38 (lv_at hl 5 rfl) ?_
        refine lv_aload_n hx hb dX13_owned_40 rfl (lv_at hl 0 rfl) ?_
        refine t_get (C := RX13) (T := TX13) (N := 37) X hT m0 g0 rfl rfl 3 (by decide) qw_481 inlX13 rfl dX13_owned_41 (fun v32006 hv32006 ov32006 => ?_)
        obtain rfl : v32006 = .ref x0 := hv32006.symm.trans pf0
        refine t_getN (C := RX12) (T := TX12) (N := 31) X hT mx0 gx0 rfl rfl 0 (by decide) (List.mem_of_getElem? (i := 4) rfl) inlX12 rfl dX13_owned_44 (fun v32007 hv32007 ov32007 => ?_)
        obtain rfl : v32007 = .int z32004 := hv32007.symm.trans hv32003
        refine lv_idiv hx hb dX13_owned_47 (ne0_of (by omega)) ?_
        refine lv_topi (fun z32008 ez32008 => ?_)
        have rz32008 : 0 ≤ z32008.toInt ∧ z32008.toInt ≤ 143 := ar_divv ez32008 (A := 143) (by omega) (by omega)
        refine t_cSi (n := 4) (As := [.ref x0, .ref b32001, .int z32005, .int z32008]) (rest := [.int z31978]) X hT (km92_X13_ownersOf l G tag L F hT.2.2.2 x0 b32001 z32005 z32008 mx0 gx0 mb32001 gb32001) qw_616 qw_617 qw_5 qw_618 ⟨by decide +kernel, by decide +kernel, by decide +kernel⟩ ⟨Nat.le_of_ble_eq_true rfl, Nat.le_of_ble_eq_true rfl⟩ hl rfl rfl (Nat.le_of_ble_eq_true rfl) dX13_owned_48 ⟨Nat.le_of_ble_eq_true rfl, Nat.le_of_ble_eq_true rfl⟩ (fun z32009 F9 H locs hT hz32009 => ?_)
        obtain ⟨fz32009, hz32009⟩ := hz32009
        rw [fz32009] at hT
        refine t_cSi (n := 1) (As := [.int z32009]) (rest := [.int z31978]) X hT (km99_X13_bits l G tag L F hT.2.2.2 z32009 (by omega)) qw_748 qw_749 qw_5 qw_750 ⟨by decide +kernel, by decide +kernel, by decide +kernel⟩ ⟨Nat.le_of_ble_eq_true rfl, Nat.le_of_ble_eq_true rfl⟩ hl rfl rfl (Nat.le_of_ble_eq_true rfl) dX13_owned_51 ⟨Nat.le_of_ble_eq_true rfl, Nat.le_of_ble_eq_true rfl⟩ (fun z32010 F9 H locs hT hz32010 => ?_)
        obtain ⟨fz32010, hz32010⟩ := hz32010
        rw [fz32010] at hT
        refine lv_iload_n hx hb dX13_owned_54 rfl (lv_at hl 1 rfl) ?_
        refine lv_iload_n hx hb dX13_owned_55 rfl (lv_at hl 2 rfl) ?_
        refine t_cSi (n := 3) (As := [.int z32010, .int p1, .int p2]) (rest := [.int z31978]) X hT (km19_X13_within l G tag L F hT.2.2.2 z32010 p1 p2 ) qw_568 qw_569 qw_5 qw_570 ⟨by decide +kernel, by decide +kernel, by decide +kernel⟩ ⟨Nat.le_of_ble_eq_true rfl, Nat.le_of_ble_eq_true rfl⟩ hl rfl rfl (Nat.le_of_ble_eq_true rfl) dX13_owned_56 ⟨Nat.le_of_ble_eq_true rfl, Nat.le_of_ble_eq_true rfl⟩ (fun z32011 F9 H locs hT hz32011 => ?_)
        obtain ⟨fz32011, hz32011, xz32011_0⟩ := hz32011
        rw [fz32011] at hT
        refine lv_if_eq (tgt := 83) hx hb dX13_owned_59 (by decide) (fun c32012 => ?_) (fun c32012 => ?_)
        · have w32013 := cv_eq (rfl : z32011.toInt = z32011.toInt) (by decide : (0 : Int32).toInt = 0) c32012
          exact K83 z31978 z32004 _ _ _ (by omega) (by omega) hT hv32003 (lv_sub hl [0, 1, 2, 3, 4, 5] rfl)
        · have w32014 := cv_ne (rfl : z32011.toInt = z32011.toInt) (by decide : (0 : Int32).toInt = 0) c32012
          have w32015 := xz32011_0 (by omega)
          refine lv_iload_n hx hb dX13_owned_62 rfl (lv_at hl 3 rfl) ?_
          refine lv_if_eq (tgt := 79) hx hb dX13_owned_63 (by decide) (fun c32016 => ?_) (fun c32016 => ?_)
          · have w32017 := cv_eq (rfl : p3.toInt = p3.toInt) (by decide : (0 : Int32).toInt = 0) c32016
            exact K79 z31978 z32004 _ _ _ (by omega) (by omega) hT hv32003 (lv_sub hl [0, 1, 2, 3, 4, 5] rfl)
          · have w32018 := cv_ne (rfl : p3.toInt = p3.toInt) (by decide : (0 : Int32).toInt = 0) c32016
            refine lv_aload_n hx hb dX13_owned_66 rfl (lv_at hl 0 rfl) ?_
            refine t_get (C := RX13) (T := TX13) (N := 37) X hT m0 g0 rfl rfl 3 (by decide) qw_481 inlX13 rfl dX13_owned_67 (fun v32019 hv32019 ov32019 => ?_)
            obtain rfl : v32019 = .ref x0 := hv32019.symm.trans pf0
            refine t_getN (C := RX12) (T := TX12) (N := 31) X hT mx0 gx0 rfl rfl 15 (by decide) (List.mem_of_getElem? (i := 19) rfl) inlX12 rfl dX13_owned_70 (fun v32020 hv32020 ov32020 => ?_)
            obtain ⟨b32021, rfl, mb32021, gb32021⟩ := okV_r ov32020
            have gb32021 : tag b32021 = 28 := tg_of gb32021
            refine lv_iload hx hb dX13_owned_73 (lv_at hl 5 rfl) ?_
            refine t_zld X hT mb32021 gb32021 rfl (by omega) dX13_owned_75 (fun z32022 vz32022 rz32022 => ?_)
            have rz32022 : 0 ≤ z32022.toInt ∧ z32022.toInt ≤ 1 := rz32022
            refine lv_if_ne (tgt := 83) hx hb dX13_owned_76 (by decide) (fun c32023 => ?_) (fun c32023 => ?_)
            · have w32024 := cv_ne (rfl : z32022.toInt = z32022.toInt) (by decide : (0 : Int32).toInt = 0) c32023
              exact K83 z31978 z32004 _ _ _ (by omega) (by omega) hT hv32003 (lv_sub hl [0, 1, 2, 3, 4, 5] rfl)
            · have w32025 := cv_eq (rfl : z32022.toInt = z32022.toInt) (by decide : (0 : Int32).toInt = 0) c32023
              exact K79 z31978 z32004 _ _ _ (by omega) (by omega) hT hv32003 (lv_sub hl [0, 1, 2, 3, 4, 5] rfl)
  refine lv_iconst (v := 0) hx hb dX13_owned_0 (by decide) ?_
  refine lv_istore (lv' := [(4, .int 0), (0, .ref p0), (1, .int p1), (2, .int p2), (3, .int p3)]) hx hb dX13_owned_1 hl (by decide) rfl (fun ls hl => ?_)
  refine lv_iconst (v := 0) hx hb dX13_owned_3 (by decide) ?_
  refine lv_istore (lv' := [(5, .int 0), (4, .int 0), (0, .ref p0), (1, .int p1), (2, .int p2), (3, .int p3)]) hx hb dX13_owned_4 hl (by decide) rfl (fun ls hl => ?_)
  have k32026 : (0 : Int32).toInt = 0 := by decide
  have k32027 : (0 : Int32).toInt = 0 := by decide
  exact K6 145 0 0 _ _ _ (by omega) (by decide) hT  (lv_sub hl [2, 3, 4, 5, 1, 0] rfl)
