set_option maxHeartbeats 4000000 in
set_option maxRecDepth 100000 in
theorem km159_X13_way (l : Launch) (G : KG) (tag : Nat → Nat) (L : List Nat) (Fo : Nat → va_E) (ho : okT G ttC tag L Fo) (p0 : Nat) (p1 : Int32) (p2 : Int32) (m0 : p0 ∈ L) (g0 : tag p0 = 46) (pf0 : fld Fo p0 3 = .null) : TMi l yX13_way cX13_way 3 (some .int) { frames := 5, cells := 0, slots := 0, locals := 113 } G ttC tag L Fo [.ref p0, .int p1, .int p2] (fun r F1 => ((-2147483648) ≤ r.toInt ∧ r.toInt ≤ 2147483647) ∧ ((∀ b j : Nat, (tag b ≠ 46 ∨ j ≠ 0) → (tag b ≠ 46 ∨ j ≠ 1) → (tag b ≠ 46 ∨ j ≠ 2) → fld F1 b j = fld Fo b j) ∧ (∀ b j : Nat, elm F1 b j = elm Fo b j))) := by
  refine t_bodyi (y := yX13_way) (cd := cX13_way) (mL := 3) (rt := (some .int)) (rm := { frames := 5, cells := 0, slots := 0, locals := 113 }) (av := [.ref p0, .int p1, .int p2]) (by decide) (Nat.le_of_ble_eq_true rfl) ho ?_
  intro p e s m args below meth c ls A Q hQ X hT hl
  have hx := X.1.1
  have hb := X.1.2.1
  have hl : lv_has ls 3 [(0, .ref p0), (1, .int p1), (2, .int p2)] := hl
  have rp1 := rg_all p1
  have rp2 := rg_all p2
  obtain ⟨F, hFo⟩ : ∃ F : Nat → va_E, F = Fo := ⟨_, rfl⟩
  rw [← hFo] at hT pf0
  have hfr : (∀ b j : Nat, (tag b ≠ 46 ∨ j ≠ 0) → (tag b ≠ 46 ∨ j ≠ 1) → (tag b ≠ 46 ∨ j ≠ 2) → fld F b j = fld Fo b j) ∧ (∀ b j : Nat, elm F b j = elm Fo b j) := by
    rw [hFo]
    exact ⟨by intros; rfl, by intros; rfl⟩
  refine lv_aload_n hx hb dX13_way_0 rfl (lv_at hl 0 rfl) ?_
  refine lv_iconst (v := 0) hx hb dX13_way_1 (by decide) ?_
  refine t_put (C := RX13) (T := TX13) (N := 37) (v := .int 0) X hT m0 g0 rfl tyX13 tyX13_ok nmX13 rfl 0 (by decide) qw_140 inlX13 rfl (by first | rfl | decide) (by first | rfl | decide) rfl (⟨_, rfl, (show (-2147483648) ≤ (0 : Int32).toInt from (by decide)), (show (0 : Int32).toInt ≤ 2147483647 from (by decide))⟩) dX13_way_2 (fun F H locs hT v42469 h1v42469 h2v42469 => ?_)
  have pf0 := (h1v42469 _ _ (Or.inr (by decide))).trans pf0
  have hfr : (∀ b j : Nat, (tag b ≠ 46 ∨ j ≠ 0) → (tag b ≠ 46 ∨ j ≠ 1) → (tag b ≠ 46 ∨ j ≠ 2) → fld F b j = fld Fo b j) ∧ (∀ b j : Nat, elm F b j = elm Fo b j) := ⟨fun b j n46_0 n46_1 n46_2 => (h1v42469 b j (fr_ne g0 n46_0)).trans (hfr.1 b j n46_0 n46_1 n46_2), fun b j  => (h2v42469 b j).trans (hfr.2 b j )⟩
  refine lv_aload_n hx hb dX13_way_5 rfl (lv_at hl 0 rfl) ?_
  refine lv_iload_n hx hb dX13_way_6 rfl (lv_at hl 1 rfl) ?_
  refine lv_iload_n hx hb dX13_way_7 rfl (lv_at hl 2 rfl) ?_
  refine t_cVi (n := 2) (C := RX13) (T := TX13) (N := 37) (As := [.int p1, .int p2]) (rest := []) X hT (km127_X13_isDepth l G tag L F hT.2.2.2 p0 p1 p2 m0 g0 pf0) m0 g0 rfl rfl qw_865 qw_866 qw_867 qw_5 qw_868 ⟨rfl, by decide +kernel, by decide +kernel, by decide +kernel⟩ ⟨Nat.le_of_ble_eq_true rfl, Nat.le_of_ble_eq_true rfl⟩ hl rfl rfl (Nat.le_of_ble_eq_true rfl) dX13_way_8 ⟨Nat.le_of_ble_eq_true rfl, Nat.le_of_ble_eq_true rfl⟩ (fun z42470 F9 H locs hT hz42470 => ?_)
  obtain ⟨fz42470, hz42470⟩ := hz42470
  rw [fz42470] at hT
  refine lv_if_eq (tgt := 30) hx hb dX13_way_11 (by decide) (fun c42471 => ?_) (fun c42471 => ?_)
  · have w42472 := cv_eq (rfl : z42470.toInt = z42470.toInt) (by decide : (0 : Int32).toInt = 0) c42471
    refine lv_aload_n hx hb dX13_way_30 rfl (lv_at hl 0 rfl) ?_
    refine lv_iconst (v := 1) hx hb dX13_way_31 (by decide) ?_
    refine t_cVi (n := 1) (C := RX13) (T := TX13) (N := 37) (As := [.int 1]) (rest := []) X hT (km88_X13_refused l G tag L F hT.2.2.2 p0 1 m0 g0) m0 g0 rfl rfl qw_484 qw_485 qw_486 qw_5 qw_487 ⟨rfl, by decide +kernel, by decide +kernel, by decide +kernel⟩ ⟨Nat.le_of_ble_eq_true rfl, Nat.le_of_ble_eq_true rfl⟩ hl rfl rfl (Nat.le_of_ble_eq_true rfl) dX13_way_32 ⟨Nat.le_of_ble_eq_true rfl, Nat.le_of_ble_eq_true rfl⟩ (fun z42473 F H locs hT hz42473 => ?_)
    obtain ⟨hz42473, yz42473⟩ := hz42473
    have pf0 := (yz42473.1 _ 3 (Or.inr (by decide)) (Or.inr (by decide))).trans pf0
    have v42469 := (yz42473.1 _ 0 (Or.inr (by decide)) (Or.inr (by decide))).trans v42469
    have hfr : (∀ b j : Nat, (tag b ≠ 46 ∨ j ≠ 0) → (tag b ≠ 46 ∨ j ≠ 1) → (tag b ≠ 46 ∨ j ≠ 2) → fld F b j = fld Fo b j) ∧ (∀ b j : Nat, elm F b j = elm Fo b j) := ⟨fun b j n46_0 n46_1 n46_2 => (yz42473.1 b j n46_1 n46_2).trans (hfr.1 b j n46_0 n46_1 n46_2), fun b j  => (yz42473.2 b j ).trans (hfr.2 b j )⟩
    exact t_iret hQ X hT (⟨rg_all _, hfr⟩) (Nat.le_of_ble_eq_true rfl) (Nat.le_of_ble_eq_true rfl) dX13_way_35
  · have w42474 := cv_ne (rfl : z42470.toInt = z42470.toInt) (by decide : (0 : Int32).toInt = 0) c42471
    exfalso
    omega
theorem kp_X13_way (l : Launch) (G : KG) (tag : Nat → Nat) (L : List Nat) (Fo : Nat → va_E) (ho : okT G ttC tag L Fo) (p0 : Nat) (p1 : Int32) (p2 : Int32) (m0 : p0 ∈ L) (g0 : tag p0 = 46) : TMi l yX13_way cX13_way 3 (some .int) { frames := 5, cells := 0, slots := 0, locals := 113 } G ttC tag L Fo [.ref p0, .int p1, .int p2] (fun r F1 => ((-2147483648) ≤ r.toInt ∧ r.toInt ≤ 2147483647) ∧ ((∀ b j : Nat, (tag b ≠ 46 ∨ j ≠ 0) → (tag b ≠ 46 ∨ j ≠ 1) → (tag b ≠ 46 ∨ j ≠ 2) → fld F1 b j = fld Fo b j) ∧ (∀ b j : Nat, elm F1 b j = elm Fo b j))) := by
  rcases t_fldn ho m0 g0 rfl 3 rfl with h9 | ⟨b9, h9, m9, t9⟩
  · exact km159_X13_way l G tag L Fo ho p0 p1 p2  m0 g0 h9 
  · exact km158_X13_way l G tag L Fo ho p0 p1 p2 b9  m0 g0 m9 (tg_of t9) h9 
set_option maxHeartbeats 4000000 in
set_option maxRecDepth 100000 in
theorem km161_X13_least (l : Launch) (G : KG) (tag : Nat → Nat) (L : List Nat) (F : Nat → va_E) (ho : okT G ttC tag L F) (p0 : Int32) (p1 : Int32)  : TMi l yX13_least cX13_least 2 (some .int) { frames := 0, cells := 0, slots := 0, locals := 0 } G ttC tag L F [.int p0, .int p1] (fun r F1 => F1 = F ∧ ((-2147483648) ≤ r.toInt ∧ r.toInt ≤ 2147483647)) := by
  refine t_bodyi (y := yX13_least) (cd := cX13_least) (mL := 2) (rt := (some .int)) (rm := { frames := 0, cells := 0, slots := 0, locals := 0 }) (av := [.int p0, .int p1]) (by decide) (Nat.le_of_ble_eq_true rfl) ho ?_
  intro p e s m args below meth c ls A Q hQ X hT hl
  have hx := X.1.1
  have hb := X.1.2.1
  have hl : lv_has ls 2 [(0, .int p0), (1, .int p1)] := hl
  have rp0 := rg_all p0
  have rp1 := rg_all p1
  refine lv_iload_n hx hb dX13_least_0 rfl (lv_at hl 0 rfl) ?_
  refine lv_iload_n hx hb dX13_least_1 rfl (lv_at hl 1 rfl) ?_
  refine lv_icmp_ge (tgt := 9) hx hb dX13_least_2 (by decide) (fun c42559 => ?_) (fun c42559 => ?_)
  · have w42560 := cv_le (rfl : p1.toInt = p1.toInt) (rfl : p0.toInt = p0.toInt) c42559
    refine lv_iload_n hx hb dX13_least_9 rfl (lv_at hl 1 rfl) ?_
    exact t_iret hQ X hT (⟨rfl, rg_all _⟩) (Nat.le_of_ble_eq_true rfl) (Nat.le_of_ble_eq_true rfl) dX13_least_10
  · have w42561 := cv_nle (rfl : p1.toInt = p1.toInt) (rfl : p0.toInt = p0.toInt) c42559
    refine lv_iload_n hx hb dX13_least_5 rfl (lv_at hl 0 rfl) ?_
    refine lv_goto (tgt := 10) hx hb dX13_least_6 (by decide) ?_
    exact t_iret hQ X hT (⟨rfl, rg_all _⟩) (Nat.le_of_ble_eq_true rfl) (Nat.le_of_ble_eq_true rfl) dX13_least_10
set_option maxHeartbeats 4000000 in
set_option maxRecDepth 100000 in
theorem km162_X13_entry (l : Launch) (G : KG) (tag : Nat → Nat) (L : List Nat) (F : Nat → va_E) (ho : okT G ttC tag L F) (p0 : Nat) (p1 : Int32) (p2 : Int32) (p3 : Int32) (x0 : Nat) (m0 : p0 ∈ L) (g0 : tag p0 = 46) (h1 : 0 ≤ p1.toInt ∧ p1.toInt ≤ 3) (h2 : 1 ≤ p2.toInt ∧ p2.toInt ≤ 6) (h3 : 0 ≤ p3.toInt ∧ p3.toInt ≤ 1) (mx0 : x0 ∈ L) (gx0 : tag x0 = 45) (pf0 : fld F p0 3 = .ref x0) : TMi l yX13_entry cX13_entry 6 (some .int) { frames := 1, cells := 0, slots := 0, locals := 22 } G ttC tag L F [.ref p0, .int p1, .int p2, .int p3] (fun r F1 => F1 = F ∧ ((-2147483648) ≤ r.toInt ∧ r.toInt ≤ 2147483647)) := by
  refine t_bodyi (y := yX13_entry) (cd := cX13_entry) (mL := 6) (rt := (some .int)) (rm := { frames := 1, cells := 0, slots := 0, locals := 22 }) (av := [.ref p0, .int p1, .int p2, .int p3]) (by decide) (Nat.le_of_ble_eq_true rfl) ho ?_
  intro p e s m args below meth c ls A Q hQ X hT hl
  have hx := X.1.1
  have hb := X.1.2.1
  have hl : lv_has ls 6 [(0, .ref p0), (1, .int p1), (2, .int p2), (3, .int p3)] := hl
  have K104 : ∀ (z43294 : Int32) (z43295 : Int32) (z43296 : Int32) (H : Heap) (locs : List Loc) (ls : Array Slot), (1 ≤ z43295.toInt ∧ z43295.toInt ≤ 2147483647) → (100 ≤ z43296.toInt ∧ z43296.toInt ≤ 100) → TH G ttC A s tag L F H locs → lv_has ls 6 [(0, .ref p0), (1, .int p1), (2, .int p2), (3, .int p3), (4, .int z43294)] → W p l e { frames := 1, cells := 0, slots := 0, locals := 22 } s m args below meth c H locs 0 0 Q (F0 m 104 ls [.int z43295, .int z43296]) := by
    intro z43294 z43295 z43296 H locs ls rz43295 rz43296 hT hl
    have rz43294 := rg_all z43294
    refine lv_imul hx hb dX13_entry_104 ?_
    refine lv_topi (fun z43297 ez43297 => ?_)
    have rz43297 := rg_all z43297
    refine lv_iconst (v := 1) hx hb dX13_entry_105 (by decide) ?_
    refine lv_iadd hx hb dX13_entry_106 ?_
    refine lv_topi (fun z43298 ez43298 => ?_)
    have rz43298 := rg_all z43298
    refine lv_istore (lv' := [(5, .int z43298), (0, .ref p0), (1, .int p1), (2, .int p2), (3, .int p3), (4, .int z43294)]) hx hb dX13_entry_107 hl (by decide) rfl (fun ls hl => ?_)
    refine lv_iload_n hx hb dX13_entry_109 rfl (lv_at hl 4 rfl) ?_
    refine lv_if_eq (tgt := 137) hx hb dX13_entry_110 (by decide) (fun c43299 => ?_) (fun c43299 => ?_)
    · have w43300 := cv_eq (rfl : p3.toInt = p3.toInt) (by decide : (0 : Int32).toInt = 0) c43299
      refine lv_iload hx hb dX13_entry_137 (lv_at hl 0 rfl) ?_
      exact t_iret hQ X hT (⟨rfl, rg_all _⟩) (Nat.le_of_ble_eq_true rfl) (Nat.le_of_ble_eq_true rfl) dX13_entry_139
    · have w43301 := cv_ne (rfl : p3.toInt = p3.toInt) (by decide : (0 : Int32).toInt = 0) c43299
      refine lv_iload hx hb dX13_entry_113 (lv_at hl 0 rfl) ?_
      refine lv_bipush (v := 100) hx hb dX13_entry_115 (by decide) ?_
      refine lv_aload_n hx hb dX13_entry_117 rfl (lv_at hl 1 rfl) ?_
      refine t_get (C := RX13) (T := TX13) (N := 37) X hT m0 g0 rfl rfl 16 (by decide) qw_112 inlX13 rfl dX13_entry_118 (fun v43302 hv43302 ov43302 => ?_)
      obtain ⟨b43303, rfl, mb43303, gb43303⟩ := okV_r ov43302
      have gb43303 : tag b43303 = 37 := tg_of gb43303
      refine lv_iload_n hx hb dX13_entry_121 rfl (lv_at hl 2 rfl) ?_
      refine lv_iload_n hx hb dX13_entry_122 rfl (lv_at hl 3 rfl) ?_
      refine lv_iconst (v := 3) hx hb dX13_entry_123 (by decide) ?_
      refine t_cSi (n := 3) (As := [.int p1, .int p2, .int 3]) (rest := [.ref b43303, .int 100, .int z43298]) X hT (km49_X13_part l G tag L F hT.2.2.2 p1 p2 3 (by omega) (by omega) (by decide)) qw_661 qw_662 qw_5 qw_663 ⟨by decide +kernel, by decide +kernel, by decide +kernel⟩ ⟨Nat.le_of_ble_eq_true rfl, Nat.le_of_ble_eq_true rfl⟩ hl rfl rfl (Nat.le_of_ble_eq_true rfl) dX13_entry_124 ⟨Nat.le_of_ble_eq_true rfl, Nat.le_of_ble_eq_true rfl⟩ (fun z43304 F9 H locs hT hz43304 => ?_)
      obtain ⟨fz43304, hz43304, xz43304_0⟩ := hz43304
      rw [fz43304] at hT
      have k43305 : (3 : Int32).toInt = 3 := by decide
      refine t_ild X hT mb43303 gb43303 rfl (by omega) dX13_entry_127 (fun z43306 vz43306 rz43306 => ?_)
      have oz43306 := rz43306
      have rz43306 := rg_all z43306
      refine lv_iconst (v := 1) hx hb dX13_entry_128 (by decide) ?_
      refine lv_iadd hx hb dX13_entry_129 ?_
      refine lv_topi (fun z43307 ez43307 => ?_)
      have rz43307 := rg_all z43307
      refine lv_imul hx hb dX13_entry_130 ?_
      refine lv_topi (fun z43308 ez43308 => ?_)
      have rz43308 := rg_all z43308
      refine t_cSi (n := 2) (As := [.int z43298, .int z43308]) (rest := []) X hT (km161_X13_least l G tag L F hT.2.2.2 z43298 z43308 ) qw_1065 qw_1066 qw_5 qw_1067 ⟨by decide +kernel, by decide +kernel, by decide +kernel⟩ ⟨Nat.le_of_ble_eq_true rfl, Nat.le_of_ble_eq_true rfl⟩ hl rfl rfl (Nat.le_of_ble_eq_true rfl) dX13_entry_131 ⟨Nat.le_of_ble_eq_true rfl, Nat.le_of_ble_eq_true rfl⟩ (fun z43309 F9 H locs hT hz43309 => ?_)
      obtain ⟨fz43309, hz43309⟩ := hz43309
      rw [fz43309] at hT
      refine lv_goto (tgt := 139) hx hb dX13_entry_134 (by decide) ?_
      exact t_iret hQ X hT (⟨rfl, rg_all _⟩) (Nat.le_of_ble_eq_true rfl) (Nat.le_of_ble_eq_true rfl) dX13_entry_139
  refine lv_aload_n hx hb dX13_entry_0 rfl (lv_at hl 0 rfl) ?_
  refine t_get (C := RX13) (T := TX13) (N := 37) X hT m0 g0 rfl rfl 16 (by decide) qw_112 inlX13 rfl dX13_entry_1 (fun v43310 hv43310 ov43310 => ?_)
  obtain ⟨b43311, rfl, mb43311, gb43311⟩ := okV_r ov43310
  have gb43311 : tag b43311 = 37 := tg_of gb43311
  refine lv_iload_n hx hb dX13_entry_4 rfl (lv_at hl 1 rfl) ?_
  refine lv_iload_n hx hb dX13_entry_5 rfl (lv_at hl 2 rfl) ?_
  refine lv_iconst (v := 5) hx hb dX13_entry_6 (by decide) ?_
  refine t_cSi (n := 3) (As := [.int p1, .int p2, .int 5]) (rest := [.ref b43311]) X hT (km49_X13_part l G tag L F hT.2.2.2 p1 p2 5 (by omega) (by omega) (by decide)) qw_661 qw_662 qw_5 qw_663 ⟨by decide +kernel, by decide +kernel, by decide +kernel⟩ ⟨Nat.le_of_ble_eq_true rfl, Nat.le_of_ble_eq_true rfl⟩ hl rfl rfl (Nat.le_of_ble_eq_true rfl) dX13_entry_7 ⟨Nat.le_of_ble_eq_true rfl, Nat.le_of_ble_eq_true rfl⟩ (fun z43312 F9 H locs hT hz43312 => ?_)
  obtain ⟨fz43312, hz43312, xz43312_0⟩ := hz43312
  rw [fz43312] at hT
  have k43313 : (5 : Int32).toInt = 5 := by decide
  refine t_ild X hT mb43311 gb43311 rfl (by omega) dX13_entry_10 (fun z43314 vz43314 rz43314 => ?_)
  have oz43314 := rz43314
  have rz43314 := rg_all z43314
  refine lv_iconst (v := 1) hx hb dX13_entry_11 (by decide) ?_
  refine lv_icmp_ne (tgt := 27) hx hb dX13_entry_12 (by decide) (fun c43315 => ?_) (fun c43315 => ?_)
  · have w43316 := cv_ne (rfl : z43314.toInt = z43314.toInt) (by decide : (1 : Int32).toInt = 1) c43315
    refine lv_aload_n hx hb dX13_entry_27 rfl (lv_at hl 0 rfl) ?_
    refine t_get (C := RX13) (T := TX13) (N := 37) X hT m0 g0 rfl rfl 16 (by decide) qw_112 inlX13 rfl dX13_entry_28 (fun v43317 hv43317 ov43317 => ?_)
    obtain rfl : v43317 = .ref b43311 := hv43317.symm.trans hv43310
    refine lv_iload_n hx hb dX13_entry_31 rfl (lv_at hl 1 rfl) ?_
    refine lv_iload_n hx hb dX13_entry_32 rfl (lv_at hl 2 rfl) ?_
    refine lv_bipush (v := 6) hx hb dX13_entry_33 (by decide) ?_
    refine t_cSi (n := 3) (As := [.int p1, .int p2, .int 6]) (rest := [.ref b43311]) X hT (km49_X13_part l G tag L F hT.2.2.2 p1 p2 6 (by omega) (by omega) (by decide)) qw_661 qw_662 qw_5 qw_663 ⟨by decide +kernel, by decide +kernel, by decide +kernel⟩ ⟨Nat.le_of_ble_eq_true rfl, Nat.le_of_ble_eq_true rfl⟩ hl rfl rfl (Nat.le_of_ble_eq_true rfl) dX13_entry_35 ⟨Nat.le_of_ble_eq_true rfl, Nat.le_of_ble_eq_true rfl⟩ (fun z43318 F9 H locs hT hz43318 => ?_)
    obtain ⟨fz43318, hz43318, xz43318_0⟩ := hz43318
    rw [fz43318] at hT
    have k43319 : (6 : Int32).toInt = 6 := by decide
    refine t_ild X hT mb43311 gb43311 rfl (by omega) dX13_entry_38 (fun z43320 vz43320 rz43320 => ?_)
    have oz43320 := rz43320
    have rz43320 := rg_all z43320
    refine lv_iconst (v := 1) hx hb dX13_entry_39 (by decide) ?_
    refine lv_icmp_ne (tgt := 57) hx hb dX13_entry_40 (by decide) (fun c43321 => ?_) (fun c43321 => ?_)
    · have w43322 := cv_ne (rfl : z43320.toInt = z43320.toInt) (by decide : (1 : Int32).toInt = 1) c43321
      refine lv_aload_n hx hb dX13_entry_57 rfl (lv_at hl 0 rfl) ?_
      refine t_get (C := RX13) (T := TX13) (N := 37) X hT m0 g0 rfl rfl 3 (by decide) qw_481 inlX13 rfl dX13_entry_58 (fun v43323 hv43323 ov43323 => ?_)
      obtain rfl : v43323 = .ref x0 := hv43323.symm.trans pf0
      refine t_getN (C := RX12) (T := TX12) (N := 31) X hT mx0 gx0 rfl rfl 20 (by decide) (List.mem_of_getElem? (i := 24) rfl) inlX12 rfl dX13_entry_61 (fun v43324 hv43324 ov43324 => ?_)
      obtain ⟨b43325, rfl, mb43325, gb43325⟩ := okV_r ov43324
      have gb43325 : tag b43325 = 29 := tg_of gb43325
      refine lv_aload_n hx hb dX13_entry_64 rfl (lv_at hl 0 rfl) ?_
      refine t_get (C := RX13) (T := TX13) (N := 37) X hT m0 g0 rfl rfl 16 (by decide) qw_112 inlX13 rfl dX13_entry_65 (fun v43326 hv43326 ov43326 => ?_)
      obtain rfl : v43326 = .ref b43311 := hv43326.symm.trans hv43310
      refine lv_iload_n hx hb dX13_entry_68 rfl (lv_at hl 1 rfl) ?_
      refine lv_iload_n hx hb dX13_entry_69 rfl (lv_at hl 2 rfl) ?_
      refine lv_iconst (v := 0) hx hb dX13_entry_70 (by decide) ?_
      refine t_cSi (n := 3) (As := [.int p1, .int p2, .int 0]) (rest := [.ref b43311, .ref b43325]) X hT (km49_X13_part l G tag L F hT.2.2.2 p1 p2 0 (by omega) (by omega) (by decide)) qw_661 qw_662 qw_5 qw_663 ⟨by decide +kernel, by decide +kernel, by decide +kernel⟩ ⟨Nat.le_of_ble_eq_true rfl, Nat.le_of_ble_eq_true rfl⟩ hl rfl rfl (Nat.le_of_ble_eq_true rfl) dX13_entry_71 ⟨Nat.le_of_ble_eq_true rfl, Nat.le_of_ble_eq_true rfl⟩ (fun z43327 F9 H locs hT hz43327 => ?_)
      obtain ⟨fz43327, hz43327, xz43327_0⟩ := hz43327
      rw [fz43327] at hT
      have k43328 : (0 : Int32).toInt = 0 := by decide
      refine t_ild X hT mb43311 gb43311 rfl (by omega) dX13_entry_74 (fun z43329 vz43329 rz43329 => ?_)
      have rz43329 := row_sl (by omega) (by omega) rz43329
      refine t_ild X hT mb43325 gb43325 rfl (by omega) dX13_entry_75 (fun z43330 vz43330 rz43330 => ?_)
      have rz43330 : (-2147483648) ≤ z43330.toInt ∧ z43330.toInt ≤ 2147483647 := rz43330
      refine lv_aload_n hx hb dX13_entry_76 rfl (lv_at hl 0 rfl) ?_
      refine t_get (C := RX13) (T := TX13) (N := 37) X hT m0 g0 rfl rfl 16 (by decide) qw_112 inlX13 rfl dX13_entry_77 (fun v43331 hv43331 ov43331 => ?_)
      obtain rfl : v43331 = .ref b43311 := hv43331.symm.trans hv43310
      refine lv_iload_n hx hb dX13_entry_80 rfl (lv_at hl 1 rfl) ?_
      refine lv_iload_n hx hb dX13_entry_81 rfl (lv_at hl 2 rfl) ?_
      refine lv_iconst (v := 4) hx hb dX13_entry_82 (by decide) ?_
      refine t_cSi (n := 3) (As := [.int p1, .int p2, .int 4]) (rest := [.ref b43311, .int z43330]) X hT (km49_X13_part l G tag L F hT.2.2.2 p1 p2 4 (by omega) (by omega) (by decide)) qw_661 qw_662 qw_5 qw_663 ⟨by decide +kernel, by decide +kernel, by decide +kernel⟩ ⟨Nat.le_of_ble_eq_true rfl, Nat.le_of_ble_eq_true rfl⟩ hl rfl rfl (Nat.le_of_ble_eq_true rfl) dX13_entry_83 ⟨Nat.le_of_ble_eq_true rfl, Nat.le_of_ble_eq_true rfl⟩ (fun z43332 F9 H locs hT hz43332 => ?_)
      obtain ⟨fz43332, hz43332, xz43332_0⟩ := hz43332
      rw [fz43332] at hT
      have k43333 : (4 : Int32).toInt = 4 := by decide
      refine t_ild X hT mb43311 gb43311 rfl (by omega) dX13_entry_86 (fun z43334 vz43334 rz43334 => ?_)
      have oz43334 := rz43334
      have rz43334 := rg_all z43334
      refine lv_isub hx hb dX13_entry_87 ?_
      refine lv_topi (fun z43335 ez43335 => ?_)
      have rz43335 := rg_all z43335
      refine lv_istore (lv' := [(4, .int z43335), (0, .ref p0), (1, .int p1), (2, .int p2), (3, .int p3)]) hx hb dX13_entry_88 hl (by decide) rfl (fun ls hl => ?_)
      refine lv_bipush (v := 100) hx hb dX13_entry_90 (by decide) ?_
      refine lv_iload hx hb dX13_entry_92 (lv_at hl 0 rfl) ?_
      refine lv_iconst (v := 1) hx hb dX13_entry_94 (by decide) ?_
      refine lv_icmp_le (tgt := 103) hx hb dX13_entry_95 (by decide) (fun c43336 => ?_) (fun c43336 => ?_)
      · have w43337 := cv_le (rfl : z43335.toInt = z43335.toInt) (by decide : (1 : Int32).toInt = 1) c43336
        refine lv_iconst (v := 1) hx hb dX13_entry_103 (by decide) ?_
        have k43338 : (1 : Int32).toInt = 1 := by decide
        have k43339 : (100 : Int32).toInt = 100 := by decide
        exact K104 z43335 1 100 _ _ _ (by decide) (by decide) hT  (lv_sub hl [1, 2, 3, 4, 0] rfl)
      · have w43340 := cv_nle (rfl : z43335.toInt = z43335.toInt) (by decide : (1 : Int32).toInt = 1) c43336
        refine lv_iload hx hb dX13_entry_98 (lv_at hl 0 rfl) ?_
        refine lv_goto (tgt := 104) hx hb dX13_entry_100 (by decide) ?_
        have k43341 : (100 : Int32).toInt = 100 := by decide
        exact K104 z43335 z43335 100 _ _ _ (by omega) (by decide) hT  (lv_sub hl [1, 2, 3, 4, 0] rfl)
    · have w43342 := cv_eq (rfl : z43320.toInt = z43320.toInt) (by decide : (1 : Int32).toInt = 1) c43321
      refine lv_iload_n hx hb dX13_entry_43 rfl (lv_at hl 3 rfl) ?_
      refine lv_if_eq (tgt := 53) hx hb dX13_entry_44 (by decide) (fun c43343 => ?_) (fun c43343 => ?_)
      · have w43344 := cv_eq (rfl : p3.toInt = p3.toInt) (by decide : (0 : Int32).toInt = 0) c43343
        refine lv_sipush (v := 2001) hx hb dX13_entry_53 (by decide) ?_
        have k43345 : (2001 : Int32).toInt = 2001 := by decide
        exact t_iret hQ X hT (⟨rfl, rg_all _⟩) (Nat.le_of_ble_eq_true rfl) (Nat.le_of_ble_eq_true rfl) dX13_entry_56
      · have w43346 := cv_ne (rfl : p3.toInt = p3.toInt) (by decide : (0 : Int32).toInt = 0) c43343
        refine lv_sipush (v := 2000) hx hb dX13_entry_47 (by decide) ?_
        refine lv_goto (tgt := 56) hx hb dX13_entry_50 (by decide) ?_
        have k43347 : (2000 : Int32).toInt = 2000 := by decide
        exact t_iret hQ X hT (⟨rfl, rg_all _⟩) (Nat.le_of_ble_eq_true rfl) (Nat.le_of_ble_eq_true rfl) dX13_entry_56
  · have w43348 := cv_eq (rfl : z43314.toInt = z43314.toInt) (by decide : (1 : Int32).toInt = 1) c43315
    refine lv_iload_n hx hb dX13_entry_15 rfl (lv_at hl 3 rfl) ?_
    refine lv_if_eq (tgt := 24) hx hb dX13_entry_16 (by decide) (fun c43349 => ?_) (fun c43349 => ?_)
    · have w43350 := cv_eq (rfl : p3.toInt = p3.toInt) (by decide : (0 : Int32).toInt = 0) c43349
      refine lv_bipush (v := 101) hx hb dX13_entry_24 (by decide) ?_
      have k43351 : (101 : Int32).toInt = 101 := by decide
      exact t_iret hQ X hT (⟨rfl, rg_all _⟩) (Nat.le_of_ble_eq_true rfl) (Nat.le_of_ble_eq_true rfl) dX13_entry_26
    · have w43352 := cv_ne (rfl : p3.toInt = p3.toInt) (by decide : (0 : Int32).toInt = 0) c43349
      refine lv_bipush (v := 100) hx hb dX13_entry_19 (by decide) ?_
      refine lv_goto (tgt := 26) hx hb dX13_entry_21 (by decide) ?_
      have k43353 : (100 : Int32).toInt = 100 := by decide
      exact t_iret hQ X hT (⟨rfl, rg_all _⟩) (Nat.le_of_ble_eq_true rfl) (Nat.le_of_ble_eq_true rfl) dX13_entry_26
set_option maxHeartbeats 4000000 in
set_option maxRecDepth 100000 in
theorem km163_X13_inFront (l : Launch) (G : KG) (tag : Nat → Nat) (L : List Nat) (F : Nat → va_E) (ho : okT G ttC tag L F) (p0 : Int32) (p1 : Int32) (h0 : 1 ≤ p0.toInt ∧ p0.toInt ≤ 5) (h1 : 0 ≤ p1.toInt ∧ p1.toInt ≤ 39) (xh0 : p1.toInt < 8 * p0.toInt) : TMi l yX13_inFront cX13_inFront 2 (some .int) { frames := 0, cells := 0, slots := 0, locals := 0 } G ttC tag L F [.int p0, .int p1] (fun r F1 => F1 = F ∧ (1 ≤ r.toInt ∧ r.toInt ≤ 46)) := by
  refine t_bodyi (y := yX13_inFront) (cd := cX13_inFront) (mL := 2) (rt := (some .int)) (rm := { frames := 0, cells := 0, slots := 0, locals := 0 }) (av := [.int p0, .int p1]) (by decide) (Nat.le_of_ble_eq_true rfl) ho ?_
  intro p e s m args below meth c ls A Q hQ X hT hl
  have hx := X.1.1
  have hb := X.1.2.1
  have hl : lv_has ls 2 [(0, .int p0), (1, .int p1)] := hl
  refine lv_iload_n hx hb dX13_inFront_0 rfl (lv_at hl 1 rfl) ?_
  refine lv_iconst (v := 1) hx hb dX13_inFront_1 (by decide) ?_
  refine lv_iadd hx hb dX13_inFront_2 ?_
  refine lv_topi (fun z43416 ez43416 => ?_)
  have hz43416 : z43416.toInt = p1.toInt + 1 := ar_add ez43416 (rfl : p1.toInt = p1.toInt) (by decide : (1 : Int32).toInt = 1) (by omega) (by omega)
  have rz43416 : 1 ≤ z43416.toInt ∧ z43416.toInt ≤ 40 := by omega
  refine lv_iconst (v := 2) hx hb dX13_inFront_3 (by decide) ?_
  refine lv_iload_n hx hb dX13_inFront_4 rfl (lv_at hl 1 rfl) ?_
  refine lv_iconst (v := 2) hx hb dX13_inFront_5 (by decide) ?_
  refine lv_iload_n hx hb dX13_inFront_6 rfl (lv_at hl 0 rfl) ?_
  refine lv_imul hx hb dX13_inFront_7 ?_
  refine lv_topi (fun z43417 ez43417 => ?_)
  have hz43417 : z43417.toInt = 2 * p0.toInt := ar_mul ez43417 (by decide : (2 : Int32).toInt = 2) (rfl : p0.toInt = p0.toInt) (by omega) (by omega)
  have rz43417 : 2 ≤ z43417.toInt ∧ z43417.toInt ≤ 10 := by omega
  refine lv_idiv hx hb dX13_inFront_8 (ne0_of (by omega)) ?_
  refine lv_topi (fun z43418 ez43418 => ?_)
  have rz43418 := ar_div8 ez43418 (by omega) (by omega) (by omega)
  refine lv_imul hx hb dX13_inFront_9 ?_
  refine lv_topi (fun z43419 ez43419 => ?_)
  have hz43419 : z43419.toInt = 2 * z43418.toInt := ar_mul ez43419 (by decide : (2 : Int32).toInt = 2) (rfl : z43418.toInt = z43418.toInt) (by omega) (by omega)
  have rz43419 : 0 ≤ z43419.toInt ∧ z43419.toInt ≤ 6 := by omega
  refine lv_iadd hx hb dX13_inFront_10 ?_
  refine lv_topi (fun z43420 ez43420 => ?_)
  have hz43420 : z43420.toInt = z43416.toInt + z43419.toInt := ar_add ez43420 (rfl : z43416.toInt = z43416.toInt) (rfl : z43419.toInt = z43419.toInt) (by omega) (by omega)
  have rz43420 : 1 ≤ z43420.toInt ∧ z43420.toInt ≤ 46 := by omega
  exact t_iret hQ X hT (⟨rfl, (by omega)⟩) (Nat.le_of_ble_eq_true rfl) (Nat.le_of_ble_eq_true rfl) dX13_inFront_11
set_option maxHeartbeats 4000000 in
set_option maxRecDepth 100000 in
theorem km164_X13_throughTo (l : Launch) (G : KG) (tag : Nat → Nat) (L : List Nat) (Fo : Nat → va_E) (ho : okT G ttC tag L Fo) (p0 : Nat) (p1 : Int32) (p2 : Int32) (x0 : Nat) (m0 : p0 ∈ L) (g0 : tag p0 = 46) (h1 : 0 ≤ p1.toInt ∧ p1.toInt ≤ 3) (h2 : 0 ≤ p2.toInt ∧ p2.toInt ≤ 6) (mx0 : x0 ∈ L) (gx0 : tag x0 = 45) (pf0 : fld Fo p0 3 = .ref x0) : TMi l yX13_throughTo cX13_throughTo 9 (some .int) { frames := 2, cells := 0, slots := 0, locals := 47 } G ttC tag L Fo [.ref p0, .int p1, .int p2] (fun r F1 => ((-2147483648) ≤ r.toInt ∧ r.toInt ≤ 2147483647) ∧ ((∀ b j : Nat, fld F1 b j = fld Fo b j) ∧ (∀ b j : Nat, tag b ≠ 42 → elm F1 b j = elm Fo b j))) := by
  refine t_bodyi (y := yX13_throughTo) (cd := cX13_throughTo) (mL := 9) (rt := (some .int)) (rm := { frames := 2, cells := 0, slots := 0, locals := 47 }) (av := [.ref p0, .int p1, .int p2]) (by decide) (Nat.le_of_ble_eq_true rfl) ho ?_
  intro p e s m args below meth c ls A Q hQ X hT hl
  have hx := X.1.1
  have hb := X.1.2.1
  have hl : lv_has ls 9 [(0, .ref p0), (1, .int p1), (2, .int p2)] := hl
  obtain ⟨F, hFo⟩ : ∃ F : Nat → va_E, F = Fo := ⟨_, rfl⟩
  rw [← hFo] at hT pf0
  have hfr : (∀ b j : Nat, fld F b j = fld Fo b j) ∧ (∀ b j : Nat, tag b ≠ 42 → elm F b j = elm Fo b j) := by
    rw [hFo]
    exact ⟨by intros; rfl, by intros; rfl⟩
  have K270 : ∀ (n : Nat) (z47272 : Int32) (z47273 : Int32) (z47274 : Int32) (z47275 : Int32) (F : Nat → va_E) (H : Heap) (locs : List Loc) (ls : Array Slot), (48 - z47275.toInt < (n : Int)) → (1 ≤ z47272.toInt ∧ z47272.toInt ≤ 6) → (1 ≤ z47273.toInt ∧ z47273.toInt ≤ 6) → (0 ≤ z47275.toInt ∧ z47275.toInt ≤ 48) → TH G ttC A s tag L F H locs → ((∀ b j : Nat, fld F b j = fld Fo b j) ∧ (∀ b j : Nat, tag b ≠ 42 → elm F b j = elm Fo b j)) → (fld F p0 3 = .ref x0) → lv_has ls 9 [(0, .ref p0), (1, .int p1), (2, .int p2), (3, .int z47272), (4, .int z47273), (5, .int z47274), (6, .int z47275)] → W p l e { frames := 2, cells := 0, slots := 0, locals := 47 } s m args below meth c H locs 0 0 Q (F0 m 270 ls []) := by
    intro n
    induction n with
    | zero =>
      intro z47272 z47273 z47274 z47275 F H locs ls hn rz47272 rz47273 rz47275 hT hfr pf0 hl
      have rz47274 := rg_all z47274
      exfalso
      omega
    | succ n ih270 =>
      intro z47272 z47273 z47274 z47275 F H locs ls hn rz47272 rz47273 rz47275 hT hfr pf0 hl
      have rz47274 := rg_all z47274
      refine lv_iload hx hb dX13_throughTo_270 (lv_at hl 6 rfl) ?_
      refine lv_bipush (v := 8) hx hb dX13_throughTo_272 (by decide) ?_
      refine lv_iload hx hb dX13_throughTo_274 (lv_at hl 4 rfl) ?_
      refine lv_imul hx hb dX13_throughTo_276 ?_
      refine lv_topi (fun z47276 ez47276 => ?_)
      have hz47276 : z47276.toInt = 8 * z47273.toInt := ar_mul ez47276 (by decide : (8 : Int32).toInt = 8) (rfl : z47273.toInt = z47273.toInt) (by omega) (by omega)
      have rz47276 : 8 ≤ z47276.toInt ∧ z47276.toInt ≤ 48 := by omega
      refine lv_icmp_ge (tgt := 300) hx hb dX13_throughTo_277 (by decide) (fun c47277 => ?_) (fun c47277 => ?_)
      · have w47278 := cv_le (rfl : z47276.toInt = z47276.toInt) (rfl : z47275.toInt = z47275.toInt) c47277
        refine lv_iload_n hx hb dX13_throughTo_300 rfl (lv_at hl 2 rfl) ?_
        refine lv_if_le (tgt := 309) hx hb dX13_throughTo_301 (by decide) (fun c47279 => ?_) (fun c47279 => ?_)
        · have w47280 := cv_le (rfl : p2.toInt = p2.toInt) (by decide : (0 : Int32).toInt = 0) c47279
          refine lv_iload hx hb dX13_throughTo_309 (lv_at hl 5 rfl) ?_
          refine lv_bipush (v := 100) hx hb dX13_throughTo_311 (by decide) ?_
          refine lv_iadd hx hb dX13_throughTo_313 ?_
          refine lv_topi (fun z47281 ez47281 => ?_)
          have rz47281 := rg_all z47281
          exact t_iret hQ X hT (⟨rg_all _, hfr⟩) (Nat.le_of_ble_eq_true rfl) (Nat.le_of_ble_eq_true rfl) dX13_throughTo_314
        · have w47282 := cv_nle (rfl : p2.toInt = p2.toInt) (by decide : (0 : Int32).toInt = 0) c47279
          refine lv_iload hx hb dX13_throughTo_304 (lv_at hl 5 rfl) ?_
          refine lv_goto (tgt := 314) hx hb dX13_throughTo_306 (by decide) ?_
          exact t_iret hQ X hT (⟨rg_all _, hfr⟩) (Nat.le_of_ble_eq_true rfl) (Nat.le_of_ble_eq_true rfl) dX13_throughTo_314
      · have w47283 := cv_nle (rfl : z47276.toInt = z47276.toInt) (rfl : z47275.toInt = z47275.toInt) c47277
        refine lv_iload hx hb dX13_throughTo_280 (lv_at hl 5 rfl) ?_
        refine lv_aload_n hx hb dX13_throughTo_282 rfl (lv_at hl 0 rfl) ?_
        refine t_get (C := RX13) (T := TX13) (N := 37) X hT m0 g0 rfl rfl 26 (by decide) qw_118 inlX13 rfl dX13_throughTo_283 (fun v47284 hv47284 ov47284 => ?_)
        obtain ⟨b47285, rfl, mb47285, gb47285⟩ := okV_r ov47284
        have gb47285 : tag b47285 = 42 := tg_of gb47285
        refine lv_iload hx hb dX13_throughTo_286 (lv_at hl 6 rfl) ?_
        refine t_ild X hT mb47285 gb47285 rfl (by omega) dX13_throughTo_288 (fun z47286 vz47286 rz47286 => ?_)
        have rz47286 : (-2147483648) ≤ z47286.toInt ∧ z47286.toInt ≤ 2147483647 := rz47286
        refine t_cSi (n := 2) (As := [.int z47274, .int z47286]) (rest := []) X hT (km161_X13_least l G tag L F hT.2.2.2 z47274 z47286 ) qw_1065 qw_1066 qw_5 qw_1067 ⟨by decide +kernel, by decide +kernel, by decide +kernel⟩ ⟨Nat.le_of_ble_eq_true rfl, Nat.le_of_ble_eq_true rfl⟩ hl rfl rfl (Nat.le_of_ble_eq_true rfl) dX13_throughTo_289 ⟨Nat.le_of_ble_eq_true rfl, Nat.le_of_ble_eq_true rfl⟩ (fun z47287 F9 H locs hT hz47287 => ?_)
        obtain ⟨fz47287, hz47287⟩ := hz47287
        rw [fz47287] at hT
        refine lv_istore (lv' := [(5, .int z47287), (0, .ref p0), (1, .int p1), (2, .int p2), (3, .int z47272), (4, .int z47273), (6, .int z47275)]) hx hb dX13_throughTo_292 hl (by decide) rfl (fun ls hl => ?_)
        obtain ⟨z47288, ez47288⟩ : ∃ y : Int32, y = z47275 + 1 := ⟨_, rfl⟩
        have hz47288 : z47288.toInt = z47275.toInt + 1 := ar_add ez47288 rfl (by decide : (1 : Int32).toInt = 1) (by omega) (by omega)
        refine lv_iinc (v := z47288) (lv' := [(6, .int z47288), (5, .int z47287), (0, .ref p0), (1, .int p1), (2, .int p2), (3, .int z47272), (4, .int z47273)]) hx hb dX13_throughTo_294 hl (k := 6) rfl (by rw [ez47288]; rfl) (by decide) rfl (fun ls hl => ?_)
        refine lv_goto (tgt := 270) hx hb dX13_throughTo_297 (by decide) ?_
        exact ih270 z47272 z47273 z47287 z47288 _ _ _ _ (by omega) (by omega) (by omega) (by omega) hT hfr pf0 (lv_sub hl [2, 3, 4, 5, 6, 1, 0] rfl)
  have K29 : ∀ (n : Nat) (z47289 : Int32) (z47290 : Int32) (z47291 : Int32) (F : Nat → va_E) (H : Heap) (locs : List Loc) (ls : Array Slot), (z47291.toInt - 0 < (n : Int)) → (1 ≤ z47289.toInt ∧ z47289.toInt ≤ 6) → (1 ≤ z47290.toInt ∧ z47290.toInt ≤ 6) → (0 ≤ z47291.toInt ∧ z47291.toInt ≤ 6) → TH G ttC A s tag L F H locs → ((∀ b j : Nat, fld F b j = fld Fo b j) ∧ (∀ b j : Nat, tag b ≠ 42 → elm F b j = elm Fo b j)) → (fld F p0 3 = .ref x0) → (z47291.toInt ≤ z47289.toInt) → lv_has ls 9 [(0, .ref p0), (1, .int p1), (2, .int p2), (3, .int z47289), (4, .int z47290), (5, .int z47291)] → W p l e { frames := 2, cells := 0, slots := 0, locals := 47 } s m args below meth c H locs 0 0 Q (F0 m 29 ls []) := by
    intro n
    induction n with
    | zero =>
      intro z47289 z47290 z47291 F H locs ls hn rz47289 rz47290 rz47291 hT hfr pf0 ex29_0 hl
      exfalso
      omega
    | succ n ih29 =>
      intro z47289 z47290 z47291 F H locs ls hn rz47289 rz47290 rz47291 hT hfr pf0 ex29_0 hl
      have K174 : ∀ (n : Nat) (z47293 : Int32) (z47294 : Int32) (F : Nat → va_E) (H : Heap) (locs : List Loc) (ls : Array Slot), (48 - z47294.toInt < (n : Int)) → (0 ≤ z47294.toInt ∧ z47294.toInt ≤ 48) → (1 ≤ z47291.toInt ∧ z47291.toInt ≤ 6) → TH G ttC A s tag L F H locs → ((∀ b j : Nat, fld F b j = fld Fo b j) ∧ (∀ b j : Nat, tag b ≠ 42 → elm F b j = elm Fo b j)) → (fld F p0 3 = .ref x0) → (z47291.toInt ≤ z47289.toInt) → lv_has ls 9 [(0, .ref p0), (1, .int p1), (2, .int p2), (3, .int z47289), (4, .int z47290), (5, .int z47291), (6, .int z47293), (7, .int z47294)] → W p l e { frames := 2, cells := 0, slots := 0, locals := 47 } s m args below meth c H locs 0 0 Q (F0 m 174 ls []) := by
        intro n
        induction n with
        | zero =>
          intro z47293 z47294 F H locs ls hn rz47294 r9s47292 hT hfr pf0 ex174_0 hl
          have rz47293 := rg_all z47293
          exfalso
          omega
        | succ n ih174 =>
          intro z47293 z47294 F H locs ls hn rz47294 r9s47292 hT hfr pf0 ex174_0 hl
          have rz47293 := rg_all z47293
          have K197 : ∀ (n : Nat) (z47296 : Int32) (F : Nat → va_E) (H : Heap) (locs : List Loc) (ls : Array Slot), (48 - z47296.toInt < (n : Int)) → (0 ≤ z47296.toInt ∧ z47296.toInt ≤ 48) → (0 ≤ z47294.toInt ∧ z47294.toInt ≤ 47) → TH G ttC A s tag L F H locs → ((∀ b j : Nat, fld F b j = fld Fo b j) ∧ (∀ b j : Nat, tag b ≠ 42 → elm F b j = elm Fo b j)) → (fld F p0 3 = .ref x0) → (z47291.toInt ≤ z47289.toInt) → lv_has ls 9 [(0, .ref p0), (1, .int p1), (2, .int p2), (3, .int z47289), (4, .int z47290), (5, .int z47291), (6, .int z47293), (7, .int z47294), (8, .int z47296)] → W p l e { frames := 2, cells := 0, slots := 0, locals := 47 } s m args below meth c H locs 0 0 Q (F0 m 197 ls []) := by
            intro n
            induction n with
            | zero =>
              intro z47296 F H locs ls hn rz47296 r9s47295 hT hfr pf0 ex197_0 hl
              exfalso
              omega
            | succ n ih197 =>
              intro z47296 F H locs ls hn rz47296 r9s47295 hT hfr pf0 ex197_0 hl
              refine lv_iload hx hb dX13_throughTo_197 (lv_at hl 8 rfl) ?_
              refine lv_bipush (v := 8) hx hb dX13_throughTo_199 (by decide) ?_
              refine lv_iload hx hb dX13_throughTo_201 (lv_at hl 5 rfl) ?_
              refine lv_imul hx hb dX13_throughTo_203 ?_
              refine lv_topi (fun z47297 ez47297 => ?_)
              have hz47297 : z47297.toInt = 8 * z47291.toInt := ar_mul ez47297 (by decide : (8 : Int32).toInt = 8) (rfl : z47291.toInt = z47291.toInt) (by omega) (by omega)
              have rz47297 : 8 ≤ z47297.toInt ∧ z47297.toInt ≤ 48 := by omega
              refine lv_icmp_ge (tgt := 250) hx hb dX13_throughTo_204 (by decide) (fun c47298 => ?_) (fun c47298 => ?_)
              · have w47299 := cv_le (rfl : z47297.toInt = z47297.toInt) (rfl : z47296.toInt = z47296.toInt) c47298
                obtain ⟨z47300, ez47300⟩ : ∃ y : Int32, y = z47294 + 1 := ⟨_, rfl⟩
                have hz47300 : z47300.toInt = z47294.toInt + 1 := ar_add ez47300 rfl (by decide : (1 : Int32).toInt = 1) (by omega) (by omega)
                refine lv_iinc (v := z47300) (lv' := [(7, .int z47300), (0, .ref p0), (1, .int p1), (2, .int p2), (3, .int z47289), (4, .int z47290), (5, .int z47291), (6, .int z47293), (8, .int z47296)]) hx hb dX13_throughTo_250 hl (k := 7) rfl (by rw [ez47300]; rfl) (by decide) rfl (fun ls hl => ?_)
                refine lv_goto (tgt := 174) hx hb dX13_throughTo_253 (by decide) ?_
                exact ih174 z47293 z47300 _ _ _ _ (by omega) (by omega) (by omega) hT hfr pf0 (by omega) (lv_sub hl [1, 2, 3, 4, 5, 6, 7, 0] rfl)
              · have w47301 := cv_nle (rfl : z47297.toInt = z47297.toInt) (rfl : z47296.toInt = z47296.toInt) c47298
                refine lv_aload_n hx hb dX13_throughTo_207 rfl (lv_at hl 0 rfl) ?_
                refine t_get (C := RX13) (T := TX13) (N := 37) X hT m0 g0 rfl rfl 26 (by decide) qw_118 inlX13 rfl dX13_throughTo_208 (fun v47302 hv47302 ov47302 => ?_)
                obtain ⟨b47303, rfl, mb47303, gb47303⟩ := okV_r ov47302
                have gb47303 : tag b47303 = 42 := tg_of gb47303
                refine lv_iload hx hb dX13_throughTo_211 (lv_at hl 7 rfl) ?_
                refine lv_aload_n hx hb dX13_throughTo_213 rfl (lv_at hl 0 rfl) ?_
                refine t_get (C := RX13) (T := TX13) (N := 37) X hT m0 g0 rfl rfl 26 (by decide) qw_118 inlX13 rfl dX13_throughTo_214 (fun v47304 hv47304 ov47304 => ?_)
                obtain rfl : v47304 = .ref b47303 := hv47304.symm.trans hv47302
                refine lv_iload hx hb dX13_throughTo_217 (lv_at hl 7 rfl) ?_
                refine t_ild X hT mb47303 gb47303 rfl (by omega) dX13_throughTo_219 (fun z47305 vz47305 rz47305 => ?_)
                have rz47305 : (-2147483648) ≤ z47305.toInt ∧ z47305.toInt ≤ 2147483647 := rz47305
                refine lv_aload_n hx hb dX13_throughTo_220 rfl (lv_at hl 0 rfl) ?_
                refine t_get (C := RX13) (T := TX13) (N := 37) X hT m0 g0 rfl rfl 27 (by decide) qw_119 inlX13 rfl dX13_throughTo_221 (fun v47306 hv47306 ov47306 => ?_)
                obtain ⟨b47307, rfl, mb47307, gb47307⟩ := okV_r ov47306
                have gb47307 : tag b47307 = 42 := tg_of gb47307
                refine lv_iload hx hb dX13_throughTo_224 (lv_at hl 8 rfl) ?_
                refine t_ild X hT mb47307 gb47307 rfl (by omega) dX13_throughTo_226 (fun z47308 vz47308 rz47308 => ?_)
                have rz47308 : (-2147483648) ≤ z47308.toInt ∧ z47308.toInt ≤ 2147483647 := rz47308
                refine lv_bipush (v := 100) hx hb dX13_throughTo_227 (by decide) ?_
                refine lv_iload hx hb dX13_throughTo_229 (lv_at hl 5 rfl) ?_
                refine lv_iload hx hb dX13_throughTo_231 (lv_at hl 7 rfl) ?_
                refine lv_iload hx hb dX13_throughTo_233 (lv_at hl 8 rfl) ?_
                refine t_cSi (n := 3) (As := [.int z47291, .int z47294, .int z47296]) (rest := [.int 100, .int z47308, .int z47305, .int z47294, .ref b47303]) X hT (km145_X13_roundOf l G tag L F hT.2.2.2 z47291 z47294 z47296 ) qw_947 qw_948 qw_5 qw_949 ⟨by decide +kernel, by decide +kernel, by decide +kernel⟩ ⟨Nat.le_of_ble_eq_true rfl, Nat.le_of_ble_eq_true rfl⟩ hl rfl rfl (Nat.le_of_ble_eq_true rfl) dX13_throughTo_235 ⟨Nat.le_of_ble_eq_true rfl, Nat.le_of_ble_eq_true rfl⟩ (fun z47309 F9 H locs hT hz47309 => ?_)
                obtain ⟨fz47309, hz47309⟩ := hz47309
                rw [fz47309] at hT
                refine lv_imul hx hb dX13_throughTo_238 ?_
                refine lv_topi (fun z47310 ez47310 => ?_)
                have rz47310 := rg_all z47310
                refine lv_iadd hx hb dX13_throughTo_239 ?_
                refine lv_topi (fun z47311 ez47311 => ?_)
                have rz47311 := rg_all z47311
                refine t_cSi (n := 2) (As := [.int z47305, .int z47311]) (rest := [.int z47294, .ref b47303]) X hT (km161_X13_least l G tag L F hT.2.2.2 z47305 z47311 ) qw_1065 qw_1066 qw_5 qw_1067 ⟨by decide +kernel, by decide +kernel, by decide +kernel⟩ ⟨Nat.le_of_ble_eq_true rfl, Nat.le_of_ble_eq_true rfl⟩ hl rfl rfl (Nat.le_of_ble_eq_true rfl) dX13_throughTo_240 ⟨Nat.le_of_ble_eq_true rfl, Nat.le_of_ble_eq_true rfl⟩ (fun z47312 F9 H locs hT hz47312 => ?_)
                obtain ⟨fz47312, hz47312⟩ := hz47312
                rw [fz47312] at hT
                refine t_ist X hT mb47303 gb47303 rfl (by omega) (show (-2147483648) ≤ (z47312 : Int32).toInt ∧ (z47312 : Int32).toInt ≤ 2147483647 from (rg_all _)) dX13_throughTo_243 (fun F H locs hT v47313 h1v47313 h2v47313 => ?_)
                have pf0 := (h2v47313 _ _).trans pf0
                have hv47302 := (h2v47313 _ _).trans hv47302
                have hv47306 := (h2v47313 _ _).trans hv47306
                have hfr : (∀ b j : Nat, fld F b j = fld Fo b j) ∧ (∀ b j : Nat, tag b ≠ 42 → elm F b j = elm Fo b j) := ⟨fun b j  => (h2v47313 b j).trans (hfr.1 b j ), fun b j a42 => (h1v47313 b j (Or.inl (at_ne gb47303 a42))).trans (hfr.2 b j a42)⟩
                obtain ⟨z47314, ez47314⟩ : ∃ y : Int32, y = z47296 + 1 := ⟨_, rfl⟩
                have hz47314 : z47314.toInt = z47296.toInt + 1 := ar_add ez47314 rfl (by decide : (1 : Int32).toInt = 1) (by omega) (by omega)
                refine lv_iinc (v := z47314) (lv' := [(8, .int z47314), (0, .ref p0), (1, .int p1), (2, .int p2), (3, .int z47289), (4, .int z47290), (5, .int z47291), (6, .int z47293), (7, .int z47294)]) hx hb dX13_throughTo_244 hl (k := 8) rfl (by rw [ez47314]; rfl) (by decide) rfl (fun ls hl => ?_)
                refine lv_goto (tgt := 197) hx hb dX13_throughTo_247 (by decide) ?_
                exact ih197 z47314 _ _ _ _ (by omega) (by omega) (by omega) hT hfr pf0 (by omega) (lv_sub hl [1, 2, 3, 4, 5, 6, 7, 8, 0] rfl)
          refine lv_iload hx hb dX13_throughTo_174 (lv_at hl 7 rfl) ?_
          refine lv_bipush (v := 8) hx hb dX13_throughTo_176 (by decide) ?_
          refine lv_iload hx hb dX13_throughTo_178 (lv_at hl 5 rfl) ?_
          refine lv_imul hx hb dX13_throughTo_180 ?_
          refine lv_topi (fun z47315 ez47315 => ?_)
          have hz47315 : z47315.toInt = 8 * z47291.toInt := ar_mul ez47315 (by decide : (8 : Int32).toInt = 8) (rfl : z47291.toInt = z47291.toInt) (by omega) (by omega)
          have rz47315 : 8 ≤ z47315.toInt ∧ z47315.toInt ≤ 48 := by omega
          refine lv_icmp_ge (tgt := 256) hx hb dX13_throughTo_181 (by decide) (fun c47316 => ?_) (fun c47316 => ?_)
          · have w47317 := cv_le (rfl : z47315.toInt = z47315.toInt) (rfl : z47294.toInt = z47294.toInt) c47316
            obtain ⟨z47318, ez47318⟩ : ∃ y : Int32, y = z47291 + (-1) := ⟨_, rfl⟩
            have hz47318 : z47318.toInt = z47291.toInt + (-1) := ar_add ez47318 rfl (by decide : ((-1) : Int32).toInt = (-1)) (by omega) (by omega)
            refine lv_iinc (v := z47318) (lv' := [(5, .int z47318), (0, .ref p0), (1, .int p1), (2, .int p2), (3, .int z47289), (4, .int z47290), (6, .int z47293), (7, .int z47294)]) hx hb dX13_throughTo_256 hl (k := 5) rfl (by rw [ez47318]; rfl) (by decide) rfl (fun ls hl => ?_)
            refine lv_goto (tgt := 29) hx hb dX13_throughTo_259 (by decide) ?_
            exact ih29 z47289 z47290 z47318 _ _ _ _ (by omega) (by omega) (by omega) (by omega) hT hfr pf0 (by omega) (lv_sub hl [1, 2, 3, 4, 5, 0] rfl)
          · have w47319 := cv_nle (rfl : z47315.toInt = z47315.toInt) (rfl : z47294.toInt = z47294.toInt) c47316
            refine lv_aload_n hx hb dX13_throughTo_184 rfl (lv_at hl 0 rfl) ?_
            refine t_get (C := RX13) (T := TX13) (N := 37) X hT m0 g0 rfl rfl 26 (by decide) qw_118 inlX13 rfl dX13_throughTo_185 (fun v47320 hv47320 ov47320 => ?_)
            obtain ⟨b47321, rfl, mb47321, gb47321⟩ := okV_r ov47320
            have gb47321 : tag b47321 = 42 := tg_of gb47321
            refine lv_iload hx hb dX13_throughTo_188 (lv_at hl 7 rfl) ?_
            refine m_ldcw X qw_1060 dX13_throughTo_190 ?_
            refine t_ist X hT mb47321 gb47321 rfl (by omega) (show (-2147483648) ≤ (100000 : Int32).toInt ∧ (100000 : Int32).toInt ≤ 2147483647 from (rg_all _)) dX13_throughTo_193 (fun F H locs hT v47322 h1v47322 h2v47322 => ?_)
            have pf0 := (h2v47322 _ _).trans pf0
            have hv47320 := (h2v47322 _ _).trans hv47320
            have hfr : (∀ b j : Nat, fld F b j = fld Fo b j) ∧ (∀ b j : Nat, tag b ≠ 42 → elm F b j = elm Fo b j) := ⟨fun b j  => (h2v47322 b j).trans (hfr.1 b j ), fun b j a42 => (h1v47322 b j (Or.inl (at_ne gb47321 a42))).trans (hfr.2 b j a42)⟩
            refine lv_iconst (v := 0) hx hb dX13_throughTo_194 (by decide) ?_
            refine lv_istore (lv' := [(8, .int 0), (0, .ref p0), (1, .int p1), (2, .int p2), (3, .int z47289), (4, .int z47290), (5, .int z47291), (6, .int z47293), (7, .int z47294)]) hx hb dX13_throughTo_195 hl (by decide) rfl (fun ls hl => ?_)
            have k47323 : (0 : Int32).toInt = 0 := by decide
            exact K197 49 0 _ _ _ _ (by omega) (by decide) (by omega) hT hfr pf0 (by omega) (lv_sub hl [1, 2, 3, 4, 5, 6, 7, 8, 0] rfl)
      have K70 : ∀ (n : Nat) (z47325 : Int32) (z47326 : Int32) (F : Nat → va_E) (H : Heap) (locs : List Loc) (ls : Array Slot), (48 - z47326.toInt < (n : Int)) → (0 ≤ z47326.toInt ∧ z47326.toInt ≤ 48) → (1 ≤ z47291.toInt ∧ z47291.toInt ≤ 6) → TH G ttC A s tag L F H locs → ((∀ b j : Nat, fld F b j = fld Fo b j) ∧ (∀ b j : Nat, tag b ≠ 42 → elm F b j = elm Fo b j)) → (fld F p0 3 = .ref x0) → (z47291.toInt ≤ z47289.toInt) → lv_has ls 9 [(0, .ref p0), (1, .int p1), (2, .int p2), (3, .int z47289), (4, .int z47290), (5, .int z47291), (6, .int z47325), (7, .int z47326)] → W p l e { frames := 2, cells := 0, slots := 0, locals := 47 } s m args below meth c H locs 0 0 Q (F0 m 70 ls []) := by
        intro n
        induction n with
        | zero =>
          intro z47325 z47326 F H locs ls hn rz47326 r9s47324 hT hfr pf0 ex70_0 hl
          have rz47325 := rg_all z47325
          exfalso
          omega
        | succ n ih70 =>
          intro z47325 z47326 F H locs ls hn rz47326 r9s47324 hT hfr pf0 ex70_0 hl
          have rz47325 := rg_all z47325
          have K165 : ∀  (F : Nat → va_E) (H : Heap) (locs : List Loc) (ls : Array Slot), (0 ≤ z47326.toInt ∧ z47326.toInt ≤ 47) → TH G ttC A s tag L F H locs → ((∀ b j : Nat, fld F b j = fld Fo b j) ∧ (∀ b j : Nat, tag b ≠ 42 → elm F b j = elm Fo b j)) → (fld F p0 3 = .ref x0) → (z47291.toInt ≤ z47289.toInt) → lv_has ls 9 [(0, .ref p0), (1, .int p1), (2, .int p2), (3, .int z47289), (4, .int z47290), (5, .int z47291), (6, .int z47325), (7, .int z47326)] → W p l e { frames := 2, cells := 0, slots := 0, locals := 47 } s m args below meth c H locs 0 0 Q (F0 m 165 ls []) := by
            intro F H locs ls r9s47327 hT hfr pf0 ex165_0 hl
            obtain ⟨z47328, ez47328⟩ : ∃ y : Int32, y = z47326 + 1 := ⟨_, rfl⟩
            have hz47328 : z47328.toInt = z47326.toInt + 1 := ar_add ez47328 rfl (by decide : (1 : Int32).toInt = 1) (by omega) (by omega)
            refine lv_iinc (v := z47328) (lv' := [(7, .int z47328), (0, .ref p0), (1, .int p1), (2, .int p2), (3, .int z47289), (4, .int z47290), (5, .int z47291), (6, .int z47325)]) hx hb dX13_throughTo_165 hl (k := 7) rfl (by rw [ez47328]; rfl) (by decide) rfl (fun ls hl => ?_)
            refine lv_goto (tgt := 70) hx hb dX13_throughTo_168 (by decide) ?_
            exact ih70 z47325 z47328 _ _ _ _ (by omega) (by omega) (by omega) hT hfr pf0 (by omega) (lv_sub hl [1, 2, 3, 4, 5, 6, 7, 0] rfl)
          have K163 : ∀ (z47330 : Int32) (z47331 : Int32) (z47332 : Int32) (b47333 : Nat) (F : Nat → va_E) (H : Heap) (locs : List Loc) (ls : Array Slot), (0 ≤ z47332.toInt ∧ z47332.toInt ≤ 47) → (b47333 ∈ L) → (tag b47333 = 42) → (0 ≤ z47326.toInt ∧ z47326.toInt ≤ 47) → TH G ttC A s tag L F H locs → ((∀ b j : Nat, fld F b j = fld Fo b j) ∧ (∀ b j : Nat, tag b ≠ 42 → elm F b j = elm Fo b j)) → (fld F p0 3 = .ref x0) → (z47291.toInt ≤ z47289.toInt) → (z47326.toInt < 8 * z47291.toInt) → lv_has ls 9 [(0, .ref p0), (1, .int p1), (2, .int p2), (3, .int z47289), (4, .int z47290), (5, .int z47291), (6, .int z47325), (7, .int z47326)] → W p l e { frames := 2, cells := 0, slots := 0, locals := 47 } s m args below meth c H locs 0 0 Q (F0 m 163 ls [.int z47330, .int z47331, .int z47332, .ref b47333]) := by
            intro z47330 z47331 z47332 b47333 F H locs ls rz47332 mb47333 gb47333 r9s47329 hT hfr pf0 ex163_0 ex163_1 hl
            have rz47330 := rg_all z47330
            have rz47331 := rg_all z47331
            refine lv_iadd hx hb dX13_throughTo_163 ?_
            refine lv_topi (fun z47334 ez47334 => ?_)
            have rz47334 := rg_all z47334
            refine t_ist X hT mb47333 gb47333 rfl (by omega) (show (-2147483648) ≤ (z47334 : Int32).toInt ∧ (z47334 : Int32).toInt ≤ 2147483647 from (rg_all _)) dX13_throughTo_164 (fun F H locs hT v47335 h1v47335 h2v47335 => ?_)
            have pf0 := (h2v47335 _ _).trans pf0
            have hfr : (∀ b j : Nat, fld F b j = fld Fo b j) ∧ (∀ b j : Nat, tag b ≠ 42 → elm F b j = elm Fo b j) := ⟨fun b j  => (h2v47335 b j).trans (hfr.1 b j ), fun b j a42 => (h1v47335 b j (Or.inl (at_ne gb47333 a42))).trans (hfr.2 b j a42)⟩
            exact K165  _ _ _ _ (by omega) hT hfr pf0 (by omega) (lv_sub hl [0, 1, 2, 3, 4, 5, 6, 7] rfl)
          have K138 : ∀ (z47337 : Int32) (z47338 : Int32) (z47339 : Int32) (z47340 : Int32) (b47341 : Nat) (F : Nat → va_E) (H : Heap) (locs : List Loc) (ls : Array Slot), (0 ≤ z47337.toInt ∧ z47337.toInt ≤ 1) → (1 ≤ z47338.toInt ∧ z47338.toInt ≤ 6) → (0 ≤ z47339.toInt ∧ z47339.toInt ≤ 3) → (0 ≤ z47340.toInt ∧ z47340.toInt ≤ 47) → (b47341 ∈ L) → (tag b47341 = 42) → (0 ≤ z47326.toInt ∧ z47326.toInt ≤ 47) → TH G ttC A s tag L F H locs → ((∀ b j : Nat, fld F b j = fld Fo b j) ∧ (∀ b j : Nat, tag b ≠ 42 → elm F b j = elm Fo b j)) → (fld F p0 3 = .ref x0) → (z47291.toInt ≤ z47289.toInt) → (z47326.toInt < 8 * z47291.toInt) → lv_has ls 9 [(0, .ref p0), (1, .int p1), (2, .int p2), (3, .int z47289), (4, .int z47290), (5, .int z47291), (6, .int z47325), (7, .int z47326)] → W p l e { frames := 2, cells := 0, slots := 0, locals := 47 } s m args below meth c H locs 0 0 Q (F0 m 138 ls [.int z47337, .int z47338, .int z47339, .ref p0, .int z47340, .ref b47341]) := by
            intro z47337 z47338 z47339 z47340 b47341 F H locs ls rz47337 rz47338 rz47339 rz47340 mb47341 gb47341 r9s47336 hT hfr pf0 ex138_0 ex138_1 hl
            refine t_cVi (n := 3) (C := RX13) (T := TX13) (N := 37) (As := [.int z47339, .int z47338, .int z47337]) (rest := [.int z47340, .ref b47341]) X hT (km162_X13_entry l G tag L F hT.2.2.2 p0 z47339 z47338 z47337 x0 m0 g0 (by omega) (by omega) (by omega) mx0 gx0 pf0) m0 g0 rfl rfl qw_1061 qw_1062 qw_1063 qw_5 qw_1064 ⟨rfl, by decide +kernel, by decide +kernel, by decide +kernel⟩ ⟨Nat.le_of_ble_eq_true rfl, Nat.le_of_ble_eq_true rfl⟩ hl rfl rfl (Nat.le_of_ble_eq_true rfl) dX13_throughTo_138 ⟨Nat.le_of_ble_eq_true rfl, Nat.le_of_ble_eq_true rfl⟩ (fun z47342 F9 H locs hT hz47342 => ?_)
            obtain ⟨fz47342, hz47342⟩ := hz47342
            rw [fz47342] at hT
            refine lv_iload hx hb dX13_throughTo_141 (lv_at hl 5 rfl) ?_
            refine lv_iload_n hx hb dX13_throughTo_143 rfl (lv_at hl 3 rfl) ?_
            refine lv_icmp_ne (tgt := 151) hx hb dX13_throughTo_144 (by decide) (fun c47343 => ?_) (fun c47343 => ?_)
            · have w47344 := cv_ne (rfl : z47291.toInt = z47291.toInt) (rfl : z47289.toInt = z47289.toInt) c47343
              have w47345 : 1 ≤ z47291.toInt ∧ z47291.toInt ≤ 5 := by omega
              refine lv_aload_n hx hb dX13_throughTo_151 rfl (lv_at hl 0 rfl) ?_
              refine t_get (C := RX13) (T := TX13) (N := 37) X hT m0 g0 rfl rfl 26 (by decide) qw_118 inlX13 rfl dX13_throughTo_152 (fun v47346 hv47346 ov47346 => ?_)
              obtain ⟨b47347, rfl, mb47347, gb47347⟩ := okV_r ov47346
              have gb47347 : tag b47347 = 42 := tg_of gb47347
              have w47348 : 0 ≤ z47326.toInt ∧ z47326.toInt ≤ 39 := by omega
              refine lv_iload hx hb dX13_throughTo_155 (lv_at hl 5 rfl) ?_
              refine lv_iload hx hb dX13_throughTo_157 (lv_at hl 7 rfl) ?_
              refine t_cSi (n := 2) (As := [.int z47291, .int z47326]) (rest := [.ref b47347, .int z47342, .int z47340, .ref b47341]) X hT (km163_X13_inFront l G tag L F hT.2.2.2 z47291 z47326 (by omega) (by omega) (by omega)) qw_1068 qw_1069 qw_5 qw_1070 ⟨by decide +kernel, by decide +kernel, by decide +kernel⟩ ⟨Nat.le_of_ble_eq_true rfl, Nat.le_of_ble_eq_true rfl⟩ hl rfl rfl (Nat.le_of_ble_eq_true rfl) dX13_throughTo_159 ⟨Nat.le_of_ble_eq_true rfl, Nat.le_of_ble_eq_true rfl⟩ (fun z47349 F9 H locs hT hz47349 => ?_)
              obtain ⟨fz47349, hz47349⟩ := hz47349
              rw [fz47349] at hT
              refine t_ild X hT mb47347 gb47347 rfl (by omega) dX13_throughTo_162 (fun z47350 vz47350 rz47350 => ?_)
              have rz47350 : (-2147483648) ≤ z47350.toInt ∧ z47350.toInt ≤ 2147483647 := rz47350
              exact K163 z47350 z47342 z47340 b47341 _ _ _ _ (by omega) mb47341 gb47341 (by omega) hT hfr pf0 (by omega) (by omega) (lv_sub hl [0, 1, 2, 3, 4, 5, 6, 7] rfl)
            · have w47351 := cv_eq (rfl : z47291.toInt = z47291.toInt) (rfl : z47289.toInt = z47289.toInt) c47343
              refine lv_iconst (v := 0) hx hb dX13_throughTo_147 (by decide) ?_
              refine lv_goto (tgt := 163) hx hb dX13_throughTo_148 (by decide) ?_
              have k47352 : (0 : Int32).toInt = 0 := by decide
              exact K163 0 z47342 z47340 b47341 _ _ _ _ (by omega) mb47341 gb47341 (by omega) hT hfr pf0 (by omega) (by omega) (lv_sub hl [0, 1, 2, 3, 4, 5, 6, 7] rfl)
          have K116 : ∀  (F : Nat → va_E) (H : Heap) (locs : List Loc) (ls : Array Slot), (0 ≤ z47326.toInt ∧ z47326.toInt ≤ 47) → TH G ttC A s tag L F H locs → ((∀ b j : Nat, fld F b j = fld Fo b j) ∧ (∀ b j : Nat, tag b ≠ 42 → elm F b j = elm Fo b j)) → (fld F p0 3 = .ref x0) → (z47291.toInt ≤ z47289.toInt) → (z47326.toInt < 8 * z47291.toInt) → lv_has ls 9 [(0, .ref p0), (1, .int p1), (2, .int p2), (3, .int z47289), (4, .int z47290), (5, .int z47291), (6, .int z47325), (7, .int z47326)] → W p l e { frames := 2, cells := 0, slots := 0, locals := 47 } s m args below meth c H locs 0 0 Q (F0 m 116 ls []) := by
            intro F H locs ls r9s47353 hT hfr pf0 ex116_0 ex116_1 hl
            refine lv_aload_n hx hb dX13_throughTo_116 rfl (lv_at hl 0 rfl) ?_
            refine t_get (C := RX13) (T := TX13) (N := 37) X hT m0 g0 rfl rfl 27 (by decide) qw_119 inlX13 rfl dX13_throughTo_117 (fun v47354 hv47354 ov47354 => ?_)
            obtain ⟨b47355, rfl, mb47355, gb47355⟩ := okV_r ov47354
            have gb47355 : tag b47355 = 42 := tg_of gb47355
            refine lv_iload hx hb dX13_throughTo_120 (lv_at hl 7 rfl) ?_
            refine lv_aload_n hx hb dX13_throughTo_122 rfl (lv_at hl 0 rfl) ?_
            refine lv_iload_n hx hb dX13_throughTo_123 rfl (lv_at hl 1 rfl) ?_
            refine lv_iload hx hb dX13_throughTo_124 (lv_at hl 5 rfl) ?_
            refine lv_iload hx hb dX13_throughTo_126 (lv_at hl 7 rfl) ?_
            refine lv_iload hx hb dX13_throughTo_128 (lv_at hl 6 rfl) ?_
            refine lv_icmp_ne (tgt := 137) hx hb dX13_throughTo_130 (by decide) (fun c47356 => ?_) (fun c47356 => ?_)
            · have w47357 := cv_ne (rfl : z47326.toInt = z47326.toInt) (rfl : z47325.toInt = z47325.toInt) c47356
              refine lv_iconst (v := 0) hx hb dX13_throughTo_137 (by decide) ?_
              have k47358 : (0 : Int32).toInt = 0 := by decide
              exact K138 0 z47291 p1 z47326 b47355 _ _ _ _ (by decide) (by omega) (by omega) (by omega) mb47355 gb47355 (by omega) hT hfr pf0 (by omega) (by omega) (lv_sub hl [0, 1, 2, 3, 4, 5, 6, 7] rfl)
            · have w47359 := cv_eq (rfl : z47326.toInt = z47326.toInt) (rfl : z47325.toInt = z47325.toInt) c47356
              refine lv_iconst (v := 1) hx hb dX13_throughTo_133 (by decide) ?_
              refine lv_goto (tgt := 138) hx hb dX13_throughTo_134 (by decide) ?_
              have k47360 : (1 : Int32).toInt = 1 := by decide
              exact K138 1 z47291 p1 z47326 b47355 _ _ _ _ (by decide) (by omega) (by omega) (by omega) mb47355 gb47355 (by omega) hT hfr pf0 (by omega) (by omega) (lv_sub hl [0, 1, 2, 3, 4, 5, 6, 7] rfl)
          refine lv_iload hx hb dX13_throughTo_70 (lv_at hl 7 rfl) ?_
          refine lv_bipush (v := 8) hx hb dX13_throughTo_72 (by decide) ?_
          refine lv_iload hx hb dX13_throughTo_74 (lv_at hl 5 rfl) ?_
          refine lv_imul hx hb dX13_throughTo_76 ?_
          refine lv_topi (fun z47361 ez47361 => ?_)
          have hz47361 : z47361.toInt = 8 * z47291.toInt := ar_mul ez47361 (by decide : (8 : Int32).toInt = 8) (rfl : z47291.toInt = z47291.toInt) (by omega) (by omega)
          have rz47361 : 8 ≤ z47361.toInt ∧ z47361.toInt ≤ 48 := by omega
          refine lv_icmp_ge (tgt := 171) hx hb dX13_throughTo_77 (by decide) (fun c47362 => ?_) (fun c47362 => ?_)
          · have w47363 := cv_le (rfl : z47361.toInt = z47361.toInt) (rfl : z47326.toInt = z47326.toInt) c47362
            refine lv_iconst (v := 0) hx hb dX13_throughTo_171 (by decide) ?_
            refine lv_istore (lv' := [(7, .int 0), (0, .ref p0), (1, .int p1), (2, .int p2), (3, .int z47289), (4, .int z47290), (5, .int z47291), (6, .int z47325)]) hx hb dX13_throughTo_172 hl (by decide) rfl (fun ls hl => ?_)
            have k47364 : (0 : Int32).toInt = 0 := by decide
            exact K174 49 z47325 0 _ _ _ _ (by omega) (by decide) (by omega) hT hfr pf0 (by omega) (lv_sub hl [1, 2, 3, 4, 5, 6, 7, 0] rfl)
          · have w47365 := cv_nle (rfl : z47361.toInt = z47361.toInt) (rfl : z47326.toInt = z47326.toInt) c47362
            refine lv_aload_n hx hb dX13_throughTo_80 rfl (lv_at hl 0 rfl) ?_
            refine t_get (C := RX13) (T := TX13) (N := 37) X hT m0 g0 rfl rfl 27 (by decide) qw_119 inlX13 rfl dX13_throughTo_81 (fun v47366 hv47366 ov47366 => ?_)
            obtain ⟨b47367, rfl, mb47367, gb47367⟩ := okV_r ov47366
            have gb47367 : tag b47367 = 42 := tg_of gb47367
            refine lv_iload hx hb dX13_throughTo_84 (lv_at hl 7 rfl) ?_
            refine m_ldcw X qw_1060 dX13_throughTo_86 ?_
            refine t_ist X hT mb47367 gb47367 rfl (by omega) (show (-2147483648) ≤ (100000 : Int32).toInt ∧ (100000 : Int32).toInt ≤ 2147483647 from (rg_all _)) dX13_throughTo_89 (fun F H locs hT v47368 h1v47368 h2v47368 => ?_)
            have pf0 := (h2v47368 _ _).trans pf0
            have hv47366 := (h2v47368 _ _).trans hv47366
            have hfr : (∀ b j : Nat, fld F b j = fld Fo b j) ∧ (∀ b j : Nat, tag b ≠ 42 → elm F b j = elm Fo b j) := ⟨fun b j  => (h2v47368 b j).trans (hfr.1 b j ), fun b j a42 => (h1v47368 b j (Or.inl (at_ne gb47367 a42))).trans (hfr.2 b j a42)⟩
            refine lv_iload hx hb dX13_throughTo_90 (lv_at hl 7 rfl) ?_
            refine lv_iconst (v := 2) hx hb dX13_throughTo_92 (by decide) ?_
            refine lv_iload hx hb dX13_throughTo_93 (lv_at hl 5 rfl) ?_
            refine lv_imul hx hb dX13_throughTo_95 ?_
            refine lv_topi (fun z47369 ez47369 => ?_)
            have hz47369 : z47369.toInt = 2 * z47291.toInt := ar_mul ez47369 (by decide : (2 : Int32).toInt = 2) (rfl : z47291.toInt = z47291.toInt) (by omega) (by omega)
            have rz47369 : 2 ≤ z47369.toInt ∧ z47369.toInt ≤ 12 := by omega
            refine lv_irem hx hb dX13_throughTo_96 (ne0_of (by omega)) ?_
            refine lv_topi (fun z47370 ez47370 => ?_)
            have hz47370 := ar_remv ez47370 (by omega) (by omega)
            have rz47370 : 0 ≤ z47370.toInt ∧ z47370.toInt ≤ 11 := by omega
            refine lv_if_eq (tgt := 165) hx hb dX13_throughTo_97 (by decide) (fun c47371 => ?_) (fun c47371 => ?_)
            · have w47372 := cv_eq (rfl : z47370.toInt = z47370.toInt) (by decide : (0 : Int32).toInt = 0) c47371
              exact K165  _ _ _ _ (by omega) hT hfr pf0 (by omega) (lv_sub hl [0, 1, 2, 3, 4, 5, 6, 7] rfl)
            · have w47373 := cv_ne (rfl : z47370.toInt = z47370.toInt) (by decide : (0 : Int32).toInt = 0) c47371
              refine lv_iload hx hb dX13_throughTo_100 (lv_at hl 5 rfl) ?_
              refine lv_iload_n hx hb dX13_throughTo_102 rfl (lv_at hl 3 rfl) ?_
              refine lv_icmp_ne (tgt := 116) hx hb dX13_throughTo_103 (by decide) (fun c47374 => ?_) (fun c47374 => ?_)
              · have w47375 := cv_ne (rfl : z47291.toInt = z47291.toInt) (rfl : z47289.toInt = z47289.toInt) c47374
                exact K116  _ _ _ _ (by omega) hT hfr pf0 (by omega) (by omega) (lv_sub hl [0, 1, 2, 3, 4, 5, 6, 7] rfl)
              · have w47376 := cv_eq (rfl : z47291.toInt = z47291.toInt) (rfl : z47289.toInt = z47289.toInt) c47374
                refine lv_iload hx hb dX13_throughTo_106 (lv_at hl 7 rfl) ?_
                refine lv_iload hx hb dX13_throughTo_108 (lv_at hl 6 rfl) ?_
                refine lv_icmp_eq (tgt := 116) hx hb dX13_throughTo_110 (by decide) (fun c47377 => ?_) (fun c47377 => ?_)
                · have w47378 := cv_eq (rfl : z47326.toInt = z47326.toInt) (rfl : z47325.toInt = z47325.toInt) c47377
                  exact K116  _ _ _ _ (by omega) hT hfr pf0 (by omega) (by omega) (lv_sub hl [0, 1, 2, 3, 4, 5, 6, 7] rfl)
                · have w47379 := cv_ne (rfl : z47326.toInt = z47326.toInt) (rfl : z47325.toInt = z47325.toInt) c47377
                  refine lv_goto (tgt := 165) hx hb dX13_throughTo_113 (by decide) ?_
                  exact K165  _ _ _ _ (by omega) hT hfr pf0 (by omega) (lv_sub hl [0, 1, 2, 3, 4, 5, 6, 7] rfl)
      refine lv_iload hx hb dX13_throughTo_29 (lv_at hl 5 rfl) ?_
      refine lv_iload hx hb dX13_throughTo_31 (lv_at hl 4 rfl) ?_
      refine lv_icmp_lt (tgt := 262) hx hb dX13_throughTo_33 (by decide) (fun c47380 => ?_) (fun c47380 => ?_)
      · have w47381 := cv_lt (rfl : z47291.toInt = z47291.toInt) (rfl : z47290.toInt = z47290.toInt) c47380
        refine m_ldcw X qw_1060 dX13_throughTo_262 ?_
        refine lv_istore (lv' := [(5, .int 100000), (0, .ref p0), (1, .int p1), (2, .int p2), (3, .int z47289), (4, .int z47290)]) hx hb dX13_throughTo_265 hl (by decide) rfl (fun ls hl => ?_)
        refine lv_iconst (v := 0) hx hb dX13_throughTo_267 (by decide) ?_
        refine lv_istore (lv' := [(6, .int 0), (5, .int 100000), (0, .ref p0), (1, .int p1), (2, .int p2), (3, .int z47289), (4, .int z47290)]) hx hb dX13_throughTo_268 hl (by decide) rfl (fun ls hl => ?_)
        have k47382 : (100000 : Int32).toInt = 100000 := by decide
        have k47383 : (0 : Int32).toInt = 0 := by decide
        exact K270 49 z47289 z47290 100000 0 _ _ _ _ (by omega) (by omega) (by omega) (by decide) hT hfr pf0 (lv_sub hl [2, 3, 4, 5, 6, 1, 0] rfl)
      · have w47384 := cv_nlt (rfl : z47291.toInt = z47291.toInt) (rfl : z47290.toInt = z47290.toInt) c47380
        refine lv_iload hx hb dX13_throughTo_36 (lv_at hl 5 rfl) ?_
        refine lv_aload_n hx hb dX13_throughTo_38 rfl (lv_at hl 0 rfl) ?_
        refine t_get (C := RX13) (T := TX13) (N := 37) X hT m0 g0 rfl rfl 16 (by decide) qw_112 inlX13 rfl dX13_throughTo_39 (fun v47385 hv47385 ov47385 => ?_)
        obtain ⟨b47386, rfl, mb47386, gb47386⟩ := okV_r ov47385
        have gb47386 : tag b47386 = 37 := tg_of gb47386
        refine lv_iload_n hx hb dX13_throughTo_42 rfl (lv_at hl 1 rfl) ?_
        refine lv_iload hx hb dX13_throughTo_43 (lv_at hl 5 rfl) ?_
        refine lv_iconst (v := 1) hx hb dX13_throughTo_45 (by decide) ?_
        refine t_cSi (n := 3) (As := [.int p1, .int z47291, .int 1]) (rest := [.ref b47386, .int z47291]) X hT (km49_X13_part l G tag L F hT.2.2.2 p1 z47291 1 (by omega) (by omega) (by decide)) qw_661 qw_662 qw_5 qw_663 ⟨by decide +kernel, by decide +kernel, by decide +kernel⟩ ⟨Nat.le_of_ble_eq_true rfl, Nat.le_of_ble_eq_true rfl⟩ hl rfl rfl (Nat.le_of_ble_eq_true rfl) dX13_throughTo_46 ⟨Nat.le_of_ble_eq_true rfl, Nat.le_of_ble_eq_true rfl⟩ (fun z47387 F9 H locs hT hz47387 => ?_)
        obtain ⟨fz47387, hz47387, xz47387_0⟩ := hz47387
        rw [fz47387] at hT
        have k47388 : (1 : Int32).toInt = 1 := by decide
        refine t_ild X hT mb47386 gb47386 rfl (by omega) dX13_throughTo_49 (fun z47389 vz47389 rz47389 => ?_)
        have oz47389 := rz47389
        have rz47389 := rg_all z47389
        refine lv_aload_n hx hb dX13_throughTo_50 rfl (lv_at hl 0 rfl) ?_
        refine t_get (C := RX13) (T := TX13) (N := 37) X hT m0 g0 rfl rfl 16 (by decide) qw_112 inlX13 rfl dX13_throughTo_51 (fun v47390 hv47390 ov47390 => ?_)
        obtain rfl : v47390 = .ref b47386 := hv47390.symm.trans hv47385
        refine lv_iload_n hx hb dX13_throughTo_54 rfl (lv_at hl 1 rfl) ?_
        refine lv_iload hx hb dX13_throughTo_55 (lv_at hl 5 rfl) ?_
        refine lv_iconst (v := 2) hx hb dX13_throughTo_57 (by decide) ?_
        refine t_cSi (n := 3) (As := [.int p1, .int z47291, .int 2]) (rest := [.ref b47386, .int z47389, .int z47291]) X hT (km49_X13_part l G tag L F hT.2.2.2 p1 z47291 2 (by omega) (by omega) (by decide)) qw_661 qw_662 qw_5 qw_663 ⟨by decide +kernel, by decide +kernel, by decide +kernel⟩ ⟨Nat.le_of_ble_eq_true rfl, Nat.le_of_ble_eq_true rfl⟩ hl rfl rfl (Nat.le_of_ble_eq_true rfl) dX13_throughTo_58 ⟨Nat.le_of_ble_eq_true rfl, Nat.le_of_ble_eq_true rfl⟩ (fun z47391 F9 H locs hT hz47391 => ?_)
        obtain ⟨fz47391, hz47391, xz47391_0⟩ := hz47391
        rw [fz47391] at hT
        have k47392 : (2 : Int32).toInt = 2 := by decide
        refine t_ild X hT mb47386 gb47386 rfl (by omega) dX13_throughTo_61 (fun z47393 vz47393 rz47393 => ?_)
        have oz47393 := rz47393
        have rz47393 := rg_all z47393
        refine t_cSi (n := 3) (As := [.int z47291, .int z47389, .int z47393]) (rest := []) X hT (km143_X13_doorPlace l G tag L F hT.2.2.2 z47291 z47389 z47393 ) qw_938 qw_939 qw_5 qw_940 ⟨by decide +kernel, by decide +kernel, by decide +kernel⟩ ⟨Nat.le_of_ble_eq_true rfl, Nat.le_of_ble_eq_true rfl⟩ hl rfl rfl (Nat.le_of_ble_eq_true rfl) dX13_throughTo_62 ⟨Nat.le_of_ble_eq_true rfl, Nat.le_of_ble_eq_true rfl⟩ (fun z47394 F9 H locs hT hz47394 => ?_)
        obtain ⟨fz47394, hz47394⟩ := hz47394
        rw [fz47394] at hT
        refine lv_istore (lv' := [(6, .int z47394), (0, .ref p0), (1, .int p1), (2, .int p2), (3, .int z47289), (4, .int z47290), (5, .int z47291)]) hx hb dX13_throughTo_65 hl (by decide) rfl (fun ls hl => ?_)
        refine lv_iconst (v := 0) hx hb dX13_throughTo_67 (by decide) ?_
        refine lv_istore (lv' := [(7, .int 0), (6, .int z47394), (0, .ref p0), (1, .int p1), (2, .int p2), (3, .int z47289), (4, .int z47290), (5, .int z47291)]) hx hb dX13_throughTo_68 hl (by decide) rfl (fun ls hl => ?_)
        have k47395 : (0 : Int32).toInt = 0 := by decide
        exact K70 49 z47394 0 _ _ _ _ (by omega) (by decide) (by omega) hT hfr pf0 (by omega) (lv_sub hl [2, 3, 4, 5, 6, 7, 1, 0] rfl)
  have K24 : ∀ (z47396 : Int32) (z47397 : Int32) (F : Nat → va_E) (H : Heap) (locs : List Loc) (ls : Array Slot), (1 ≤ z47396.toInt ∧ z47396.toInt ≤ 6) → (1 ≤ z47397.toInt ∧ z47397.toInt ≤ 6) → TH G ttC A s tag L F H locs → ((∀ b j : Nat, fld F b j = fld Fo b j) ∧ (∀ b j : Nat, tag b ≠ 42 → elm F b j = elm Fo b j)) → (fld F p0 3 = .ref x0) → lv_has ls 9 [(0, .ref p0), (1, .int p1), (2, .int p2), (3, .int z47396)] → W p l e { frames := 2, cells := 0, slots := 0, locals := 47 } s m args below meth c H locs 0 0 Q (F0 m 24 ls [.int z47397]) := by
    intro z47396 z47397 F H locs ls rz47396 rz47397 hT hfr pf0 hl
    refine lv_istore (lv' := [(4, .int z47397), (0, .ref p0), (1, .int p1), (2, .int p2), (3, .int z47396)]) hx hb dX13_throughTo_24 hl (by decide) rfl (fun ls hl => ?_)
    refine lv_iload_n hx hb dX13_throughTo_26 rfl (lv_at hl 4 rfl) ?_
    refine lv_istore (lv' := [(5, .int z47396), (4, .int z47397), (0, .ref p0), (1, .int p1), (2, .int p2), (3, .int z47396)]) hx hb dX13_throughTo_27 hl (by decide) rfl (fun ls hl => ?_)
    exact K29 7 z47396 z47397 z47396 _ _ _ _ (by omega) (by omega) (by omega) (by omega) hT hfr pf0 (by omega) (lv_sub hl [2, 3, 4, 5, 1, 0] rfl)
  refine lv_aload_n hx hb dX13_throughTo_0 rfl (lv_at hl 0 rfl) ?_
  refine t_get (C := RX13) (T := TX13) (N := 37) X hT m0 g0 rfl rfl 16 (by decide) qw_112 inlX13 rfl dX13_throughTo_1 (fun v47398 hv47398 ov47398 => ?_)
  obtain ⟨b47399, rfl, mb47399, gb47399⟩ := okV_r ov47398
  have gb47399 : tag b47399 = 37 := tg_of gb47399
  refine lv_iconst (v := 0) hx hb dX13_throughTo_4 (by decide) ?_
  refine lv_iload_n hx hb dX13_throughTo_5 rfl (lv_at hl 1 rfl) ?_
  refine lv_iadd hx hb dX13_throughTo_6 ?_
  refine lv_topi (fun z47400 ez47400 => ?_)
  obtain rfl : p1 = z47400 := (ar_zadd ez47400).symm
  refine t_ild X hT mb47399 gb47399 rfl (by omega) dX13_throughTo_7 (fun z47401 vz47401 rz47401 => ?_)
  have rz47401 := row_ml (by omega) rz47401
  refine lv_istore_n (lv' := [(3, .int z47401), (0, .ref p0), (1, .int p1), (2, .int p2)]) hx hb dX13_throughTo_8 rfl hl (by decide) rfl (fun ls hl => ?_)
  refine lv_iload_n hx hb dX13_throughTo_9 rfl (lv_at hl 0 rfl) ?_
  refine lv_if_ne (tgt := 15) hx hb dX13_throughTo_10 (by decide) (fun c47402 => ?_) (fun c47402 => ?_)
  · have w47403 := cv_ne (rfl : z47401.toInt = z47401.toInt) (by decide : (0 : Int32).toInt = 0) c47402
    refine lv_iload_n hx hb dX13_throughTo_15 rfl (lv_at hl 3 rfl) ?_
    refine lv_if_le (tgt := 23) hx hb dX13_throughTo_16 (by decide) (fun c47404 => ?_) (fun c47404 => ?_)
    · have w47405 := cv_le (rfl : p2.toInt = p2.toInt) (by decide : (0 : Int32).toInt = 0) c47404
      refine lv_iconst (v := 1) hx hb dX13_throughTo_23 (by decide) ?_
      have k47406 : (1 : Int32).toInt = 1 := by decide
      exact K24 z47401 1 _ _ _ _ (by omega) (by decide) hT hfr pf0 (lv_sub hl [1, 2, 3, 0] rfl)
    · have w47407 := cv_nle (rfl : p2.toInt = p2.toInt) (by decide : (0 : Int32).toInt = 0) c47404
      refine lv_iload_n hx hb dX13_throughTo_19 rfl (lv_at hl 3 rfl) ?_
      refine lv_goto (tgt := 24) hx hb dX13_throughTo_20 (by decide) ?_
      exact K24 z47401 p2 _ _ _ _ (by omega) (by omega) hT hfr pf0 (lv_sub hl [1, 2, 3, 0] rfl)
  · have w47408 := cv_eq (rfl : z47401.toInt = z47401.toInt) (by decide : (0 : Int32).toInt = 0) c47402
    refine lv_iconst (v := 0) hx hb dX13_throughTo_13 (by decide) ?_
    have k47409 : (0 : Int32).toInt = 0 := by decide
    exact t_iret hQ X hT (⟨rg_all _, hfr⟩) (Nat.le_of_ble_eq_true rfl) (Nat.le_of_ble_eq_true rfl) dX13_throughTo_14
