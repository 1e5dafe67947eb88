set_option maxHeartbeats 4000000 in
set_option maxRecDepth 100000 in
theorem km159_X13_way (l : Launch) (G : KG) (tag : Nat → Nat) (L : List Nat) (Fo : Nat → va_E) (ho : okT G ttC tag L Fo) (p0 : Nat) (p1 : Int32) (p2 : Int32) (m0 : p0 ∈ L) (g0 : tag p0 = 46) (pf0 : fld Fo p0 3 = .null) : TMi l yX13_way cX13_way 3 (some .int) { frames := 5, cells := 0, slots := 0, locals := 113 } G ttC tag L Fo [.ref p0, .int p1, .int p2] (fun r F1 => ((-2147483648) ≤ r.toInt ∧ r.toInt ≤ 2147483647) ∧ ((∀ b j : Nat, (tag b ≠ 46 ∨ j ≠ 0) → (tag b ≠ 46 ∨ j ≠ 1) → (tag b ≠ 46 ∨ j ≠ 2) → fld F1 b j = fld Fo b j) ∧ (∀ b j : Nat, elm F1 b j = elm Fo b j))) := by
  refine t_bodyi (y := yX13_way) (cd := cX13_way) (mL := 3) (rt := (some .int)) (rm := { frames := 5, cells := 0, slots := 0, locals := 113 }) (av := [.ref p0, .int p1, .int p2]) (by decide) (Nat.le_of_ble_eq_true rfl) ho ?_
  intro p e s m args below meth c ls A Q hQ X hT hl
  have hx := X.1.1
  have hb := X.1.2.1
  have hl : lv_has ls 3 [(0, .ref p0), (1, .int p1), (2, .int p2)] := hl
  have rp1 := rg_all p1
  have rp2 := rg_all p2
  obtain ⟨F, hFo⟩ : ∃ F : Nat → va_E, F = Fo := ⟨_, rfl⟩
  rw [← hFo] at hT pf0
  have hfr : (∀ b j : Nat, (tag b ≠ 46 ∨ j ≠ 0) → (tag b ≠ 46 ∨ j ≠ 1) → (tag b ≠ 46 ∨ j ≠ 2) → fld F b j = fld Fo b j) ∧ (∀ b j : Nat, elm F b j = elm Fo b j) := by
    rw [hFo]
    exact ⟨by intros; rfl, by intros; rfl⟩
  refine lv_aload_n hx hb dX13_way_0 rfl (lv_at hl 0 rfl) ?_
  refine lv_iconst (v := 0) hx hb dX13_way_1 (by decide) ?_
  refine t_put (C := RX13) (T := TX13) (N := 37) (v := .int 0) X hT m0 g0 rfl tyX13 tyX13_ok nmX13 rfl 0 (by decide) qw_140 inlX13 rfl (by first | rfl | decide) (by first | rfl | decide) rfl (⟨_, rfl, (show (-2147483648) ≤ (0 : Int32).toInt from (by decide)), (show (0 : Int32).toInt ≤ 2147483647 from (by decide))⟩) dX13_way_2 (fun F H locs hT v42292 h1v42292 h2v42292 => ?_)
  have pf0 := (h1v42292 _ _ (Or.inr (by decide))).trans pf0
  have hfr : (∀ b j : Nat, (tag b ≠ 46 ∨ j ≠ 0) → (tag b ≠ 46 ∨ j ≠ 1) → (tag b ≠ 46 ∨ j ≠ 2) → fld F b j = fld Fo b j) ∧ (∀ b j : Nat, elm F b j = elm Fo b j) := ⟨fun b j n46_0 n46_1 n46_2 => (h1v42292 b j (fr_ne g0 n46_0)).trans (hfr.1 b j n46_0 n46_1 n46_2), fun b j  => (h2v42292 b j).trans (hfr.2 b j )⟩
  refine lv_aload_n hx hb dX13_way_5 rfl (lv_at hl 0 rfl) ?_
  refine lv_iload_n hx hb dX13_way_6 rfl (lv_at hl 1 rfl) ?_
  refine lv_iload_n hx hb dX13_way_7 rfl (lv_at hl 2 rfl) ?_
  refine t_cVi (n := 2) (C := RX13) (T := TX13) (N := 37) (As := [.int p1, .int p2]) (rest := []) X hT (km127_X13_isDepth l G tag L F hT.2.2.2 p0 p1 p2 m0 g0 pf0) m0 g0 rfl rfl qw_865 qw_866 qw_867 qw_5 qw_868 ⟨rfl, by decide +kernel, by decide +kernel, by decide +kernel⟩ ⟨Nat.le_of_ble_eq_true rfl, Nat.le_of_ble_eq_true rfl⟩ hl rfl rfl (Nat.le_of_ble_eq_true rfl) dX13_way_8 ⟨Nat.le_of_ble_eq_true rfl, Nat.le_of_ble_eq_true rfl⟩ (fun z42293 F9 H locs hT hz42293 => ?_)
  obtain ⟨fz42293, hz42293⟩ := hz42293
  rw [fz42293] at hT
  refine lv_if_eq (tgt := 30) hx hb dX13_way_11 (by decide) (fun c42294 => ?_) (fun c42294 => ?_)
  · have w42295 := cv_eq (rfl : z42293.toInt = z42293.toInt) (by decide : (0 : Int32).toInt = 0) c42294
    refine lv_aload_n hx hb dX13_way_30 rfl (lv_at hl 0 rfl) ?_
    refine lv_iconst (v := 1) hx hb dX13_way_31 (by decide) ?_
    refine t_cVi (n := 1) (C := RX13) (T := TX13) (N := 37) (As := [.int 1]) (rest := []) X hT (km88_X13_refused l G tag L F hT.2.2.2 p0 1 m0 g0) m0 g0 rfl rfl qw_484 qw_485 qw_486 qw_5 qw_487 ⟨rfl, by decide +kernel, by decide +kernel, by decide +kernel⟩ ⟨Nat.le_of_ble_eq_true rfl, Nat.le_of_ble_eq_true rfl⟩ hl rfl rfl (Nat.le_of_ble_eq_true rfl) dX13_way_32 ⟨Nat.le_of_ble_eq_true rfl, Nat.le_of_ble_eq_true rfl⟩ (fun z42296 F H locs hT hz42296 => ?_)
    obtain ⟨hz42296, yz42296⟩ := hz42296
    have pf0 := (yz42296.1 _ 3 (Or.inr (by decide)) (Or.inr (by decide))).trans pf0
    have v42292 := (yz42296.1 _ 0 (Or.inr (by decide)) (Or.inr (by decide))).trans v42292
    have hfr : (∀ b j : Nat, (tag b ≠ 46 ∨ j ≠ 0) → (tag b ≠ 46 ∨ j ≠ 1) → (tag b ≠ 46 ∨ j ≠ 2) → fld F b j = fld Fo b j) ∧ (∀ b j : Nat, elm F b j = elm Fo b j) := ⟨fun b j n46_0 n46_1 n46_2 => (yz42296.1 b j n46_1 n46_2).trans (hfr.1 b j n46_0 n46_1 n46_2), fun b j  => (yz42296.2 b j ).trans (hfr.2 b j )⟩
    exact t_iret hQ X hT (⟨rg_all _, hfr⟩) (Nat.le_of_ble_eq_true rfl) (Nat.le_of_ble_eq_true rfl) dX13_way_35
  · have w42297 := cv_ne (rfl : z42293.toInt = z42293.toInt) (by decide : (0 : Int32).toInt = 0) c42294
    exfalso
    omega
theorem kp_X13_way (l : Launch) (G : KG) (tag : Nat → Nat) (L : List Nat) (Fo : Nat → va_E) (ho : okT G ttC tag L Fo) (p0 : Nat) (p1 : Int32) (p2 : Int32) (m0 : p0 ∈ L) (g0 : tag p0 = 46) : TMi l yX13_way cX13_way 3 (some .int) { frames := 5, cells := 0, slots := 0, locals := 113 } G ttC tag L Fo [.ref p0, .int p1, .int p2] (fun r F1 => ((-2147483648) ≤ r.toInt ∧ r.toInt ≤ 2147483647) ∧ ((∀ b j : Nat, (tag b ≠ 46 ∨ j ≠ 0) → (tag b ≠ 46 ∨ j ≠ 1) → (tag b ≠ 46 ∨ j ≠ 2) → fld F1 b j = fld Fo b j) ∧ (∀ b j : Nat, elm F1 b j = elm Fo b j))) := by
  rcases t_fldn ho m0 g0 rfl 3 rfl with h9 | ⟨b9, h9, m9, t9⟩
  · exact km159_X13_way l G tag L Fo ho p0 p1 p2  m0 g0 h9 
  · exact km158_X13_way l G tag L Fo ho p0 p1 p2 b9  m0 g0 m9 (tg_of t9) h9 
set_option maxHeartbeats 4000000 in
set_option maxRecDepth 100000 in
theorem km161_X13_least (l : Launch) (G : KG) (tag : Nat → Nat) (L : List Nat) (F : Nat → va_E) (ho : okT G ttC tag L F) (p0 : Int32) (p1 : Int32)  : TMi l yX13_least cX13_least 2 (some .int) { frames := 0, cells := 0, slots := 0, locals := 0 } G ttC tag L F [.int p0, .int p1] (fun r F1 => F1 = F ∧ ((-2147483648) ≤ r.toInt ∧ r.toInt ≤ 2147483647)) := by
  refine t_bodyi (y := yX13_least) (cd := cX13_least) (mL := 2) (rt := (some .int)) (rm := { frames := 0, cells := 0, slots := 0, locals := 0 }) (av := [.int p0, .int p1]) (by decide) (Nat.le_of_ble_eq_true rfl) ho ?_
  intro p e s m args below meth c ls A Q hQ X hT hl
  have hx := X.1.1
  have hb := X.1.2.1
  have hl : lv_has ls 2 [(0, .int p0), (1, .int p1)] := hl
  have rp0 := rg_all p0
  have rp1 := rg_all p1
  refine lv_iload_n hx hb dX13_least_0 rfl (lv_at hl 0 rfl) ?_
  refine lv_iload_n hx hb dX13_least_1 rfl (lv_at hl 1 rfl) ?_
  refine lv_icmp_ge (tgt := 9) hx hb dX13_least_2 (by decide) (fun c42382 => ?_) (fun c42382 => ?_)
  · have w42383 := cv_le (rfl : p1.toInt = p1.toInt) (rfl : p0.toInt = p0.toInt) c42382
    refine lv_iload_n hx hb dX13_least_9 rfl (lv_at hl 1 rfl) ?_
    exact t_iret hQ X hT (⟨rfl, rg_all _⟩) (Nat.le_of_ble_eq_true rfl) (Nat.le_of_ble_eq_true rfl) dX13_least_10
  · have w42384 := cv_nle (rfl : p1.toInt = p1.toInt) (rfl : p0.toInt = p0.toInt) c42382
    refine lv_iload_n hx hb dX13_least_5 rfl (lv_at hl 0 rfl) ?_
    refine lv_goto (tgt := 10) hx hb dX13_least_6 (by decide) ?_
    exact t_iret hQ X hT (⟨rfl, rg_all _⟩) (Nat.le_of_ble_eq_true rfl) (Nat.le_of_ble_eq_true rfl) dX13_least_10
set_option maxHeartbeats 4000000 in
set_option maxRecDepth 100000 in
theorem km162_X13_entry (l : Launch) (G : KG) (tag : Nat → Nat) (L : List Nat) (F : Nat → va_E) (ho : okT G ttC tag L F) (p0 : Nat) (p1 : Int32) (p2 : Int32) (p3 : Int32) (x0 : Nat) (m0 : p0 ∈ L) (g0 : tag p0 = 46) (h1 : 0 ≤ p1.toInt ∧ p1.toInt ≤ 3) (h2 : 1 ≤ p2.toInt ∧ p2.toInt ≤ 6) (h3 : 0 ≤ p3.toInt ∧ p3.toInt ≤ 1) (mx0 : x0 ∈ L) (gx0 : tag x0 = 45) (pf0 : fld F p0 3 = .ref x0) : TMi l yX13_entry cX13_entry 6 (some .int) { frames := 1, cells := 0, slots := 0, locals := 22 } G ttC tag L F [.ref p0, .int p1, .int p2, .int p3] (fun r F1 => F1 = F ∧ ((-2147483648) ≤ r.toInt ∧ r.toInt ≤ 2147483647)) := by
  refine t_bodyi (y := yX13_entry) (cd := cX13_entry) (mL := 6) (rt := (some .int)) (rm := { frames := 1, cells := 0, slots := 0, locals := 22 }) (av := [.ref p0, .int p1, .int p2, .int p3]) (by decide) (Nat.le_of_ble_eq_true rfl) ho ?_
  intro p e s m args below meth c ls A Q hQ X hT hl
  have hx := X.1.1
  have hb := X.1.2.1
  have hl : lv_has ls 6 [(0, .ref p0), (1, .int p1), (2, .int p2), (3, .int p3)] := hl
  have K104 : ∀ (z43117 : Int32) (z43118 : Int32) (z43119 : Int32) (H : Heap) (locs : List Loc) (ls : Array Slot), (1 ≤ z43118.toInt ∧ z43118.toInt ≤ 2147483647) → (100 ≤ z43119.toInt ∧ z43119.toInt ≤ 100) → TH G ttC A s tag L F H locs → lv_has ls 6 [(0, .ref p0), (1, .int p1), (2, .int p2), (3, .int p3), (4, .int z43117)] → W p l e { frames := 1, cells := 0, slots := 0, locals := 22 } s m args below meth c H locs 0 0 Q (F0 m 104 ls [.int z43118, .int z43119]) := by
    intro z43117 z43118 z43119 H locs ls rz43118 rz43119 hT hl
    have rz43117 := rg_all z43117
    refine lv_imul hx hb dX13_entry_104 ?_
    refine lv_topi (fun z43120 ez43120 => ?_)
    have rz43120 := rg_all z43120
    refine lv_iconst (v := 1) hx hb dX13_entry_105 (by decide) ?_
    refine lv_iadd hx hb dX13_entry_106 ?_
    refine lv_topi (fun z43121 ez43121 => ?_)
    have rz43121 := rg_all z43121
    refine lv_istore (lv' := [(5, .int z43121), (0, .ref p0), (1, .int p1), (2, .int p2), (3, .int p3), (4, .int z43117)]) hx hb dX13_entry_107 hl (by decide) rfl (fun ls hl => ?_)
    refine lv_iload_n hx hb dX13_entry_109 rfl (lv_at hl 4 rfl) ?_
    refine lv_if_eq (tgt := 137) hx hb dX13_entry_110 (by decide) (fun c43122 => ?_) (fun c43122 => ?_)
    · have w43123 := cv_eq (rfl : p3.toInt = p3.toInt) (by decide : (0 : Int32).toInt = 0) c43122
      refine lv_iload hx hb dX13_entry_137 (lv_at hl 0 rfl) ?_
      exact t_iret hQ X hT (⟨rfl, rg_all _⟩) (Nat.le_of_ble_eq_true rfl) (Nat.le_of_ble_eq_true rfl) dX13_entry_139
    · have w43124 := cv_ne (rfl : p3.toInt = p3.toInt) (by decide : (0 : Int32).toInt = 0) c43122
      refine lv_iload hx hb dX13_entry_113 (lv_at hl 0 rfl) ?_
      refine lv_bipush (v := 100) hx hb dX13_entry_115 (by decide) ?_
      refine lv_aload_n hx hb dX13_entry_117 rfl (lv_at hl 1 rfl) ?_
      refine t_get (C := RX13) (T := TX13) (N := 37) X hT m0 g0 rfl rfl 16 (by decide) qw_112 inlX13 rfl dX13_entry_118 (fun v43125 hv43125 ov43125 => ?_)
      obtain ⟨b43126, rfl, mb43126, gb43126⟩ := okV_r ov43125
      have gb43126 : tag b43126 = 37 := tg_of gb43126
      refine lv_iload_n hx hb dX13_entry_121 rfl (lv_at hl 2 rfl) ?_
      refine lv_iload_n hx hb dX13_entry_122 rfl (lv_at hl 3 rfl) ?_
      refine lv_iconst (v := 3) hx hb dX13_entry_123 (by decide) ?_
      refine t_cSi (n := 3) (As := [.int p1, .int p2, .int 3]) (rest := [.ref b43126, .int 100, .int z43121]) X hT (km49_X13_part l G tag L F hT.2.2.2 p1 p2 3 (by omega) (by omega) (by decide)) qw_661 qw_662 qw_5 qw_663 ⟨by decide +kernel, by decide +kernel, by decide +kernel⟩ ⟨Nat.le_of_ble_eq_true rfl, Nat.le_of_ble_eq_true rfl⟩ hl rfl rfl (Nat.le_of_ble_eq_true rfl) dX13_entry_124 ⟨Nat.le_of_ble_eq_true rfl, Nat.le_of_ble_eq_true rfl⟩ (fun z43127 F9 H locs hT hz43127 => ?_)
      obtain ⟨fz43127, hz43127, xz43127_0⟩ := hz43127
      rw [fz43127] at hT
      have k43128 : (3 : Int32).toInt = 3 := by decide
      refine t_ild X hT mb43126 gb43126 rfl (by omega) dX13_entry_127 (fun z43129 vz43129 rz43129 => ?_)
      have oz43129 := rz43129
      have rz43129 := rg_all z43129
      refine lv_iconst (v := 1) hx hb dX13_entry_128 (by decide) ?_
      refine lv_iadd hx hb dX13_entry_129 ?_
      refine lv_topi (fun z43130 ez43130 => ?_)
      have rz43130 := rg_all z43130
      refine lv_imul hx hb dX13_entry_130 ?_
      refine lv_topi (fun z43131 ez43131 => ?_)
      have rz43131 := rg_all z43131
      refine t_cSi (n := 2) (As := [.int z43121, .int z43131]) (rest := []) X hT (km161_X13_least l G tag L F hT.2.2.2 z43121 z43131 ) qw_1065 qw_1066 qw_5 qw_1067 ⟨by decide +kernel, by decide +kernel, by decide +kernel⟩ ⟨Nat.le_of_ble_eq_true rfl, Nat.le_of_ble_eq_true rfl⟩ hl rfl rfl (Nat.le_of_ble_eq_true rfl) dX13_entry_131 ⟨Nat.le_of_ble_eq_true rfl, Nat.le_of_ble_eq_true rfl⟩ (fun z43132 F9 H locs hT hz43132 => ?_)
      obtain ⟨fz43132, hz43132⟩ := hz43132
      rw [fz43132] at hT
      refine lv_goto (tgt := 139) hx hb dX13_entry_134 (by decide) ?_
      exact t_iret hQ X hT (⟨rfl, rg_all _⟩) (Nat.le_of_ble_eq_true rfl) (Nat.le_of_ble_eq_true rfl) dX13_entry_139
  refine lv_aload_n hx hb dX13_entry_0 rfl (lv_at hl 0 rfl) ?_
  refine t_get (C := RX13) (T := TX13) (N := 37) X hT m0 g0 rfl rfl 16 (by decide) qw_112 inlX13 rfl dX13_entry_1 (fun v43133 hv43133 ov43133 => ?_)
  obtain ⟨b43134, rfl, mb43134, gb43134⟩ := okV_r ov43133
  have gb43134 : tag b43134 = 37 := tg_of gb43134
  refine lv_iload_n hx hb dX13_entry_4 rfl (lv_at hl 1 rfl) ?_
  refine lv_iload_n hx hb dX13_entry_5 rfl (lv_at hl 2 rfl) ?_
  refine lv_iconst (v := 5) hx hb dX13_entry_6 (by decide) ?_
  refine t_cSi (n := 3) (As := [.int p1, .int p2, .int 5]) (rest := [.ref b43134]) X hT (km49_X13_part l G tag L F hT.2.2.2 p1 p2 5 (by omega) (by omega) (by decide)) qw_661 qw_662 qw_5 qw_663 ⟨by decide +kernel, by decide +kernel, by decide +kernel⟩ ⟨Nat.le_of_ble_eq_true rfl, Nat.le_of_ble_eq_true rfl⟩ hl rfl rfl (Nat.le_of_ble_eq_true rfl) dX13_entry_7 ⟨Nat.le_of_ble_eq_true rfl, Nat.le_of_ble_eq_true rfl⟩ (fun z43135 F9 H locs hT hz43135 => ?_)
  obtain ⟨fz43135, hz43135, xz43135_0⟩ := hz43135
  rw [fz43135] at hT
  have k43136 : (5 : Int32).toInt = 5 := by decide
  refine t_ild X hT mb43134 gb43134 rfl (by omega) dX13_entry_10 (fun z43137 vz43137 rz43137 => ?_)
  have oz43137 := rz43137
  have rz43137 := rg_all z43137
  refine lv_iconst (v := 1) hx hb dX13_entry_11 (by decide) ?_
  refine lv_icmp_ne (tgt := 27) hx hb dX13_entry_12 (by decide) (fun c43138 => ?_) (fun c43138 => ?_)
  · have w43139 := cv_ne (rfl : z43137.toInt = z43137.toInt) (by decide : (1 : Int32).toInt = 1) c43138
    refine lv_aload_n hx hb dX13_entry_27 rfl (lv_at hl 0 rfl) ?_
    refine t_get (C := RX13) (T := TX13) (N := 37) X hT m0 g0 rfl rfl 16 (by decide) qw_112 inlX13 rfl dX13_entry_28 (fun v43140 hv43140 ov43140 => ?_)
    obtain rfl : v43140 = .ref b43134 := hv43140.symm.trans hv43133
    refine lv_iload_n hx hb dX13_entry_31 rfl (lv_at hl 1 rfl) ?_
    refine lv_iload_n hx hb dX13_entry_32 rfl (lv_at hl 2 rfl) ?_
    refine lv_bipush (v := 6) hx hb dX13_entry_33 (by decide) ?_
    refine t_cSi (n := 3) (As := [.int p1, .int p2, .int 6]) (rest := [.ref b43134]) X hT (km49_X13_part l G tag L F hT.2.2.2 p1 p2 6 (by omega) (by omega) (by decide)) qw_661 qw_662 qw_5 qw_663 ⟨by decide +kernel, by decide +kernel, by decide +kernel⟩ ⟨Nat.le_of_ble_eq_true rfl, Nat.le_of_ble_eq_true rfl⟩ hl rfl rfl (Nat.le_of_ble_eq_true rfl) dX13_entry_35 ⟨Nat.le_of_ble_eq_true rfl, Nat.le_of_ble_eq_true rfl⟩ (fun z43141 F9 H locs hT hz43141 => ?_)
    obtain ⟨fz43141, hz43141, xz43141_0⟩ := hz43141
    rw [fz43141] at hT
    have k43142 : (6 : Int32).toInt = 6 := by decide
    refine t_ild X hT mb43134 gb43134 rfl (by omega) dX13_entry_38 (fun z43143 vz43143 rz43143 => ?_)
    have oz43143 := rz43143
    have rz43143 := rg_all z43143
    refine lv_iconst (v := 1) hx hb dX13_entry_39 (by decide) ?_
    refine lv_icmp_ne (tgt := 57) hx hb dX13_entry_40 (by decide) (fun c43144 => ?_) (fun c43144 => ?_)
    · have w43145 := cv_ne (rfl : z43143.toInt = z43143.toInt) (by decide : (1 : Int32).toInt = 1) c43144
      refine lv_aload_n hx hb dX13_entry_57 rfl (lv_at hl 0 rfl) ?_
      refine t_get (C := RX13) (T := TX13) (N := 37) X hT m0 g0 rfl rfl 3 (by decide) qw_481 inlX13 rfl dX13_entry_58 (fun v43146 hv43146 ov43146 => ?_)
      obtain rfl : v43146 = .ref x0 := hv43146.symm.trans pf0
      refine t_getN (C := RX12) (T := TX12) (N := 31) X hT mx0 gx0 rfl rfl 20 (by decide) (List.mem_of_getElem? (i := 24) rfl) inlX12 rfl dX13_entry_61 (fun v43147 hv43147 ov43147 => ?_)
      obtain ⟨b43148, rfl, mb43148, gb43148⟩ := okV_r ov43147
      have gb43148 : tag b43148 = 29 := tg_of gb43148
      refine lv_aload_n hx hb dX13_entry_64 rfl (lv_at hl 0 rfl) ?_
      refine t_get (C := RX13) (T := TX13) (N := 37) X hT m0 g0 rfl rfl 16 (by decide) qw_112 inlX13 rfl dX13_entry_65 (fun v43149 hv43149 ov43149 => ?_)
      obtain rfl : v43149 = .ref b43134 := hv43149.symm.trans hv43133
      refine lv_iload_n hx hb dX13_entry_68 rfl (lv_at hl 1 rfl) ?_
      refine lv_iload_n hx hb dX13_entry_69 rfl (lv_at hl 2 rfl) ?_
      refine lv_iconst (v := 0) hx hb dX13_entry_70 (by decide) ?_
      refine t_cSi (n := 3) (As := [.int p1, .int p2, .int 0]) (rest := [.ref b43134, .ref b43148]) X hT (km49_X13_part l G tag L F hT.2.2.2 p1 p2 0 (by omega) (by omega) (by decide)) qw_661 qw_662 qw_5 qw_663 ⟨by decide +kernel, by decide +kernel, by decide +kernel⟩ ⟨Nat.le_of_ble_eq_true rfl, Nat.le_of_ble_eq_true rfl⟩ hl rfl rfl (Nat.le_of_ble_eq_true rfl) dX13_entry_71 ⟨Nat.le_of_ble_eq_true rfl, Nat.le_of_ble_eq_true rfl⟩ (fun z43150 F9 H locs hT hz43150 => ?_)
      obtain ⟨fz43150, hz43150, xz43150_0⟩ := hz43150
      rw [fz43150] at hT
      have k43151 : (0 : Int32).toInt = 0 := by decide
      refine t_ild X hT mb43134 gb43134 rfl (by omega) dX13_entry_74 (fun z43152 vz43152 rz43152 => ?_)
      have rz43152 := row_sl (by omega) (by omega) rz43152
      refine t_ild X hT mb43148 gb43148 rfl (by omega) dX13_entry_75 (fun z43153 vz43153 rz43153 => ?_)
      have rz43153 : (-2147483648) ≤ z43153.toInt ∧ z43153.toInt ≤ 2147483647 := rz43153
      refine lv_aload_n hx hb dX13_entry_76 rfl (lv_at hl 0 rfl) ?_
      refine t_get (C := RX13) (T := TX13) (N := 37) X hT m0 g0 rfl rfl 16 (by decide) qw_112 inlX13 rfl dX13_entry_77 (fun v43154 hv43154 ov43154 => ?_)
      obtain rfl : v43154 = .ref b43134 := hv43154.symm.trans hv43133
      refine lv_iload_n hx hb dX13_entry_80 rfl (lv_at hl 1 rfl) ?_
      refine lv_iload_n hx hb dX13_entry_81 rfl (lv_at hl 2 rfl) ?_
      refine lv_iconst (v := 4) hx hb dX13_entry_82 (by decide) ?_
      refine t_cSi (n := 3) (As := [.int p1, .int p2, .int 4]) (rest := [.ref b43134, .int z43153]) X hT (km49_X13_part l G tag L F hT.2.2.2 p1 p2 4 (by omega) (by omega) (by decide)) qw_661 qw_662 qw_5 qw_663 ⟨by decide +kernel, by decide +kernel, by decide +kernel⟩ ⟨Nat.le_of_ble_eq_true rfl, Nat.le_of_ble_eq_true rfl⟩ hl rfl rfl (Nat.le_of_ble_eq_true rfl) dX13_entry_83 ⟨Nat.le_of_ble_eq_true rfl, Nat.le_of_ble_eq_true rfl⟩ (fun z43155 F9 H locs hT hz43155 => ?_)
      obtain ⟨fz43155, hz43155, xz43155_0⟩ := hz43155
      rw [fz43155] at hT
      have k43156 : (4 : Int32).toInt = 4 := by decide
      refine t_ild X hT mb43134 gb43134 rfl (by omega) dX13_entry_86 (fun z43157 vz43157 rz43157 => ?_)
      have oz43157 := rz43157
      have rz43157 := rg_all z43157
      refine lv_isub hx hb dX13_entry_87 ?_
      refine lv_topi (fun z43158 ez43158 => ?_)
      have rz43158 := rg_all z43158
      refine lv_istore (lv' := [(4, .int z43158), (0, .ref p0), (1, .int p1), (2, .int p2), (3, .int p3)]) hx hb dX13_entry_88 hl (by decide) rfl (fun ls hl => ?_)
      refine lv_bipush (v := 100) hx hb dX13_entry_90 (by decide) ?_
      refine lv_iload hx hb dX13_entry_92 (lv_at hl 0 rfl) ?_
      refine lv_iconst (v := 1) hx hb dX13_entry_94 (by decide) ?_
      refine lv_icmp_le (tgt := 103) hx hb dX13_entry_95 (by decide) (fun c43159 => ?_) (fun c43159 => ?_)
      · have w43160 := cv_le (rfl : z43158.toInt = z43158.toInt) (by decide : (1 : Int32).toInt = 1) c43159
        refine lv_iconst (v := 1) hx hb dX13_entry_103 (by decide) ?_
        have k43161 : (1 : Int32).toInt = 1 := by decide
        have k43162 : (100 : Int32).toInt = 100 := by decide
        exact K104 z43158 1 100 _ _ _ (by decide) (by decide) hT  (lv_sub hl [1, 2, 3, 4, 0] rfl)
      · have w43163 := cv_nle (rfl : z43158.toInt = z43158.toInt) (by decide : (1 : Int32).toInt = 1) c43159
        refine lv_iload hx hb dX13_entry_98 (lv_at hl 0 rfl) ?_
        refine lv_goto (tgt := 104) hx hb dX13_entry_100 (by decide) ?_
        have k43164 : (100 : Int32).toInt = 100 := by decide
        exact K104 z43158 z43158 100 _ _ _ (by omega) (by decide) hT  (lv_sub hl [1, 2, 3, 4, 0] rfl)
    · have w43165 := cv_eq (rfl : z43143.toInt = z43143.toInt) (by decide : (1 : Int32).toInt = 1) c43144
      refine lv_iload_n hx hb dX13_entry_43 rfl (lv_at hl 3 rfl) ?_
      refine lv_if_eq (tgt := 53) hx hb dX13_entry_44 (by decide) (fun c43166 => ?_) (fun c43166 => ?_)
      · have w43167 := cv_eq (rfl : p3.toInt = p3.toInt) (by decide : (0 : Int32).toInt = 0) c43166
        refine lv_sipush (v := 2001) hx hb dX13_entry_53 (by decide) ?_
        have k43168 : (2001 : Int32).toInt = 2001 := by decide
        exact t_iret hQ X hT (⟨rfl, rg_all _⟩) (Nat.le_of_ble_eq_true rfl) (Nat.le_of_ble_eq_true rfl) dX13_entry_56
      · have w43169 := cv_ne (rfl : p3.toInt = p3.toInt) (by decide : (0 : Int32).toInt = 0) c43166
        refine lv_sipush (v := 2000) hx hb dX13_entry_47 (by decide) ?_
        refine lv_goto (tgt := 56) hx hb dX13_entry_50 (by decide) ?_
        have k43170 : (2000 : Int32).toInt = 2000 := by decide
        exact t_iret hQ X hT (⟨rfl, rg_all _⟩) (Nat.le_of_ble_eq_true rfl) (Nat.le_of_ble_eq_true rfl) dX13_entry_56
  · have w43171 := cv_eq (rfl : z43137.toInt = z43137.toInt) (by decide : (1 : Int32).toInt = 1) c43138
    refine lv_iload_n hx hb dX13_entry_15 rfl (lv_at hl 3 rfl) ?_
    refine lv_if_eq (tgt := 24) hx hb dX13_entry_16 (by decide) (fun c43172 => ?_) (fun c43172 => ?_)
    · have w43173 := cv_eq (rfl : p3.toInt = p3.toInt) (by decide : (0 : Int32).toInt = 0) c43172
      refine lv_bipush (v := 101) hx hb dX13_entry_24 (by decide) ?_
      have k43174 : (101 : Int32).toInt = 101 := by decide
      exact t_iret hQ X hT (⟨rfl, rg_all _⟩) (Nat.le_of_ble_eq_true rfl) (Nat.le_of_ble_eq_true rfl) dX13_entry_26
    · have w43175 := cv_ne (rfl : p3.toInt = p3.toInt) (by decide : (0 : Int32).toInt = 0) c43172
      refine lv_bipush (v := 100) hx hb dX13_entry_19 (by decide) ?_
      refine lv_goto (tgt := 26) hx hb dX13_entry_21 (by decide) ?_
      have k43176 : (100 : Int32).toInt = 100 := by decide
      exact t_iret hQ X hT (⟨rfl, rg_all _⟩) (Nat.le_of_ble_eq_true rfl) (Nat.le_of_ble_eq_true rfl) dX13_entry_26
set_option maxHeartbeats 4000000 in
set_option maxRecDepth 100000 in
theorem km163_X13_inFront (l : Launch) (G : KG) (tag : Nat → Nat) (L : List Nat) (F : Nat → va_E) (ho : okT G ttC tag L F) (p0 : Int32) (p1 : Int32) (h0 : 1 ≤ p0.toInt ∧ p0.toInt ≤ 5) (h1 : 0 ≤ p1.toInt ∧ p1.toInt ≤ 39) (xh0 : p1.toInt < 8 * p0.toInt) : TMi l yX13_inFront cX13_inFront 2 (some .int) { frames := 0, cells := 0, slots := 0, locals := 0 } G ttC tag L F [.int p0, .int p1] (fun r F1 => F1 = F ∧ (1 ≤ r.toInt ∧ r.toInt ≤ 46)) := by
  refine t_bodyi (y := yX13_inFront) (cd := cX13_inFront) (mL := 2) (rt := (some .int)) (rm := { frames := 0, cells := 0, slots := 0, locals := 0 }) (av := [.int p0, .int p1]) (by decide) (Nat.le_of_ble_eq_true rfl) ho ?_
  intro p e s m args below meth c ls A Q hQ X hT hl
  have hx := X.1.1
  have hb := X.1.2.1
  have hl : lv_has ls 2 [(0, .int p0), (1, .int p1)] := hl
  refine lv_iload_n hx hb dX13_inFront_0 rfl (lv_at hl 1 rfl) ?_
  refine lv_iconst (v := 1) hx hb dX13_inFront_1 (by decide) ?_
  refine lv_iadd hx hb dX13_inFront_2 ?_
  refine lv_topi (fun z43239 ez43239 => ?_)
  have hz43239 : z43239.toInt = p1.toInt + 1 := ar_add ez43239 (rfl : p1.toInt = p1.toInt) (by decide : (1 : Int32).toInt = 1) (by omega) (by omega)
  have rz43239 : 1 ≤ z43239.toInt ∧ z43239.toInt ≤ 40 := by omega
  refine lv_iconst (v := 2) hx hb dX13_inFront_3 (by decide) ?_
  refine lv_iload_n hx hb dX13_inFront_4 rfl (lv_at hl 1 rfl) ?_
  refine lv_iconst (v := 2) hx hb dX13_inFront_5 (by decide) ?_
  refine lv_iload_n hx hb dX13_inFront_6 rfl (lv_at hl 0 rfl) ?_
  refine lv_imul hx hb dX13_inFront_7 ?_
  refine lv_topi (fun z43240 ez43240 => ?_)
  have hz43240 : z43240.toInt = 2 * p0.toInt := ar_mul ez43240 (by decide : (2 : Int32).toInt = 2) (rfl : p0.toInt = p0.toInt) (by omega) (by omega)
  have rz43240 : 2 ≤ z43240.toInt ∧ z43240.toInt ≤ 10 := by omega
  refine lv_idiv hx hb dX13_inFront_8 (ne0_of (by omega)) ?_
  refine lv_topi (fun z43241 ez43241 => ?_)
  have rz43241 := ar_div8 ez43241 (by omega) (by omega) (by omega)
  refine lv_imul hx hb dX13_inFront_9 ?_
  refine lv_topi (fun z43242 ez43242 => ?_)
  have hz43242 : z43242.toInt = 2 * z43241.toInt := ar_mul ez43242 (by decide : (2 : Int32).toInt = 2) (rfl : z43241.toInt = z43241.toInt) (by omega) (by omega)
  have rz43242 : 0 ≤ z43242.toInt ∧ z43242.toInt ≤ 6 := by omega
  refine lv_iadd hx hb dX13_inFront_10 ?_
  refine lv_topi (fun z43243 ez43243 => ?_)
  have hz43243 : z43243.toInt = z43239.toInt + z43242.toInt := ar_add ez43243 (rfl : z43239.toInt = z43239.toInt) (rfl : z43242.toInt = z43242.toInt) (by omega) (by omega)
  have rz43243 : 1 ≤ z43243.toInt ∧ z43243.toInt ≤ 46 := by omega
  exact t_iret hQ X hT (⟨rfl, (by omega)⟩) (Nat.le_of_ble_eq_true rfl) (Nat.le_of_ble_eq_true rfl) dX13_inFront_11
set_option maxHeartbeats 4000000 in
set_option maxRecDepth 100000 in
theorem km164_X13_throughTo (l : Launch) (G : KG) (tag : Nat → Nat) (L : List Nat) (Fo : Nat → va_E) (ho : okT G ttC tag L Fo) (p0 : Nat) (p1 : Int32) (p2 : Int32) (x0 : Nat) (m0 : p0 ∈ L) (g0 : tag p0 = 46) (h1 : 0 ≤ p1.toInt ∧ p1.toInt ≤ 3) (h2 : 0 ≤ p2.toInt ∧ p2.toInt ≤ 6) (mx0 : x0 ∈ L) (gx0 : tag x0 = 45) (pf0 : fld Fo p0 3 = .ref x0) : TMi l yX13_throughTo cX13_throughTo 9 (some .int) { frames := 2, cells := 0, slots := 0, locals := 47 } G ttC tag L Fo [.ref p0, .int p1, .int p2] (fun r F1 => ((-2147483648) ≤ r.toInt ∧ r.toInt ≤ 2147483647) ∧ ((∀ b j : Nat, fld F1 b j = fld Fo b j) ∧ (∀ b j : Nat, tag b ≠ 42 → elm F1 b j = elm Fo b j))) := by
  refine t_bodyi (y := yX13_throughTo) (cd := cX13_throughTo) (mL := 9) (rt := (some .int)) (rm := { frames := 2, cells := 0, slots := 0, locals := 47 }) (av := [.ref p0, .int p1, .int p2]) (by decide) (Nat.le_of_ble_eq_true rfl) ho ?_
  intro p e s m args below meth c ls A Q hQ X hT hl
  have hx := X.1.1
  have hb := X.1.2.1
  have hl : lv_has ls 9 [(0, .ref p0), (1, .int p1), (2, .int p2)] := hl
  obtain ⟨F, hFo⟩ : ∃ F : Nat → va_E, F = Fo := ⟨_, rfl⟩
  rw [← hFo] at hT pf0
  have hfr : (∀ b j : Nat, fld F b j = fld Fo b j) ∧ (∀ b j : Nat, tag b ≠ 42 → elm F b j = elm Fo b j) := by
    rw [hFo]
    exact ⟨by intros; rfl, by intros; rfl⟩
  have K270 : ∀ (n : Nat) (z47095 : Int32) (z47096 : Int32) (z47097 : Int32) (z47098 : Int32) (F : Nat → va_E) (H : Heap) (locs : List Loc) (ls : Array Slot), (48 - z47098.toInt < (n : Int)) → (1 ≤ z47095.toInt ∧ z47095.toInt ≤ 6) → (1 ≤ z47096.toInt ∧ z47096.toInt ≤ 6) → (0 ≤ z47098.toInt ∧ z47098.toInt ≤ 48) → TH G ttC A s tag L F H locs → ((∀ b j : Nat, fld F b j = fld Fo b j) ∧ (∀ b j : Nat, tag b ≠ 42 → elm F b j = elm Fo b j)) → (fld F p0 3 = .ref x0) → lv_has ls 9 [(0, .ref p0), (1, .int p1), (2, .int p2), (3, .int z47095), (4, .int z47096), (5, .int z47097), (6, .int z47098)] → W p l e { frames := 2, cells := 0, slots := 0, locals := 47 } s m args below meth c H locs 0 0 Q (F0 m 270 ls []) := by
    intro n
    induction n with
    | zero =>
      intro z47095 z47096 z47097 z47098 F H locs ls hn rz47095 rz47096 rz47098 hT hfr pf0 hl
      have rz47097 := rg_all z47097
      exfalso
      omega
    | succ n ih270 =>
      intro z47095 z47096 z47097 z47098 F H locs ls hn rz47095 rz47096 rz47098 hT hfr pf0 hl
      have rz47097 := rg_all z47097
      refine lv_iload hx hb dX13_throughTo_270 (lv_at hl 6 rfl) ?_
      refine lv_bipush (v := 8) hx hb dX13_throughTo_272 (by decide) ?_
      refine lv_iload hx hb dX13_throughTo_274 (lv_at hl 4 rfl) ?_
      refine lv_imul hx hb dX13_throughTo_276 ?_
      refine lv_topi (fun z47099 ez47099 => ?_)
      have hz47099 : z47099.toInt = 8 * z47096.toInt := ar_mul ez47099 (by decide : (8 : Int32).toInt = 8) (rfl : z47096.toInt = z47096.toInt) (by omega) (by omega)
      have rz47099 : 8 ≤ z47099.toInt ∧ z47099.toInt ≤ 48 := by omega
      refine lv_icmp_ge (tgt := 300) hx hb dX13_throughTo_277 (by decide) (fun c47100 => ?_) (fun c47100 => ?_)
      · have w47101 := cv_le (rfl : z47099.toInt = z47099.toInt) (rfl : z47098.toInt = z47098.toInt) c47100
        refine lv_iload_n hx hb dX13_throughTo_300 rfl (lv_at hl 2 rfl) ?_
        refine lv_if_le (tgt := 309) hx hb dX13_throughTo_301 (by decide) (fun c47102 => ?_) (fun c47102 => ?_)
        · have w47103 := cv_le (rfl : p2.toInt = p2.toInt) (by decide : (0 : Int32).toInt = 0) c47102
          refine lv_iload hx hb dX13_throughTo_309 (lv_at hl 5 rfl) ?_
          refine lv_bipush (v := 100) hx hb dX13_throughTo_311 (by decide) ?_
          refine lv_iadd hx hb dX13_throughTo_313 ?_
          refine lv_topi (fun z47104 ez47104 => ?_)
          have rz47104 := rg_all z47104
          exact t_iret hQ X hT (⟨rg_all _, hfr⟩) (Nat.le_of_ble_eq_true rfl) (Nat.le_of_ble_eq_true rfl) dX13_throughTo_314
        · have w47105 := cv_nle (rfl : p2.toInt = p2.toInt) (by decide : (0 : Int32).toInt = 0) c47102
          refine lv_iload hx hb dX13_throughTo_304 (lv_at hl 5 rfl) ?_
          refine lv_goto (tgt := 314) hx hb dX13_throughTo_306 (by decide) ?_
          exact t_iret hQ X hT (⟨rg_all _, hfr⟩) (Nat.le_of_ble_eq_true rfl) (Nat.le_of_ble_eq_true rfl) dX13_throughTo_314
      · have w47106 := cv_nle (rfl : z47099.toInt = z47099.toInt) (rfl : z47098.toInt = z47098.toInt) c47100
        refine lv_iload hx hb dX13_throughTo_280 (lv_at hl 5 rfl) ?_
        refine lv_aload_n hx hb dX13_throughTo_282 rfl (lv_at hl 0 rfl) ?_
        refine t_get (C := RX13) (T := TX13) (N := 37) X hT m0 g0 rfl rfl 26 (by decide) qw_118 inlX13 rfl dX13_throughTo_283 (fun v47107 hv47107 ov47107 => ?_)
        obtain ⟨b47108, rfl, mb47108, gb47108⟩ := okV_r ov47107
        have gb47108 : tag b47108 = 42 := tg_of gb47108
        refine lv_iload hx hb dX13_throughTo_286 (lv_at hl 6 rfl) ?_
        refine t_ild X hT mb47108 gb47108 rfl (by omega) dX13_throughTo_288 (fun z47109 vz47109 rz47109 => ?_)
        have rz47109 : (-2147483648) ≤ z47109.toInt ∧ z47109.toInt ≤ 2147483647 := rz47109
        refine t_cSi (n := 2) (As := [.int z47097, .int z47109]) (rest := []) X hT (km161_X13_least l G tag L F hT.2.2.2 z47097 z47109 ) qw_1065 qw_1066 qw_5 qw_1067 ⟨by decide +kernel, by decide +kernel, by decide +kernel⟩ ⟨Nat.le_of_ble_eq_true rfl, Nat.le_of_ble_eq_true rfl⟩ hl rfl rfl (Nat.le_of_ble_eq_true rfl) dX13_throughTo_289 ⟨Nat.le_of_ble_eq_true rfl, Nat.le_of_ble_eq_true rfl⟩ (fun z47110 F9 H locs hT hz47110 => ?_)
        obtain ⟨fz47110, hz47110⟩ := hz47110
        rw [fz47110] at hT
        refine lv_istore (lv' := [(5, .int z47110), (0, .ref p0), (1, .int p1), (2, .int p2), (3, .int z47095), (4, .int z47096), (6, .int z47098)]) hx hb dX13_throughTo_292 hl (by decide) rfl (fun ls hl => ?_)
        obtain ⟨z47111, ez47111⟩ : ∃ y : Int32, y = z47098 + 1 := ⟨_, rfl⟩
        have hz47111 : z47111.toInt = z47098.toInt + 1 := ar_add ez47111 rfl (by decide : (1 : Int32).toInt = 1) (by omega) (by omega)
        refine lv_iinc (v := z47111) (lv' := [(6, .int z47111), (5, .int z47110), (0, .ref p0), (1, .int p1), (2, .int p2), (3, .int z47095), (4, .int z47096)]) hx hb dX13_throughTo_294 hl (k := 6) rfl (by rw [ez47111]; rfl) (by decide) rfl (fun ls hl => ?_)
        refine lv_goto (tgt := 270) hx hb dX13_throughTo_297 (by decide) ?_
        exact ih270 z47095 z47096 z47110 z47111 _ _ _ _ (by omega) (by omega) (by omega) (by omega) hT hfr pf0 (lv_sub hl [2, 3, 4, 5, 6, 1, 0] rfl)
  have K29 : ∀ (n : Nat) (z47112 : Int32) (z47113 : Int32) (z47114 : Int32) (F : Nat → va_E) (H : Heap) (locs : List Loc) (ls : Array Slot), (z47114.toInt - 0 < (n : Int)) → (1 ≤ z47112.toInt ∧ z47112.toInt ≤ 6) → (1 ≤ z47113.toInt ∧ z47113.toInt ≤ 6) → (0 ≤ z47114.toInt ∧ z47114.toInt ≤ 6) → TH G ttC A s tag L F H locs → ((∀ b j : Nat, fld F b j = fld Fo b j) ∧ (∀ b j : Nat, tag b ≠ 42 → elm F b j = elm Fo b j)) → (fld F p0 3 = .ref x0) → (z47114.toInt ≤ z47112.toInt) → lv_has ls 9 [(0, .ref p0), (1, .int p1), (2, .int p2), (3, .int z47112), (4, .int z47113), (5, .int z47114)] → W p l e { frames := 2, cells := 0, slots := 0, locals := 47 } s m args below meth c H locs 0 0 Q (F0 m 29 ls []) := by
    intro n
    induction n with
    | zero =>
      intro z47112 z47113 z47114 F H locs ls hn rz47112 rz47113 rz47114 hT hfr pf0 ex29_0 hl
      exfalso
      omega
    | succ n ih29 =>
      intro z47112 z47113 z47114 F H locs ls hn rz47112 rz47113 rz47114 hT hfr pf0 ex29_0 hl
      have K174 : ∀ (n : Nat) (z47116 : Int32) (z47117 : Int32) (F : Nat → va_E) (H : Heap) (locs : List Loc) (ls : Array Slot), (48 - z47117.toInt < (n : Int)) → (0 ≤ z47117.toInt ∧ z47117.toInt ≤ 48) → (1 ≤ z47114.toInt ∧ z47114.toInt ≤ 6) → TH G ttC A s tag L F H locs → ((∀ b j : Nat, fld F b j = fld Fo b j) ∧ (∀ b j : Nat, tag b ≠ 42 → elm F b j = elm Fo b j)) → (fld F p0 3 = .ref x0) → (z47114.toInt ≤ z47112.toInt) → lv_has ls 9 [(0, .ref p0), (1, .int p1), (2, .int p2), (3, .int z47112), (4, .int z47113), (5, .int z47114), (6, .int z47116), (7, .int z47117)] → W p l e { frames := 2, cells := 0, slots := 0, locals := 47 } s m args below meth c H locs 0 0 Q (F0 m 174 ls []) := by
        intro n
        induction n with
        | zero =>
          intro z47116 z47117 F H locs ls hn rz47117 r9s47115 hT hfr pf0 ex174_0 hl
          have rz47116 := rg_all z47116
          exfalso
          omega
        | succ n ih174 =>
          intro z47116 z47117 F H locs ls hn rz47117 r9s47115 hT hfr pf0 ex174_0 hl
          have rz47116 := rg_all z47116
          have K197 : ∀ (n : Nat) (z47119 : Int32) (F : Nat → va_E) (H : Heap) (locs : List Loc) (ls : Array Slot), (48 - z47119.toInt < (n : Int)) → (0 ≤ z47119.toInt ∧ z47119.toInt ≤ 48) → (0 ≤ z47117.toInt ∧ z47117.toInt ≤ 47) → TH G ttC A s tag L F H locs → ((∀ b j : Nat, fld F b j = fld Fo b j) ∧ (∀ b j : Nat, tag b ≠ 42 → elm F b j = elm Fo b j)) → (fld F p0 3 = .ref x0) → (z47114.toInt ≤ z47112.toInt) → lv_has ls 9 [(0, .ref p0), (1, .int p1), (2, .int p2), (3, .int z47112), (4, .int z47113), (5, .int z47114), (6, .int z47116), (7, .int z47117), (8, .int z47119)] → W p l e { frames := 2, cells := 0, slots := 0, locals := 47 } s m args below meth c H locs 0 0 Q (F0 m 197 ls []) := by
            intro n
            induction n with
            | zero =>
              intro z47119 F H locs ls hn rz47119 r9s47118 hT hfr pf0 ex197_0 hl
              exfalso
              omega
            | succ n ih197 =>
              intro z47119 F H locs ls hn rz47119 r9s47118 hT hfr pf0 ex197_0 hl
              refine lv_iload hx hb dX13_throughTo_197 (lv_at hl 8 rfl) ?_
              refine lv_bipush (v := 8) hx hb dX13_throughTo_199 (by decide) ?_
              refine lv_iload hx hb dX13_throughTo_201 (lv_at hl 5 rfl) ?_
              refine lv_imul hx hb dX13_throughTo_203 ?_
              refine lv_topi (fun z47120 ez47120 => ?_)
              have hz47120 : z47120.toInt = 8 * z47114.toInt := ar_mul ez47120 (by decide : (8 : Int32).toInt = 8) (rfl : z47114.toInt = z47114.toInt) (by omega) (by omega)
              have rz47120 : 8 ≤ z47120.toInt ∧ z47120.toInt ≤ 48 := by omega
              refine lv_icmp_ge (tgt := 250) hx hb dX13_throughTo_204 (by decide) (fun c47121 => ?_) (fun c47121 => ?_)
              · have w47122 := cv_le (rfl : z47120.toInt = z47120.toInt) (rfl : z47119.toInt = z47119.toInt) c47121
                obtain ⟨z47123, ez47123⟩ : ∃ y : Int32, y = z47117 + 1 := ⟨_, rfl⟩
                have hz47123 : z47123.toInt = z47117.toInt + 1 := ar_add ez47123 rfl (by decide : (1 : Int32).toInt = 1) (by omega) (by omega)
                refine lv_iinc (v := z47123) (lv' := [(7, .int z47123), (0, .ref p0), (1, .int p1), (2, .int p2), (3, .int z47112), (4, .int z47113), (5, .int z47114), (6, .int z47116), (8, .int z47119)]) hx hb dX13_throughTo_250 hl (k := 7) rfl (by rw [ez47123]; rfl) (by decide) rfl (fun ls hl => ?_)
                refine lv_goto (tgt := 174) hx hb dX13_throughTo_253 (by decide) ?_
                exact ih174 z47116 z47123 _ _ _ _ (by omega) (by omega) (by omega) hT hfr pf0 (by omega) (lv_sub hl [1, 2, 3, 4, 5, 6, 7, 0] rfl)
              · have w47124 := cv_nle (rfl : z47120.toInt = z47120.toInt) (rfl : z47119.toInt = z47119.toInt) c47121
                refine lv_aload_n hx hb dX13_throughTo_207 rfl (lv_at hl 0 rfl) ?_
                refine t_get (C := RX13) (T := TX13) (N := 37) X hT m0 g0 rfl rfl 26 (by decide) qw_118 inlX13 rfl dX13_throughTo_208 (fun v47125 hv47125 ov47125 => ?_)
                obtain ⟨b47126, rfl, mb47126, gb47126⟩ := okV_r ov47125
                have gb47126 : tag b47126 = 42 := tg_of gb47126
                refine lv_iload hx hb dX13_throughTo_211 (lv_at hl 7 rfl) ?_
                refine lv_aload_n hx hb dX13_throughTo_213 rfl (lv_at hl 0 rfl) ?_
                refine t_get (C := RX13) (T := TX13) (N := 37) X hT m0 g0 rfl rfl 26 (by decide) qw_118 inlX13 rfl dX13_throughTo_214 (fun v47127 hv47127 ov47127 => ?_)
                obtain rfl : v47127 = .ref b47126 := hv47127.symm.trans hv47125
                refine lv_iload hx hb dX13_throughTo_217 (lv_at hl 7 rfl) ?_
                refine t_ild X hT mb47126 gb47126 rfl (by omega) dX13_throughTo_219 (fun z47128 vz47128 rz47128 => ?_)
                have rz47128 : (-2147483648) ≤ z47128.toInt ∧ z47128.toInt ≤ 2147483647 := rz47128
                refine lv_aload_n hx hb dX13_throughTo_220 rfl (lv_at hl 0 rfl) ?_
                refine t_get (C := RX13) (T := TX13) (N := 37) X hT m0 g0 rfl rfl 27 (by decide) qw_119 inlX13 rfl dX13_throughTo_221 (fun v47129 hv47129 ov47129 => ?_)
                obtain ⟨b47130, rfl, mb47130, gb47130⟩ := okV_r ov47129
                have gb47130 : tag b47130 = 42 := tg_of gb47130
                refine lv_iload hx hb dX13_throughTo_224 (lv_at hl 8 rfl) ?_
                refine t_ild X hT mb47130 gb47130 rfl (by omega) dX13_throughTo_226 (fun z47131 vz47131 rz47131 => ?_)
                have rz47131 : (-2147483648) ≤ z47131.toInt ∧ z47131.toInt ≤ 2147483647 := rz47131
                refine lv_bipush (v := 100) hx hb dX13_throughTo_227 (by decide) ?_
                refine lv_iload hx hb dX13_throughTo_229 (lv_at hl 5 rfl) ?_
                refine lv_iload hx hb dX13_throughTo_231 (lv_at hl 7 rfl) ?_
                refine lv_iload hx hb dX13_throughTo_233 (lv_at hl 8 rfl) ?_
                refine t_cSi (n := 3) (As := [.int z47114, .int z47117, .int z47119]) (rest := [.int 100, .int z47131, .int z47128, .int z47117, .ref b47126]) X hT (km145_X13_roundOf l G tag L F hT.2.2.2 z47114 z47117 z47119 ) qw_947 qw_948 qw_5 qw_949 ⟨by decide +kernel, by decide +kernel, by decide +kernel⟩ ⟨Nat.le_of_ble_eq_true rfl, Nat.le_of_ble_eq_true rfl⟩ hl rfl rfl (Nat.le_of_ble_eq_true rfl) dX13_throughTo_235 ⟨Nat.le_of_ble_eq_true rfl, Nat.le_of_ble_eq_true rfl⟩ (fun z47132 F9 H locs hT hz47132 => ?_)
                obtain ⟨fz47132, hz47132⟩ := hz47132
                rw [fz47132] at hT
                refine lv_imul hx hb dX13_throughTo_238 ?_
                refine lv_topi (fun z47133 ez47133 => ?_)
                have rz47133 := rg_all z47133
                refine lv_iadd hx hb dX13_throughTo_239 ?_
                refine lv_topi (fun z47134 ez47134 => ?_)
                have rz47134 := rg_all z47134
                refine t_cSi (n := 2) (As := [.int z47128, .int z47134]) (rest := [.int z47117, .ref b47126]) X hT (km161_X13_least l G tag L F hT.2.2.2 z47128 z47134 ) qw_1065 qw_1066 qw_5 qw_1067 ⟨by decide +kernel, by decide +kernel, by decide +kernel⟩ ⟨Nat.le_of_ble_eq_true rfl, Nat.le_of_ble_eq_true rfl⟩ hl rfl rfl (Nat.le_of_ble_eq_true rfl) dX13_throughTo_240 ⟨Nat.le_of_ble_eq_true rfl, Nat.le_of_ble_eq_true rfl⟩ (fun z47135 F9 H locs hT hz47135 => ?_)
                obtain ⟨fz47135, hz47135⟩ := hz47135
                rw [fz47135] at hT
                refine t_ist X hT mb47126 gb47126 rfl (by omega) (show (-2147483648) ≤ (z47135 : Int32).toInt ∧ (z47135 : Int32).toInt ≤ 2147483647 from (rg_all _)) dX13_throughTo_243 (fun F H locs hT v47136 h1v47136 h2v47136 => ?_)
                have pf0 := (h2v47136 _ _).trans pf0
                have hv47125 := (h2v47136 _ _).trans hv47125
                have hv47129 := (h2v47136 _ _).trans hv47129
                have hfr : (∀ b j : Nat, fld F b j = fld Fo b j) ∧ (∀ b j : Nat, tag b ≠ 42 → elm F b j = elm Fo b j) := ⟨fun b j  => (h2v47136 b j).trans (hfr.1 b j ), fun b j a42 => (h1v47136 b j (Or.inl (at_ne gb47126 a42))).trans (hfr.2 b j a42)⟩
                obtain ⟨z47137, ez47137⟩ : ∃ y : Int32, y = z47119 + 1 := ⟨_, rfl⟩
                have hz47137 : z47137.toInt = z47119.toInt + 1 := ar_add ez47137 rfl (by decide : (1 : Int32).toInt = 1) (by omega) (by omega)
                refine lv_iinc (v := z47137) (lv' := [(8, .int z47137), (0, .ref p0), (1, .int p1), (2, .int p2), (3, .int z47112), (4, .int z47113), (5, .int z47114), (6, .int z47116), (7, .int z47117)]) hx hb dX13_throughTo_244 hl (k := 8) rfl (by rw [ez47137]; rfl) (by decide) rfl (fun ls hl => ?_)
                refine lv_goto (tgt := 197) hx hb dX13_throughTo_247 (by decide) ?_
                exact ih197 z47137 _ _ _ _ (by omega) (by omega) (by omega) hT hfr pf0 (by omega) (lv_sub hl [1, 2, 3, 4, 5, 6, 7, 8, 0] rfl)
          refine lv_iload hx hb dX13_throughTo_174 (lv_at hl 7 rfl) ?_
          refine lv_bipush (v := 8) hx hb dX13_throughTo_176 (by decide) ?_
          refine lv_iload hx hb dX13_throughTo_178 (lv_at hl 5 rfl) ?_
          refine lv_imul hx hb dX13_throughTo_180 ?_
          refine lv_topi (fun z47138 ez47138 => ?_)
          have hz47138 : z47138.toInt = 8 * z47114.toInt := ar_mul ez47138 (by decide : (8 : Int32).toInt = 8) (rfl : z47114.toInt = z47114.toInt) (by omega) (by omega)
          have rz47138 : 8 ≤ z47138.toInt ∧ z47138.toInt ≤ 48 := by omega
          refine lv_icmp_ge (tgt := 256) hx hb dX13_throughTo_181 (by decide) (fun c47139 => ?_) (fun c47139 => ?_)
          · have w47140 := cv_le (rfl : z47138.toInt = z47138.toInt) (rfl : z47117.toInt = z47117.toInt) c47139
            obtain ⟨z47141, ez47141⟩ : ∃ y : Int32, y = z47114 + (-1) := ⟨_, rfl⟩
            have hz47141 : z47141.toInt = z47114.toInt + (-1) := ar_add ez47141 rfl (by decide : ((-1) : Int32).toInt = (-1)) (by omega) (by omega)
            refine lv_iinc (v := z47141) (lv' := [(5, .int z47141), (0, .ref p0), (1, .int p1), (2, .int p2), (3, .int z47112), (4, .int z47113), (6, .int z47116), (7, .int z47117)]) hx hb dX13_throughTo_256 hl (k := 5) rfl (by rw [ez47141]; rfl) (by decide) rfl (fun ls hl => ?_)
            refine lv_goto (tgt := 29) hx hb dX13_throughTo_259 (by decide) ?_
            exact ih29 z47112 z47113 z47141 _ _ _ _ (by omega) (by omega) (by omega) (by omega) hT hfr pf0 (by omega) (lv_sub hl [1, 2, 3, 4, 5, 0] rfl)
          · have w47142 := cv_nle (rfl : z47138.toInt = z47138.toInt) (rfl : z47117.toInt = z47117.toInt) c47139
            refine lv_aload_n hx hb dX13_throughTo_184 rfl (lv_at hl 0 rfl) ?_
            refine t_get (C := RX13) (T := TX13) (N := 37) X hT m0 g0 rfl rfl 26 (by decide) qw_118 inlX13 rfl dX13_throughTo_185 (fun v47143 hv47143 ov47143 => ?_)
            obtain ⟨b47144, rfl, mb47144, gb47144⟩ := okV_r ov47143
            have gb47144 : tag b47144 = 42 := tg_of gb47144
            refine lv_iload hx hb dX13_throughTo_188 (lv_at hl 7 rfl) ?_
            refine m_ldcw X qw_1060 dX13_throughTo_190 ?_
            refine t_ist X hT mb47144 gb47144 rfl (by omega) (show (-2147483648) ≤ (100000 : Int32).toInt ∧ (100000 : Int32).toInt ≤ 2147483647 from (rg_all _)) dX13_throughTo_193 (fun F H locs hT v47145 h1v47145 h2v47145 => ?_)
            have pf0 := (h2v47145 _ _).trans pf0
            have hv47143 := (h2v47145 _ _).trans hv47143
            have hfr : (∀ b j : Nat, fld F b j = fld Fo b j) ∧ (∀ b j : Nat, tag b ≠ 42 → elm F b j = elm Fo b j) := ⟨fun b j  => (h2v47145 b j).trans (hfr.1 b j ), fun b j a42 => (h1v47145 b j (Or.inl (at_ne gb47144 a42))).trans (hfr.2 b j a42)⟩
            refine lv_iconst (v := 0) hx hb dX13_throughTo_194 (by decide) ?_
            refine lv_istore (lv' := [(8, .int 0), (0, .ref p0), (1, .int p1), (2, .int p2), (3, .int z47112), (4, .int z47113), (5, .int z47114), (6, .int z47116), (7, .int z47117)]) hx hb dX13_throughTo_195 hl (by decide) rfl (fun ls hl => ?_)
            have k47146 : (0 : Int32).toInt = 0 := by decide
            exact K197 49 0 _ _ _ _ (by omega) (by decide) (by omega) hT hfr pf0 (by omega) (lv_sub hl [1, 2, 3, 4, 5, 6, 7, 8, 0] rfl)
      have K70 : ∀ (n : Nat) (z47148 : Int32) (z47149 : Int32) (F : Nat → va_E) (H : Heap) (locs : List Loc) (ls : Array Slot), (48 - z47149.toInt < (n : Int)) → (0 ≤ z47149.toInt ∧ z47149.toInt ≤ 48) → (1 ≤ z47114.toInt ∧ z47114.toInt ≤ 6) → TH G ttC A s tag L F H locs → ((∀ b j : Nat, fld F b j = fld Fo b j) ∧ (∀ b j : Nat, tag b ≠ 42 → elm F b j = elm Fo b j)) → (fld F p0 3 = .ref x0) → (z47114.toInt ≤ z47112.toInt) → lv_has ls 9 [(0, .ref p0), (1, .int p1), (2, .int p2), (3, .int z47112), (4, .int z47113), (5, .int z47114), (6, .int z47148), (7, .int z47149)] → W p l e { frames := 2, cells := 0, slots := 0, locals := 47 } s m args below meth c H locs 0 0 Q (F0 m 70 ls []) := by
        intro n
        induction n with
        | zero =>
          intro z47148 z47149 F H locs ls hn rz47149 r9s47147 hT hfr pf0 ex70_0 hl
          have rz47148 := rg_all z47148
          exfalso
          omega
        | succ n ih70 =>
          intro z47148 z47149 F H locs ls hn rz47149 r9s47147 hT hfr pf0 ex70_0 hl
          have rz47148 := rg_all z47148
          have K165 : ∀  (F : Nat → va_E) (H : Heap) (locs : List Loc) (ls : Array Slot), (0 ≤ z47149.toInt ∧ z47149.toInt ≤ 47) → TH G ttC A s tag L F H locs → ((∀ b j : Nat, fld F b j = fld Fo b j) ∧ (∀ b j : Nat, tag b ≠ 42 → elm F b j = elm Fo b j)) → (fld F p0 3 = .ref x0) → (z47114.toInt ≤ z47112.toInt) → lv_has ls 9 [(0, .ref p0), (1, .int p1), (2, .int p2), (3, .int z47112), (4, .int z47113), (5, .int z47114), (6, .int z47148), (7, .int z47149)] → W p l e { frames := 2, cells := 0, slots := 0, locals := 47 } s m args below meth c H locs 0 0 Q (F0 m 165 ls []) := by
            intro F H locs ls r9s47150 hT hfr pf0 ex165_0 hl
            obtain ⟨z47151, ez47151⟩ : ∃ y : Int32, y = z47149 + 1 := ⟨_, rfl⟩
            have hz47151 : z47151.toInt = z47149.toInt + 1 := ar_add ez47151 rfl (by decide : (1 : Int32).toInt = 1) (by omega) (by omega)
            refine lv_iinc (v := z47151) (lv' := [(7, .int z47151), (0, .ref p0), (1, .int p1), (2, .int p2), (3, .int z47112), (4, .int z47113), (5, .int z47114), (6, .int z47148)]) hx hb dX13_throughTo_165 hl (k := 7) rfl (by rw [ez47151]; rfl) (by decide) rfl (fun ls hl => ?_)
            refine lv_goto (tgt := 70) hx hb dX13_throughTo_168 (by decide) ?_
            exact ih70 z47148 z47151 _ _ _ _ (by omega) (by omega) (by omega) hT hfr pf0 (by omega) (lv_sub hl [1, 2, 3, 4, 5, 6, 7, 0] rfl)
          have K163 : ∀ (z47153 : Int32) (z47154 : Int32) (z47155 : Int32) (b47156 : Nat) (F : Nat → va_E) (H : Heap) (locs : List Loc) (ls : Array Slot), (0 ≤ z47155.toInt ∧ z47155.toInt ≤ 47) → (b47156 ∈ L) → (tag b47156 = 42) → (0 ≤ z47149.toInt ∧ z47149.toInt ≤ 47) → TH G ttC A s tag L F H locs → ((∀ b j : Nat, fld F b j = fld Fo b j) ∧ (∀ b j : Nat, tag b ≠ 42 → elm F b j = elm Fo b j)) → (fld F p0 3 = .ref x0) → (z47114.toInt ≤ z47112.toInt) → (z47149.toInt < 8 * z47114.toInt) → lv_has ls 9 [(0, .ref p0), (1, .int p1), (2, .int p2), (3, .int z47112), (4, .int z47113), (5, .int z47114), (6, .int z47148), (7, .int z47149)] → W p l e { frames := 2, cells := 0, slots := 0, locals := 47 } s m args below meth c H locs 0 0 Q (F0 m 163 ls [.int z47153, .int z47154, .int z47155, .ref b47156]) := by
            intro z47153 z47154 z47155 b47156 F H locs ls rz47155 mb47156 gb47156 r9s47152 hT hfr pf0 ex163_0 ex163_1 hl
            have rz47153 := rg_all z47153
            have rz47154 := rg_all z47154
            refine lv_iadd hx hb dX13_throughTo_163 ?_
            refine lv_topi (fun z47157 ez47157 => ?_)
            have rz47157 := rg_all z47157
            refine t_ist X hT mb47156 gb47156 rfl (by omega) (show (-2147483648) ≤ (z47157 : Int32).toInt ∧ (z47157 : Int32).toInt ≤ 2147483647 from (rg_all _)) dX13_throughTo_164 (fun F H locs hT v47158 h1v47158 h2v47158 => ?_)
            have pf0 := (h2v47158 _ _).trans pf0
            have hfr : (∀ b j : Nat, fld F b j = fld Fo b j) ∧ (∀ b j : Nat, tag b ≠ 42 → elm F b j = elm Fo b j) := ⟨fun b j  => (h2v47158 b j).trans (hfr.1 b j ), fun b j a42 => (h1v47158 b j (Or.inl (at_ne gb47156 a42))).trans (hfr.2 b j a42)⟩
            exact K165  _ _ _ _ (by omega) hT hfr pf0 (by omega) (lv_sub hl [0, 1, 2, 3, 4, 5, 6, 7] rfl)
          have K138 : ∀ (z47160 : Int32) (z47161 : Int32) (z47162 : Int32) (z47163 : Int32) (b47164 : Nat) (F : Nat → va_E) (H : Heap) (locs : List Loc) (ls : Array Slot), (0 ≤ z47160.toInt ∧ z47160.toInt ≤ 1) → (1 ≤ z47161.toInt ∧ z47161.toInt ≤ 6) → (0 ≤ z47162.toInt ∧ z47162.toInt ≤ 3) → (0 ≤ z47163.toInt ∧ z47163.toInt ≤ 47) → (b47164 ∈ L) → (tag b47164 = 42) → (0 ≤ z47149.toInt ∧ z47149.toInt ≤ 47) → TH G ttC A s tag L F H locs → ((∀ b j : Nat, fld F b j = fld Fo b j) ∧ (∀ b j : Nat, tag b ≠ 42 → elm F b j = elm Fo b j)) → (fld F p0 3 = .ref x0) → (z47114.toInt ≤ z47112.toInt) → (z47149.toInt < 8 * z47114.toInt) → lv_has ls 9 [(0, .ref p0), (1, .int p1), (2, .int p2), (3, .int z47112), (4, .int z47113), (5, .int z47114), (6, .int z47148), (7, .int z47149)] → W p l e { frames := 2, cells := 0, slots := 0, locals := 47 } s m args below meth c H locs 0 0 Q (F0 m 138 ls [.int z47160, .int z47161, .int z47162, .ref p0, .int z47163, .ref b47164]) := by
            intro z47160 z47161 z47162 z47163 b47164 F H locs ls rz47160 rz47161 rz47162 rz47163 mb47164 gb47164 r9s47159 hT hfr pf0 ex138_0 ex138_1 hl
            refine t_cVi (n := 3) (C := RX13) (T := TX13) (N := 37) (As := [.int z47162, .int z47161, .int z47160]) (rest := [.int z47163, .ref b47164]) X hT (km162_X13_entry l G tag L F hT.2.2.2 p0 z47162 z47161 z47160 x0 m0 g0 (by omega) (by omega) (by omega) mx0 gx0 pf0) m0 g0 rfl rfl qw_1061 qw_1062 qw_1063 qw_5 qw_1064 ⟨rfl, by decide +kernel, by decide +kernel, by decide +kernel⟩ ⟨Nat.le_of_ble_eq_true rfl, Nat.le_of_ble_eq_true rfl⟩ hl rfl rfl (Nat.le_of_ble_eq_true rfl) dX13_throughTo_138 ⟨Nat.le_of_ble_eq_true rfl, Nat.le_of_ble_eq_true rfl⟩ (fun z47165 F9 H locs hT hz47165 => ?_)
            obtain ⟨fz47165, hz47165⟩ := hz47165
            rw [fz47165] at hT
            refine lv_iload hx hb dX13_throughTo_141 (lv_at hl 5 rfl) ?_
            refine lv_iload_n hx hb dX13_throughTo_143 rfl (lv_at hl 3 rfl) ?_
            refine lv_icmp_ne (tgt := 151) hx hb dX13_throughTo_144 (by decide) (fun c47166 => ?_) (fun c47166 => ?_)
            · have w47167 := cv_ne (rfl : z47114.toInt = z47114.toInt) (rfl : z47112.toInt = z47112.toInt) c47166
              have w47168 : 1 ≤ z47114.toInt ∧ z47114.toInt ≤ 5 := by omega
              refine lv_aload_n hx hb dX13_throughTo_151 rfl (lv_at hl 0 rfl) ?_
              refine t_get (C := RX13) (T := TX13) (N := 37) X hT m0 g0 rfl rfl 26 (by decide) qw_118 inlX13 rfl dX13_throughTo_152 (fun v47169 hv47169 ov47169 => ?_)
              obtain ⟨b47170, rfl, mb47170, gb47170⟩ := okV_r ov47169
              have gb47170 : tag b47170 = 42 := tg_of gb47170
              have w47171 : 0 ≤ z47149.toInt ∧ z47149.toInt ≤ 39 := by omega
              refine lv_iload hx hb dX13_throughTo_155 (lv_at hl 5 rfl) ?_
              refine lv_iload hx hb dX13_throughTo_157 (lv_at hl 7 rfl) ?_
              refine t_cSi (n := 2) (As := [.int z47114, .int z47149]) (rest := [.ref b47170, .int z47165, .int z47163, .ref b47164]) X hT (km163_X13_inFront l G tag L F hT.2.2.2 z47114 z47149 (by omega) (by omega) (by omega)) qw_1068 qw_1069 qw_5 qw_1070 ⟨by decide +kernel, by decide +kernel, by decide +kernel⟩ ⟨Nat.le_of_ble_eq_true rfl, Nat.le_of_ble_eq_true rfl⟩ hl rfl rfl (Nat.le_of_ble_eq_true rfl) dX13_throughTo_159 ⟨Nat.le_of_ble_eq_true rfl, Nat.le_of_ble_eq_true rfl⟩ (fun z47172 F9 H locs hT hz47172 => ?_)
              obtain ⟨fz47172, hz47172⟩ := hz47172
              rw [fz47172] at hT
              refine t_ild X hT mb47170 gb47170 rfl (by omega) dX13_throughTo_162 (fun z47173 vz47173 rz47173 => ?_)
              have rz47173 : (-2147483648) ≤ z47173.toInt ∧ z47173.toInt ≤ 2147483647 := rz47173
              exact K163 z47173 z47165 z47163 b47164 _ _ _ _ (by omega) mb47164 gb47164 (by omega) hT hfr pf0 (by omega) (by omega) (lv_sub hl [0, 1, 2, 3, 4, 5, 6, 7] rfl)
            · have w47174 := cv_eq (rfl : z47114.toInt = z47114.toInt) (rfl : z47112.toInt = z47112.toInt) c47166
              refine lv_iconst (v := 0) hx hb dX13_throughTo_147 (by decide) ?_
              refine lv_goto (tgt := 163) hx hb dX13_throughTo_148 (by decide) ?_
              have k47175 : (0 : Int32).toInt = 0 := by decide
              exact K163 0 z47165 z47163 b47164 _ _ _ _ (by omega) mb47164 gb47164 (by omega) hT hfr pf0 (by omega) (by omega) (lv_sub hl [0, 1, 2, 3, 4, 5, 6, 7] rfl)
          have K116 : ∀  (F : Nat → va_E) (H : Heap) (locs : List Loc) (ls : Array Slot), (0 ≤ z47149.toInt ∧ z47149.toInt ≤ 47) → TH G ttC A s tag L F H locs → ((∀ b j : Nat, fld F b j = fld Fo b j) ∧ (∀ b j : Nat, tag b ≠ 42 → elm F b j = elm Fo b j)) → (fld F p0 3 = .ref x0) → (z47114.toInt ≤ z47112.toInt) → (z47149.toInt < 8 * z47114.toInt) → lv_has ls 9 [(0, .ref p0), (1, .int p1), (2, .int p2), (3, .int z47112), (4, .int z47113), (5, .int z47114), (6, .int z47148), (7, .int z47149)] → W p l e { frames := 2, cells := 0, slots := 0, locals := 47 } s m args below meth c H locs 0 0 Q (F0 m 116 ls []) := by
            intro F H locs ls r9s47176 hT hfr pf0 ex116_0 ex116_1 hl
            refine lv_aload_n hx hb dX13_throughTo_116 rfl (lv_at hl 0 rfl) ?_
            refine t_get (C := RX13) (T := TX13) (N := 37) X hT m0 g0 rfl rfl 27 (by decide) qw_119 inlX13 rfl dX13_throughTo_117 (fun v47177 hv47177 ov47177 => ?_)
            obtain ⟨b47178, rfl, mb47178, gb47178⟩ := okV_r ov47177
            have gb47178 : tag b47178 = 42 := tg_of gb47178
            refine lv_iload hx hb dX13_throughTo_120 (lv_at hl 7 rfl) ?_
            refine lv_aload_n hx hb dX13_throughTo_122 rfl (lv_at hl 0 rfl) ?_
            refine lv_iload_n hx hb dX13_throughTo_123 rfl (lv_at hl 1 rfl) ?_
            refine lv_iload hx hb dX13_throughTo_124 (lv_at hl 5 rfl) ?_
            refine lv_iload hx hb dX13_throughTo_126 (lv_at hl 7 rfl) ?_
            refine lv_iload hx hb dX13_throughTo_128 (lv_at hl 6 rfl) ?_
            refine lv_icmp_ne (tgt := 137) hx hb dX13_throughTo_130 (by decide) (fun c47179 => ?_) (fun c47179 => ?_)
            · have w47180 := cv_ne (rfl : z47149.toInt = z47149.toInt) (rfl : z47148.toInt = z47148.toInt) c47179
              refine lv_iconst (v := 0) hx hb dX13_throughTo_137 (by decide) ?_
              have k47181 : (0 : Int32).toInt = 0 := by decide
              exact K138 0 z47114 p1 z47149 b47178 _ _ _ _ (by decide) (by omega) (by omega) (by omega) mb47178 gb47178 (by omega) hT hfr pf0 (by omega) (by omega) (lv_sub hl [0, 1, 2, 3, 4, 5, 6, 7] rfl)
            · have w47182 := cv_eq (rfl : z47149.toInt = z47149.toInt) (rfl : z47148.toInt = z47148.toInt) c47179
              refine lv_iconst (v := 1) hx hb dX13_throughTo_133 (by decide) ?_
              refine lv_goto (tgt := 138) hx hb dX13_throughTo_134 (by decide) ?_
              have k47183 : (1 : Int32).toInt = 1 := by decide
              exact K138 1 z47114 p1 z47149 b47178 _ _ _ _ (by decide) (by omega) (by omega) (by omega) mb47178 gb47178 (by omega) hT hfr pf0 (by omega) (by omega) (lv_sub hl [0, 1, 2, 3, 4, 5, 6, 7] rfl)
          refine lv_iload hx hb dX13_throughTo_70 (lv_at hl 7 rfl) ?_
          refine lv_bipush (v := 8) hx hb dX13_throughTo_72 (by decide) ?_
          refine lv_iload hx hb dX13_throughTo_74 (lv_at hl 5 rfl) ?_
          refine lv_imul hx hb dX13_throughTo_76 ?_
          refine lv_topi (fun z47184 ez47184 => ?_)
          have hz47184 : z47184.toInt = 8 * z47114.toInt := ar_mul ez47184 (by decide : (8 : Int32).toInt = 8) (rfl : z47114.toInt = z47114.toInt) (by omega) (by omega)
          have rz47184 : 8 ≤ z47184.toInt ∧ z47184.toInt ≤ 48 := by omega
          refine lv_icmp_ge (tgt := 171) hx hb dX13_throughTo_77 (by decide) (fun c47185 => ?_) (fun c47185 => ?_)
          · have w47186 := cv_le (rfl : z47184.toInt = z47184.toInt) (rfl : z47149.toInt = z47149.toInt) c47185
            refine lv_iconst (v := 0) hx hb dX13_throughTo_171 (by decide) ?_
            refine lv_istore (lv' := [(7, .int 0), (0, .ref p0), (1, .int p1), (2, .int p2), (3, .int z47112), (4, .int z47113), (5, .int z47114), (6, .int z47148)]) hx hb dX13_throughTo_172 hl (by decide) rfl (fun ls hl => ?_)
            have k47187 : (0 : Int32).toInt = 0 := by decide
            exact K174 49 z47148 0 _ _ _ _ (by omega) (by decide) (by omega) hT hfr pf0 (by omega) (lv_sub hl [1, 2, 3, 4, 5, 6, 7, 0] rfl)
          · have w47188 := cv_nle (rfl : z47184.toInt = z47184.toInt) (rfl : z47149.toInt = z47149.toInt) c47185
            refine lv_aload_n hx hb dX13_throughTo_80 rfl (lv_at hl 0 rfl) ?_
            refine t_get (C := RX13) (T := TX13) (N := 37) X hT m0 g0 rfl rfl 27 (by decide) qw_119 inlX13 rfl dX13_throughTo_81 (fun v47189 hv47189 ov47189 => ?_)
            obtain ⟨b47190, rfl, mb47190, gb47190⟩ := okV_r ov47189
            have gb47190 : tag b47190 = 42 := tg_of gb47190
            refine lv_iload hx hb dX13_throughTo_84 (lv_at hl 7 rfl) ?_
            refine m_ldcw X qw_1060 dX13_throughTo_86 ?_
            refine t_ist X hT mb47190 gb47190 rfl (by omega) (show (-2147483648) ≤ (100000 : Int32).toInt ∧ (100000 : Int32).toInt ≤ 2147483647 from (rg_all _)) dX13_throughTo_89 (fun F H locs hT v47191 h1v47191 h2v47191 => ?_)
            have pf0 := (h2v47191 _ _).trans pf0
            have hv47189 := (h2v47191 _ _).trans hv47189
            have hfr : (∀ b j : Nat, fld F b j = fld Fo b j) ∧ (∀ b j : Nat, tag b ≠ 42 → elm F b j = elm Fo b j) := ⟨fun b j  => (h2v47191 b j).trans (hfr.1 b j ), fun b j a42 => (h1v47191 b j (Or.inl (at_ne gb47190 a42))).trans (hfr.2 b j a42)⟩
            refine lv_iload hx hb dX13_throughTo_90 (lv_at hl 7 rfl) ?_
            refine lv_iconst (v := 2) hx hb dX13_throughTo_92 (by decide) ?_
            refine lv_iload hx hb dX13_throughTo_93 (lv_at hl 5 rfl) ?_
            refine lv_imul hx hb dX13_throughTo_95 ?_
            refine lv_topi (fun z47192 ez47192 => ?_)
            have hz47192 : z47192.toInt = 2 * z47114.toInt := ar_mul ez47192 (by decide : (2 : Int32).toInt = 2) (rfl : z47114.toInt = z47114.toInt) (by omega) (by omega)
            have rz47192 : 2 ≤ z47192.toInt ∧ z47192.toInt ≤ 12 := by omega
            refine lv_irem hx hb dX13_throughTo_96 (ne0_of (by omega)) ?_
            refine lv_topi (fun z47193 ez47193 => ?_)
            have hz47193 := ar_remv ez47193 (by omega) (by omega)
            have rz47193 : 0 ≤ z47193.toInt ∧ z47193.toInt ≤ 11 := by omega
            refine lv_if_eq (tgt := 165) hx hb dX13_throughTo_97 (by decide) (fun c47194 => ?_) (fun c47194 => ?_)
            · have w47195 := cv_eq (rfl : z47193.toInt = z47193.toInt) (by decide : (0 : Int32).toInt = 0) c47194
              exact K165  _ _ _ _ (by omega) hT hfr pf0 (by omega) (lv_sub hl [0, 1, 2, 3, 4, 5, 6, 7] rfl)
            · have w47196 := cv_ne (rfl : z47193.toInt = z47193.toInt) (by decide : (0 : Int32).toInt = 0) c47194
              refine lv_iload hx hb dX13_throughTo_100 (lv_at hl 5 rfl) ?_
              refine lv_iload_n hx hb dX13_throughTo_102 rfl (lv_at hl 3 rfl) ?_
              refine lv_icmp_ne (tgt := 116) hx hb dX13_throughTo_103 (by decide) (fun c47197 => ?_) (fun c47197 => ?_)
              · have w47198 := cv_ne (rfl : z47114.toInt = z47114.toInt) (rfl : z47112.toInt = z47112.toInt) c47197
                exact K116  _ _ _ _ (by omega) hT hfr pf0 (by omega) (by omega) (lv_sub hl [0, 1, 2, 3, 4, 5, 6, 7] rfl)
              · have w47199 := cv_eq (rfl : z47114.toInt = z47114.toInt) (rfl : z47112.toInt = z47112.toInt) c47197
                refine lv_iload hx hb dX13_throughTo_106 (lv_at hl 7 rfl) ?_
                refine lv_iload hx hb dX13_throughTo_108 (lv_at hl 6 rfl) ?_
                refine lv_icmp_eq (tgt := 116) hx hb dX13_throughTo_110 (by decide) (fun c47200 => ?_) (fun c47200 => ?_)
                · have w47201 := cv_eq (rfl : z47149.toInt = z47149.toInt) (rfl : z47148.toInt = z47148.toInt) c47200
                  exact K116  _ _ _ _ (by omega) hT hfr pf0 (by omega) (by omega) (lv_sub hl [0, 1, 2, 3, 4, 5, 6, 7] rfl)
                · have w47202 := cv_ne (rfl : z47149.toInt = z47149.toInt) (rfl : z47148.toInt = z47148.toInt) c47200
                  refine lv_goto (tgt := 165) hx hb dX13_throughTo_113 (by decide) ?_
                  exact K165  _ _ _ _ (by omega) hT hfr pf0 (by omega) (lv_sub hl [0, 1, 2, 3, 4, 5, 6, 7] rfl)
      refine lv_iload hx hb dX13_throughTo_29 (lv_at hl 5 rfl) ?_
      refine lv_iload hx hb dX13_throughTo_31 (lv_at hl 4 rfl) ?_
      refine lv_icmp_lt (tgt := 262) hx hb dX13_throughTo_33 (by decide) (fun c47203 => ?_) (fun c47203 => ?_)
      · have w47204 := cv_lt (rfl : z47114.toInt = z47114.toInt) (rfl : z47113.toInt = z47113.toInt) c47203
        refine m_ldcw X qw_1060 dX13_throughTo_262 ?_
        refine lv_istore (lv' := [(5, .int 100000), (0, .ref p0), (1, .int p1), (2, .int p2), (3, .int z47112), (4, .int z47113)]) hx hb dX13_throughTo_265 hl (by decide) rfl (fun ls hl => ?_)
        refine lv_iconst (v := 0) hx hb dX13_throughTo_267 (by decide) ?_
        refine lv_istore (lv' := [(6, .int 0), (5, .int 100000), (0, .ref p0), (1, .int p1), (2, .int p2), (3, .int z47112), (4, .int z47113)]) hx hb dX13_throughTo_268 hl (by decide) rfl (fun ls hl => ?_)
        have k47205 : (100000 : Int32).toInt = 100000 := by decide
        have k47206 : (0 : Int32).toInt = 0 := by decide
        exact K270 49 z47112 z47113 100000 0 _ _ _ _ (by omega) (by omega) (by omega) (by decide) hT hfr pf0 (lv_sub hl [2, 3, 4, 5, 6, 1, 0] rfl)
      · have w47207 := cv_nlt (rfl : z47114.toInt = z47114.toInt) (rfl : z47113.toInt = z47113.toInt) c47203
        refine lv_iload hx hb dX13_throughTo_36 (lv_at hl 5 rfl) ?_
        refine lv_aload_n hx hb dX13_throughTo_38 rfl (lv_at hl 0 rfl) ?_
        refine t_get (C := RX13) (T := TX13) (N := 37) X hT m0 g0 rfl rfl 16 (by decide) qw_112 inlX13 rfl dX13_throughTo_39 (fun v47208 hv47208 ov47208 => ?_)
        obtain ⟨b47209, rfl, mb47209, gb47209⟩ := okV_r ov47208
        have gb47209 : tag b47209 = 37 := tg_of gb47209
        refine lv_iload_n hx hb dX13_throughTo_42 rfl (lv_at hl 1 rfl) ?_
        refine lv_iload hx hb dX13_throughTo_43 (lv_at hl 5 rfl) ?_
        refine lv_iconst (v := 1) hx hb dX13_throughTo_45 (by decide) ?_
        refine t_cSi (n := 3) (As := [.int p1, .int z47114, .int 1]) (rest := [.ref b47209, .int z47114]) X hT (km49_X13_part l G tag L F hT.2.2.2 p1 z47114 1 (by omega) (by omega) (by decide)) qw_661 qw_662 qw_5 qw_663 ⟨by decide +kernel, by decide +kernel, by decide +kernel⟩ ⟨Nat.le_of_ble_eq_true rfl, Nat.le_of_ble_eq_true rfl⟩ hl rfl rfl (Nat.le_of_ble_eq_true rfl) dX13_throughTo_46 ⟨Nat.le_of_ble_eq_true rfl, Nat.le_of_ble_eq_true rfl⟩ (fun z47210 F9 H locs hT hz47210 => ?_)
        obtain ⟨fz47210, hz47210, xz47210_0⟩ := hz47210
        rw [fz47210] at hT
        have k47211 : (1 : Int32).toInt = 1 := by decide
        refine t_ild X hT mb47209 gb47209 rfl (by omega) dX13_throughTo_49 (fun z47212 vz47212 rz47212 => ?_)
        have oz47212 := rz47212
        have rz47212 := rg_all z47212
        refine lv_aload_n hx hb dX13_throughTo_50 rfl (lv_at hl 0 rfl) ?_
        refine t_get (C := RX13) (T := TX13) (N := 37) X hT m0 g0 rfl rfl 16 (by decide) qw_112 inlX13 rfl dX13_throughTo_51 (fun v47213 hv47213 ov47213 => ?_)
        obtain rfl : v47213 = .ref b47209 := hv47213.symm.trans hv47208
        refine lv_iload_n hx hb dX13_throughTo_54 rfl (lv_at hl 1 rfl) ?_
        refine lv_iload hx hb dX13_throughTo_55 (lv_at hl 5 rfl) ?_
        refine lv_iconst (v := 2) hx hb dX13_throughTo_57 (by decide) ?_
        refine t_cSi (n := 3) (As := [.int p1, .int z47114, .int 2]) (rest := [.ref b47209, .int z47212, .int z47114]) X hT (km49_X13_part l G tag L F hT.2.2.2 p1 z47114 2 (by omega) (by omega) (by decide)) qw_661 qw_662 qw_5 qw_663 ⟨by decide +kernel, by decide +kernel, by decide +kernel⟩ ⟨Nat.le_of_ble_eq_true rfl, Nat.le_of_ble_eq_true rfl⟩ hl rfl rfl (Nat.le_of_ble_eq_true rfl) dX13_throughTo_58 ⟨Nat.le_of_ble_eq_true rfl, Nat.le_of_ble_eq_true rfl⟩ (fun z47214 F9 H locs hT hz47214 => ?_)
        obtain ⟨fz47214, hz47214, xz47214_0⟩ := hz47214
        rw [fz47214] at hT
        have k47215 : (2 : Int32).toInt = 2 := by decide
        refine t_ild X hT mb47209 gb47209 rfl (by omega) dX13_throughTo_61 (fun z47216 vz47216 rz47216 => ?_)
        have oz47216 := rz47216
        have rz47216 := rg_all z47216
        refine t_cSi (n := 3) (As := [.int z47114, .int z47212, .int z47216]) (rest := []) X hT (km143_X13_doorPlace l G tag L F hT.2.2.2 z47114 z47212 z47216 ) qw_938 qw_939 qw_5 qw_940 ⟨by decide +kernel, by decide +kernel, by decide +kernel⟩ ⟨Nat.le_of_ble_eq_true rfl, Nat.le_of_ble_eq_true rfl⟩ hl rfl rfl (Nat.le_of_ble_eq_true rfl) dX13_throughTo_62 ⟨Nat.le_of_ble_eq_true rfl, Nat.le_of_ble_eq_true rfl⟩ (fun z47217 F9 H locs hT hz47217 => ?_)
        obtain ⟨fz47217, hz47217⟩ := hz47217
        rw [fz47217] at hT
        refine lv_istore (lv' := [(6, .int z47217), (0, .ref p0), (1, .int p1), (2, .int p2), (3, .int z47112), (4, .int z47113), (5, .int z47114)]) hx hb dX13_throughTo_65 hl (by decide) rfl (fun ls hl => ?_)
        refine lv_iconst (v := 0) hx hb dX13_throughTo_67 (by decide) ?_
        refine lv_istore (lv' := [(7, .int 0), (6, .int z47217), (0, .ref p0), (1, .int p1), (2, .int p2), (3, .int z47112), (4, .int z47113), (5, .int z47114)]) hx hb dX13_throughTo_68 hl (by decide) rfl (fun ls hl => ?_)
        have k47218 : (0 : Int32).toInt = 0 := by decide
        exact K70 49 z47217 0 _ _ _ _ (by omega) (by decide) (by omega) hT hfr pf0 (by omega) (lv_sub hl [2, 3, 4, 5, 6, 7, 1, 0] rfl)
  have K24 : ∀ (z47219 : Int32) (z47220 : Int32) (F : Nat → va_E) (H : Heap) (locs : List Loc) (ls : Array Slot), (1 ≤ z47219.toInt ∧ z47219.toInt ≤ 6) → (1 ≤ z47220.toInt ∧ z47220.toInt ≤ 6) → TH G ttC A s tag L F H locs → ((∀ b j : Nat, fld F b j = fld Fo b j) ∧ (∀ b j : Nat, tag b ≠ 42 → elm F b j = elm Fo b j)) → (fld F p0 3 = .ref x0) → lv_has ls 9 [(0, .ref p0), (1, .int p1), (2, .int p2), (3, .int z47219)] → W p l e { frames := 2, cells := 0, slots := 0, locals := 47 } s m args below meth c H locs 0 0 Q (F0 m 24 ls [.int z47220]) := by
    intro z47219 z47220 F H locs ls rz47219 rz47220 hT hfr pf0 hl
    refine lv_istore (lv' := [(4, .int z47220), (0, .ref p0), (1, .int p1), (2, .int p2), (3, .int z47219)]) hx hb dX13_throughTo_24 hl (by decide) rfl (fun ls hl => ?_)
    refine lv_iload_n hx hb dX13_throughTo_26 rfl (lv_at hl 4 rfl) ?_
    refine lv_istore (lv' := [(5, .int z47219), (4, .int z47220), (0, .ref p0), (1, .int p1), (2, .int p2), (3, .int z47219)]) hx hb dX13_throughTo_27 hl (by decide) rfl (fun ls hl => ?_)
    exact K29 7 z47219 z47220 z47219 _ _ _ _ (by omega) (by omega) (by omega) (by omega) hT hfr pf0 (by omega) (lv_sub hl [2, 3, 4, 5, 1, 0] rfl)
  refine lv_aload_n hx hb dX13_throughTo_0 rfl (lv_at hl 0 rfl) ?_
  refine t_get (C := RX13) (T := TX13) (N := 37) X hT m0 g0 rfl rfl 16 (by decide) qw_112 inlX13 rfl dX13_throughTo_1 (fun v47221 hv47221 ov47221 => ?_)
  obtain ⟨b47222, rfl, mb47222, gb47222⟩ := okV_r ov47221
  have gb47222 : tag b47222 = 37 := tg_of gb47222
  refine lv_iconst (v := 0) hx hb dX13_throughTo_4 (by decide) ?_
  refine lv_iload_n hx hb dX13_throughTo_5 rfl (lv_at hl 1 rfl) ?_
  refine lv_iadd hx hb dX13_throughTo_6 ?_
  refine lv_topi (fun z47223 ez47223 => ?_)
  obtain rfl : p1 = z47223 := (ar_zadd ez47223).symm
  refine t_ild X hT mb47222 gb47222 rfl (by omega) dX13_throughTo_7 (fun z47224 vz47224 rz47224 => ?_)
  have rz47224 := row_ml (by omega) rz47224
  refine lv_istore_n (lv' := [(3, .int z47224), (0, .ref p0), (1, .int p1), (2, .int p2)]) hx hb dX13_throughTo_8 rfl hl (by decide) rfl (fun ls hl => ?_)
  refine lv_iload_n hx hb dX13_throughTo_9 rfl (lv_at hl 0 rfl) ?_
  refine lv_if_ne (tgt := 15) hx hb dX13_throughTo_10 (by decide) (fun c47225 => ?_) (fun c47225 => ?_)
  · have w47226 := cv_ne (rfl : z47224.toInt = z47224.toInt) (by decide : (0 : Int32).toInt = 0) c47225
    refine lv_iload_n hx hb dX13_throughTo_15 rfl (lv_at hl 3 rfl) ?_
    refine lv_if_le (tgt := 23) hx hb dX13_throughTo_16 (by decide) (fun c47227 => ?_) (fun c47227 => ?_)
    · have w47228 := cv_le (rfl : p2.toInt = p2.toInt) (by decide : (0 : Int32).toInt = 0) c47227
      refine lv_iconst (v := 1) hx hb dX13_throughTo_23 (by decide) ?_
      have k47229 : (1 : Int32).toInt = 1 := by decide
      exact K24 z47224 1 _ _ _ _ (by omega) (by decide) hT hfr pf0 (lv_sub hl [1, 2, 3, 0] rfl)
    · have w47230 := cv_nle (rfl : p2.toInt = p2.toInt) (by decide : (0 : Int32).toInt = 0) c47227
      refine lv_iload_n hx hb dX13_throughTo_19 rfl (lv_at hl 3 rfl) ?_
      refine lv_goto (tgt := 24) hx hb dX13_throughTo_20 (by decide) ?_
      exact K24 z47224 p2 _ _ _ _ (by omega) (by omega) hT hfr pf0 (lv_sub hl [1, 2, 3, 0] rfl)
  · have w47231 := cv_eq (rfl : z47224.toInt = z47224.toInt) (by decide : (0 : Int32).toInt = 0) c47225
    refine lv_iconst (v := 0) hx hb dX13_throughTo_13 (by decide) ?_
    have k47232 : (0 : Int32).toInt = 0 := by decide
    exact t_iret hQ X hT (⟨rg_all _, hfr⟩) (Nat.le_of_ble_eq_true rfl) (Nat.le_of_ble_eq_true rfl) dX13_throughTo_14
