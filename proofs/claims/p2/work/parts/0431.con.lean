set_option maxHeartbeats 4000000 in
set_option maxRecDepth 100000 in
theorem km212_X13_heads (l : Launch) (G : KG) (tag : Nat → Nat) (L : List Nat) (Fo : Nat → va_E) (ho : okT G ttC tag L Fo) (p0 : Nat) (p1 : Int32) (p2 : Int32) (m0 : p0 ∈ L) (g0 : tag p0 = 46) (pf0 : fld Fo p0 3 = .null) : TMi l yX13_heads cX13_heads 6 (some .int) { frames := 7, cells := 0, slots := 0, locals := 170 } G ttC tag L Fo [.ref p0, .int p1, .int p2] (fun r F1 => ((-2147483648) ≤ r.toInt ∧ r.toInt ≤ 2147483647) ∧ ((∀ b j : Nat, (tag b ≠ 46 ∨ j ≠ 0) → (tag b ≠ 46 ∨ j ≠ 1) → (tag b ≠ 46 ∨ j ≠ 2) → (tag b ≠ 46 ∨ j ≠ 22) → (tag b ≠ 46 ∨ j ≠ 23) → fld F1 b j = fld Fo b j) ∧ (∀ b j : Nat, tag b ≠ 37 → tag b ≠ 40 → elm F1 b j = elm Fo b j))) := by
  refine t_bodyi (y := yX13_heads) (cd := cX13_heads) (mL := 6) (rt := (some .int)) (rm := { frames := 7, cells := 0, slots := 0, locals := 170 }) (av := [.ref p0, .int p1, .int p2]) (by decide) (Nat.le_of_ble_eq_true rfl) ho ?_
  intro p e s m args below meth c ls A Q hQ X hT hl
  have hx := X.1.1
  have hb := X.1.2.1
  have hl : lv_has ls 6 [(0, .ref p0), (1, .int p1), (2, .int p2)] := hl
  have rp1 := rg_all p1
  have rp2 := rg_all p2
  obtain ⟨F, hFo⟩ : ∃ F : Nat → va_E, F = Fo := ⟨_, rfl⟩
  rw [← hFo] at hT pf0
  have hfr : (∀ b j : Nat, (tag b ≠ 46 ∨ j ≠ 0) → (tag b ≠ 46 ∨ j ≠ 1) → (tag b ≠ 46 ∨ j ≠ 2) → (tag b ≠ 46 ∨ j ≠ 22) → (tag b ≠ 46 ∨ j ≠ 23) → fld F b j = fld Fo b j) ∧ (∀ b j : Nat, tag b ≠ 37 → tag b ≠ 40 → elm F b j = elm Fo b j) := by
    rw [hFo]
    exact ⟨by intros; rfl, by intros; rfl⟩
  refine lv_aload_n hx hb dX13_heads_0 rfl (lv_at hl 0 rfl) ?_
  refine lv_iconst (v := 0) hx hb dX13_heads_1 (by decide) ?_
  refine t_put (C := RX13) (T := TX13) (N := 37) (v := .int 0) X hT m0 g0 rfl tyX13 tyX13_ok nmX13 rfl 0 (by decide) qw_140 inlX13 rfl (by first | rfl | decide) (by first | rfl | decide) rfl (⟨_, rfl, (show (-2147483648) ≤ (0 : Int32).toInt from (by decide)), (show (0 : Int32).toInt ≤ 2147483647 from (by decide))⟩) dX13_heads_2 (fun F H locs hT v62589 h1v62589 h2v62589 => ?_)
  have pf0 := (h1v62589 _ _ (Or.inr (by decide))).trans pf0
  have hfr : (∀ b j : Nat, (tag b ≠ 46 ∨ j ≠ 0) → (tag b ≠ 46 ∨ j ≠ 1) → (tag b ≠ 46 ∨ j ≠ 2) → (tag b ≠ 46 ∨ j ≠ 22) → (tag b ≠ 46 ∨ j ≠ 23) → fld F b j = fld Fo b j) ∧ (∀ b j : Nat, tag b ≠ 37 → tag b ≠ 40 → elm F b j = elm Fo b j) := ⟨fun b j n46_0 n46_1 n46_2 n46_22 n46_23 => (h1v62589 b j (fr_ne g0 n46_0)).trans (hfr.1 b j n46_0 n46_1 n46_2 n46_22 n46_23), fun b j a37 a40 => (h2v62589 b j).trans (hfr.2 b j a37 a40)⟩
  refine lv_aload_n hx hb dX13_heads_5 rfl (lv_at hl 0 rfl) ?_
  refine lv_iconst (v := 1) hx hb dX13_heads_6 (by decide) ?_
  refine lv_iload_n hx hb dX13_heads_7 rfl (lv_at hl 2 rfl) ?_
  refine lv_bipush (v := 60) hx hb dX13_heads_8 (by decide) ?_
  refine t_cVi (n := 3) (C := RX13) (T := TX13) (N := 37) (As := [.int 1, .int p2, .int 60]) (rest := []) X hT (km189_X13_refusesIn l G tag L F hT.2.2.2 p0 1 p2 60 m0 g0 (by decide) pf0) m0 g0 rfl rfl qw_1144 qw_1145 qw_1146 qw_5 qw_1147 ⟨rfl, by decide +kernel, by decide +kernel, by decide +kernel⟩ ⟨Nat.le_of_ble_eq_true rfl, Nat.le_of_ble_eq_true rfl⟩ hl rfl rfl (Nat.le_of_ble_eq_true rfl) dX13_heads_10 ⟨Nat.le_of_ble_eq_true rfl, Nat.le_of_ble_eq_true rfl⟩ (fun z62590 F9 H locs hT hz62590 => ?_)
  obtain ⟨fz62590, hz62590⟩ := hz62590
  rw [fz62590] at hT
  refine lv_istore_n (lv' := [(3, .int z62590), (0, .ref p0), (1, .int p1), (2, .int p2)]) hx hb dX13_heads_13 rfl hl (by decide) rfl (fun ls hl => ?_)
  refine lv_iload_n hx hb dX13_heads_14 rfl (lv_at hl 0 rfl) ?_
  refine lv_if_le (tgt := 24) hx hb dX13_heads_15 (by decide) (fun c62591 => ?_) (fun c62591 => ?_)
  · have w62592 := cv_le (rfl : z62590.toInt = z62590.toInt) (by decide : (0 : Int32).toInt = 0) c62591
    exfalso
    omega
  · have w62593 := cv_nle (rfl : z62590.toInt = z62590.toInt) (by decide : (0 : Int32).toInt = 0) c62591
    refine lv_aload_n hx hb dX13_heads_18 rfl (lv_at hl 1 rfl) ?_
    refine lv_iload_n hx hb dX13_heads_19 rfl (lv_at hl 0 rfl) ?_
    refine t_cVi (n := 1) (C := RX13) (T := TX13) (N := 37) (As := [.int z62590]) (rest := []) X hT (km88_X13_refused l G tag L F hT.2.2.2 p0 z62590 m0 g0) m0 g0 rfl rfl qw_484 qw_485 qw_486 qw_5 qw_487 ⟨rfl, by decide +kernel, by decide +kernel, by decide +kernel⟩ ⟨Nat.le_of_ble_eq_true rfl, Nat.le_of_ble_eq_true rfl⟩ hl rfl rfl (Nat.le_of_ble_eq_true rfl) dX13_heads_20 ⟨Nat.le_of_ble_eq_true rfl, Nat.le_of_ble_eq_true rfl⟩ (fun z62594 F H locs hT hz62594 => ?_)
    obtain ⟨hz62594, yz62594⟩ := hz62594
    have pf0 := (yz62594.1 _ 3 (Or.inr (by decide)) (Or.inr (by decide))).trans pf0
    have v62589 := (yz62594.1 _ 0 (Or.inr (by decide)) (Or.inr (by decide))).trans v62589
    have hfr : (∀ b j : Nat, (tag b ≠ 46 ∨ j ≠ 0) → (tag b ≠ 46 ∨ j ≠ 1) → (tag b ≠ 46 ∨ j ≠ 2) → (tag b ≠ 46 ∨ j ≠ 22) → (tag b ≠ 46 ∨ j ≠ 23) → fld F b j = fld Fo b j) ∧ (∀ b j : Nat, tag b ≠ 37 → tag b ≠ 40 → elm F b j = elm Fo b j) := ⟨fun b j n46_0 n46_1 n46_2 n46_22 n46_23 => (yz62594.1 b j n46_1 n46_2).trans (hfr.1 b j n46_0 n46_1 n46_2 n46_22 n46_23), fun b j a37 a40 => (yz62594.2 b j ).trans (hfr.2 b j a37 a40)⟩
    exact t_iret hQ X hT (⟨rg_all _, hfr⟩) (Nat.le_of_ble_eq_true rfl) (Nat.le_of_ble_eq_true rfl) dX13_heads_23
theorem kp_X13_heads (l : Launch) (G : KG) (tag : Nat → Nat) (L : List Nat) (Fo : Nat → va_E) (ho : okT G ttC tag L Fo) (p0 : Nat) (p1 : Int32) (p2 : Int32) (m0 : p0 ∈ L) (g0 : tag p0 = 46) : TMi l yX13_heads cX13_heads 6 (some .int) { frames := 7, cells := 0, slots := 0, locals := 170 } G ttC tag L Fo [.ref p0, .int p1, .int p2] (fun r F1 => ((-2147483648) ≤ r.toInt ∧ r.toInt ≤ 2147483647) ∧ ((∀ b j : Nat, (tag b ≠ 46 ∨ j ≠ 0) → (tag b ≠ 46 ∨ j ≠ 1) → (tag b ≠ 46 ∨ j ≠ 2) → (tag b ≠ 46 ∨ j ≠ 22) → (tag b ≠ 46 ∨ j ≠ 23) → fld F1 b j = fld Fo b j) ∧ (∀ b j : Nat, tag b ≠ 37 → tag b ≠ 40 → elm F1 b j = elm Fo b j))) := by
  rcases t_fldn ho m0 g0 rfl 3 rfl with h9 | ⟨b9, h9, m9, t9⟩
  · exact km212_X13_heads l G tag L Fo ho p0 p1 p2  m0 g0 h9 
  · exact km211_X13_heads l G tag L Fo ho p0 p1 p2 b9  m0 g0 m9 (tg_of t9) h9 
set_option maxHeartbeats 4000000 in
set_option maxRecDepth 100000 in
theorem km214_X13_inmost (l : Launch) (G : KG) (tag : Nat → Nat) (L : List Nat) (F : Nat → va_E) (ho : okT G ttC tag L F) (p0 : Nat) (p1 : Int32) (x0 : Nat) (m0 : p0 ∈ L) (g0 : tag p0 = 46) (h1 : 0 ≤ p1.toInt ∧ p1.toInt ≤ 3) (mx0 : x0 ∈ L) (gx0 : tag x0 = 37) (pf0 : fld F p0 16 = .ref x0) : TMi l yX13_inmost cX13_inmost 3 (some .int) { frames := 1, cells := 0, slots := 0, locals := 22 } G ttC tag L F [.ref p0, .int p1] (fun r F1 => F1 = F ∧ ((-2) ≤ r.toInt ∧ r.toInt ≤ 6) ∧ ((r.toInt ≠ -2 → 1 ≤ r.toInt ∧ r.toInt ≤ 6) ∧ (r.toInt ≠ -2 ↔ INM F1 x0 p1))) := by
  refine t_bodyi (y := yX13_inmost) (cd := cX13_inmost) (mL := 3) (rt := (some .int)) (rm := { frames := 1, cells := 0, slots := 0, locals := 22 }) (av := [.ref p0, .int p1]) (by decide) (Nat.le_of_ble_eq_true rfl) ho ?_
  intro p e s m args below meth c ls A Q hQ X hT hl
  have hx := X.1.1
  have hb := X.1.2.1
  have hl : lv_has ls 3 [(0, .ref p0), (1, .int p1)] := hl
  have K2 : ∀ (n : Nat) (z62838 : Int32) (H : Heap) (locs : List Loc) (ls : Array Slot), (7 - z62838.toInt < (n : Int)) → (1 ≤ z62838.toInt ∧ z62838.toInt ≤ 7) → TH G ttC A s tag L F H locs → (∀ k : Int, 1 ≤ k → k < z62838.toInt → elm F x0 (48 * p1.toInt + 8 * k + 9).toNat ≠ 0) → lv_has ls 3 [(0, .ref p0), (1, .int p1), (2, .int z62838)] → W p l e { frames := 1, cells := 0, slots := 0, locals := 22 } s m args below meth c H locs 0 0 Q (F0 m 2 ls []) := by
    intro n
    induction n with
    | zero =>
      intro z62838 H locs ls hn rz62838 hT ex2_0 hl
      exfalso
      omega
    | succ n ih2 =>
      intro z62838 H locs ls hn rz62838 hT ex2_0 hl
      refine lv_iload_n hx hb dX13_inmost_2 rfl (lv_at hl 2 rfl) ?_
      refine lv_aload_n hx hb dX13_inmost_3 rfl (lv_at hl 0 rfl) ?_
      refine t_get (C := RX13) (T := TX13) (N := 37) X hT m0 g0 rfl rfl 16 (by decide) qw_112 inlX13 rfl dX13_inmost_4 (fun v62839 hv62839 ov62839 => ?_)
      obtain rfl : v62839 = .ref x0 := hv62839.symm.trans pf0
      refine lv_iconst (v := 0) hx hb dX13_inmost_7 (by decide) ?_
      refine lv_iload_n hx hb dX13_inmost_8 rfl (lv_at hl 1 rfl) ?_
      refine lv_iadd hx hb dX13_inmost_9 ?_
      refine lv_topi (fun z62840 ez62840 => ?_)
      obtain rfl : p1 = z62840 := (ar_zadd ez62840).symm
      refine t_ild X hT mx0 gx0 rfl (by omega) dX13_inmost_10 (fun z62841 vz62841 rz62841 => ?_)
      have rz62841 := row_ml (by omega) rz62841
      refine lv_icmp_gt (tgt := 36) hx hb dX13_inmost_11 (by decide) (fun c62842 => ?_) (fun c62842 => ?_)
      · have w62843 := cv_lt (rfl : z62841.toInt = z62841.toInt) (rfl : z62838.toInt = z62838.toInt) c62842
        refine lv_bipush (v := (-2)) hx hb dX13_inmost_36 (by decide) ?_
        have k62844 : ((-2) : Int32).toInt = (-2) := by decide
        exact t_iret hQ X hT (⟨rfl, (by decide), ⟨fun h9 => absurd (by decide) h9, fun h9 => absurd (by decide) h9, fun h9 => absurd h9 (inm_n ex2_0 vz62841 (by omega))⟩⟩) (Nat.le_of_ble_eq_true rfl) (Nat.le_of_ble_eq_true rfl) dX13_inmost_38
      · have w62845 := cv_nlt (rfl : z62841.toInt = z62841.toInt) (rfl : z62838.toInt = z62838.toInt) c62842
        refine lv_aload_n hx hb dX13_inmost_14 rfl (lv_at hl 0 rfl) ?_
        refine t_get (C := RX13) (T := TX13) (N := 37) X hT m0 g0 rfl rfl 16 (by decide) qw_112 inlX13 rfl dX13_inmost_15 (fun v62846 hv62846 ov62846 => ?_)
        obtain rfl : v62846 = .ref x0 := hv62846.symm.trans pf0
        refine lv_iload_n hx hb dX13_inmost_18 rfl (lv_at hl 1 rfl) ?_
        refine lv_iload_n hx hb dX13_inmost_19 rfl (lv_at hl 2 rfl) ?_
        refine lv_iconst (v := 5) hx hb dX13_inmost_20 (by decide) ?_
        refine t_cSi (n := 3) (As := [.int p1, .int z62838, .int 5]) (rest := [.ref x0]) X hT (km49_X13_part l G tag L F hT.2.2.2 p1 z62838 5 (by omega) (by omega) (by decide)) qw_661 qw_662 qw_5 qw_663 ⟨by decide +kernel, by decide +kernel, by decide +kernel⟩ ⟨Nat.le_of_ble_eq_true rfl, Nat.le_of_ble_eq_true rfl⟩ hl rfl rfl (Nat.le_of_ble_eq_true rfl) dX13_inmost_21 ⟨Nat.le_of_ble_eq_true rfl, Nat.le_of_ble_eq_true rfl⟩ (fun z62847 F9 H locs hT hz62847 => ?_)
        obtain ⟨fz62847, hz62847, xz62847_0⟩ := hz62847
        rw [fz62847] at hT
        have k62848 : (5 : Int32).toInt = 5 := by decide
        refine t_ild X hT mx0 gx0 rfl (by omega) dX13_inmost_24 (fun z62849 vz62849 rz62849 => ?_)
        have oz62849 := rz62849
        have rz62849 := rg_all z62849
        refine lv_if_ne (tgt := 30) hx hb dX13_inmost_25 (by decide) (fun c62850 => ?_) (fun c62850 => ?_)
        · have w62851 := cv_ne (rfl : z62849.toInt = z62849.toInt) (by decide : (0 : Int32).toInt = 0) c62850
          obtain ⟨z62852, ez62852⟩ : ∃ y : Int32, y = z62838 + 1 := ⟨_, rfl⟩
          have hz62852 : z62852.toInt = z62838.toInt + 1 := ar_add ez62852 rfl (by decide : (1 : Int32).toInt = 1) (by omega) (by omega)
          refine lv_iinc (v := z62852) (lv' := [(2, .int z62852), (0, .ref p0), (1, .int p1)]) hx hb dX13_inmost_30 hl (k := 2) rfl (by rw [ez62852]; rfl) (by decide) rfl (fun ls hl => ?_)
          refine lv_goto (tgt := 2) hx hb dX13_inmost_33 (by decide) ?_
          exact ih2 z62852 _ _ _ (by omega) (by omega) hT (inm_s ex2_0 (by omega) vz62849 (by omega) (by omega)) (lv_sub hl [1, 2, 0] rfl)
        · have w62853 := cv_eq (rfl : z62849.toInt = z62849.toInt) (by decide : (0 : Int32).toInt = 0) c62850
          refine lv_iload_n hx hb dX13_inmost_28 rfl (lv_at hl 2 rfl) ?_
          exact t_iret hQ X hT (⟨rfl, (by omega), ⟨fun _ => by omega, fun _ => inm_r (by omega) vz62841 (by omega) (by omega) vz62849 (by omega), fun _ => by omega⟩⟩) (Nat.le_of_ble_eq_true rfl) (Nat.le_of_ble_eq_true rfl) dX13_inmost_29
  refine lv_iconst (v := 1) hx hb dX13_inmost_0 (by decide) ?_
  refine lv_istore_n (lv' := [(2, .int 1), (0, .ref p0), (1, .int p1)]) hx hb dX13_inmost_1 rfl hl (by decide) rfl (fun ls hl => ?_)
  have k62854 : (1 : Int32).toInt = 1 := by decide
  have k62855 : (1 : Int32).toInt = 1 := by decide
  exact K2 7 1 _ _ _ (by omega) (by decide) hT (fun k k1 k2 => absurd k2 (by omega)) (lv_sub hl [1, 2, 0] rfl)
set_option maxHeartbeats 4000000 in
set_option maxRecDepth 100000 in
theorem km215_X13_goldOf (l : Launch) (G : KG) (tag : Nat → Nat) (L : List Nat) (F : Nat → va_E) (ho : okT G ttC tag L F) (p0 : Nat) (p1 : Int32) (p2 : Int32) (x0 : Nat) (m0 : p0 ∈ L) (g0 : tag p0 = 46) (h1 : 0 ≤ p1.toInt ∧ p1.toInt ≤ 3) (h2 : 1 ≤ p2.toInt ∧ p2.toInt ≤ 6) (mx0 : x0 ∈ L) (gx0 : tag x0 = 45) (pf0 : fld F p0 3 = .ref x0) : TMi l yX13_goldOf cX13_goldOf 3 (some .int) { frames := 1, cells := 0, slots := 0, locals := 22 } G ttC tag L F [.ref p0, .int p1, .int p2] (fun r F1 => F1 = F ∧ ((-2147483648) ≤ r.toInt ∧ r.toInt ≤ 2147483647)) := by
  refine t_bodyi (y := yX13_goldOf) (cd := cX13_goldOf) (mL := 3) (rt := (some .int)) (rm := { frames := 1, cells := 0, slots := 0, locals := 22 }) (av := [.ref p0, .int p1, .int p2]) (by decide) (Nat.le_of_ble_eq_true rfl) ho ?_
  intro p e s m args below meth c ls A Q hQ X hT hl
  have hx := X.1.1
  have hb := X.1.2.1
  have hl : lv_has ls 3 [(0, .ref p0), (1, .int p1), (2, .int p2)] := hl
  refine lv_aload_n hx hb dX13_goldOf_0 rfl (lv_at hl 0 rfl) ?_
  refine t_get (C := RX13) (T := TX13) (N := 37) X hT m0 g0 rfl rfl 3 (by decide) qw_481 inlX13 rfl dX13_goldOf_1 (fun v62995 hv62995 ov62995 => ?_)
  obtain rfl : v62995 = .ref x0 := hv62995.symm.trans pf0
  refine t_getN (C := RX12) (T := TX12) (N := 31) X hT mx0 gx0 rfl rfl 17 (by decide) (List.mem_of_getElem? (i := 21) rfl) inlX12 rfl dX13_goldOf_4 (fun v62996 hv62996 ov62996 => ?_)
  obtain ⟨b62997, rfl, mb62997, gb62997⟩ := okV_r ov62996
  have gb62997 : tag b62997 = 29 := tg_of gb62997
  refine lv_aload_n hx hb dX13_goldOf_7 rfl (lv_at hl 0 rfl) ?_
  refine t_get (C := RX13) (T := TX13) (N := 37) X hT m0 g0 rfl rfl 16 (by decide) qw_112 inlX13 rfl dX13_goldOf_8 (fun v62998 hv62998 ov62998 => ?_)
  obtain ⟨b62999, rfl, mb62999, gb62999⟩ := okV_r ov62998
  have gb62999 : tag b62999 = 37 := tg_of gb62999
  refine lv_iload_n hx hb dX13_goldOf_11 rfl (lv_at hl 1 rfl) ?_
  refine lv_iload_n hx hb dX13_goldOf_12 rfl (lv_at hl 2 rfl) ?_
  refine lv_iconst (v := 0) hx hb dX13_goldOf_13 (by decide) ?_
  refine t_cSi (n := 3) (As := [.int p1, .int p2, .int 0]) (rest := [.ref b62999, .ref b62997]) X hT (km49_X13_part l G tag L F hT.2.2.2 p1 p2 0 (by omega) (by omega) (by decide)) qw_661 qw_662 qw_5 qw_663 ⟨by decide +kernel, by decide +kernel, by decide +kernel⟩ ⟨Nat.le_of_ble_eq_true rfl, Nat.le_of_ble_eq_true rfl⟩ hl rfl rfl (Nat.le_of_ble_eq_true rfl) dX13_goldOf_14 ⟨Nat.le_of_ble_eq_true rfl, Nat.le_of_ble_eq_true rfl⟩ (fun z63000 F9 H locs hT hz63000 => ?_)
  obtain ⟨fz63000, hz63000, xz63000_0⟩ := hz63000
  rw [fz63000] at hT
  have k63001 : (0 : Int32).toInt = 0 := by decide
  refine t_ild X hT mb62999 gb62999 rfl (by omega) dX13_goldOf_17 (fun z63002 vz63002 rz63002 => ?_)
  have rz63002 := row_sl (by omega) (by omega) rz63002
  refine t_ild X hT mb62997 gb62997 rfl (by omega) dX13_goldOf_18 (fun z63003 vz63003 rz63003 => ?_)
  have rz63003 : (-2147483648) ≤ z63003.toInt ∧ z63003.toInt ≤ 2147483647 := rz63003
  refine lv_bipush (v := 8) hx hb dX13_goldOf_19 (by decide) ?_
  refine lv_imul hx hb dX13_goldOf_21 ?_
  refine lv_topi (fun z63004 ez63004 => ?_)
  have rz63004 := rg_all z63004
  refine lv_iload_n hx hb dX13_goldOf_22 rfl (lv_at hl 2 rfl) ?_
  refine lv_imul hx hb dX13_goldOf_23 ?_
  refine lv_topi (fun z63005 ez63005 => ?_)
  have rz63005 := rg_all z63005
  refine lv_iconst (v := 2) hx hb dX13_goldOf_24 (by decide) ?_
  refine lv_idiv hx hb dX13_goldOf_25 (by decide) ?_
  refine lv_topi (fun z63006 ez63006 => ?_)
  have rz63006 := rg_all z63006
  exact t_iret hQ X hT (⟨rfl, rg_all _⟩) (Nat.le_of_ble_eq_true rfl) (Nat.le_of_ble_eq_true rfl) dX13_goldOf_26
set_option maxHeartbeats 4000000 in
set_option maxRecDepth 100000 in
theorem km216_X13_takes (l : Launch) (G : KG) (tag : Nat → Nat) (L : List Nat) (Fo : Nat → va_E) (ho : okT G ttC tag L Fo) (p0 : Nat) (p1 : Int32) (x0 : Nat) (m0 : p0 ∈ L) (g0 : tag p0 = 46) (mx0 : x0 ∈ L) (gx0 : tag x0 = 45) (pf0 : fld Fo p0 3 = .ref x0) : TMi l yX13_takes cX13_takes 2 (some .int) { frames := 2, cells := 0, slots := 0, locals := 44 } G ttC tag L Fo [.ref p0, .int p1] (fun r F1 => ((-2147483648) ≤ r.toInt ∧ r.toInt ≤ 2147483647) ∧ ((∀ b j : Nat, (tag b ≠ 46 ∨ j ≠ 0) → (tag b ≠ 46 ∨ j ≠ 1) → (tag b ≠ 46 ∨ j ≠ 2) → fld F1 b j = fld Fo b j) ∧ (∀ b j : Nat, elm F1 b j = elm Fo b j))) := by
  refine t_bodyi (y := yX13_takes) (cd := cX13_takes) (mL := 2) (rt := (some .int)) (rm := { frames := 2, cells := 0, slots := 0, locals := 44 }) (av := [.ref p0, .int p1]) (by decide) (Nat.le_of_ble_eq_true rfl) ho ?_
  intro p e s m args below meth c ls A Q hQ X hT hl
  have hx := X.1.1
  have hb := X.1.2.1
  have hl : lv_has ls 2 [(0, .ref p0), (1, .int p1)] := hl
  have rp1 := rg_all p1
  obtain ⟨F, hFo⟩ : ∃ F : Nat → va_E, F = Fo := ⟨_, rfl⟩
  rw [← hFo] at hT pf0
  have hfr : (∀ b j : Nat, (tag b ≠ 46 ∨ j ≠ 0) → (tag b ≠ 46 ∨ j ≠ 1) → (tag b ≠ 46 ∨ j ≠ 2) → fld F b j = fld Fo b j) ∧ (∀ b j : Nat, elm F b j = elm Fo b j) := by
    rw [hFo]
    exact ⟨by intros; rfl, by intros; rfl⟩
  refine lv_aload_n hx hb dX13_takes_0 rfl (lv_at hl 0 rfl) ?_
  refine lv_iconst (v := 0) hx hb dX13_takes_1 (by decide) ?_
  refine t_put (C := RX13) (T := TX13) (N := 37) (v := .int 0) X hT m0 g0 rfl tyX13 tyX13_ok nmX13 rfl 0 (by decide) qw_140 inlX13 rfl (by first | rfl | decide) (by first | rfl | decide) rfl (⟨_, rfl, (show (-2147483648) ≤ (0 : Int32).toInt from (by decide)), (show (0 : Int32).toInt ≤ 2147483647 from (by decide))⟩) dX13_takes_2 (fun F H locs hT v63193 h1v63193 h2v63193 => ?_)
  have pf0 := (h1v63193 _ _ (Or.inr (by decide))).trans pf0
  have hfr : (∀ b j : Nat, (tag b ≠ 46 ∨ j ≠ 0) → (tag b ≠ 46 ∨ j ≠ 1) → (tag b ≠ 46 ∨ j ≠ 2) → fld F b j = fld Fo b j) ∧ (∀ b j : Nat, elm F b j = elm Fo b j) := ⟨fun b j n46_0 n46_1 n46_2 => (h1v63193 b j (fr_ne g0 n46_0)).trans (hfr.1 b j n46_0 n46_1 n46_2), fun b j  => (h2v63193 b j).trans (hfr.2 b j )⟩
  refine lv_aload_n hx hb dX13_takes_5 rfl (lv_at hl 0 rfl) ?_
  refine lv_iload_n hx hb dX13_takes_6 rfl (lv_at hl 1 rfl) ?_
  refine t_cVi (n := 1) (C := RX13) (T := TX13) (N := 37) (As := [.int p1]) (rest := []) X hT (km107_X13_isHouse l G tag L F hT.2.2.2 p0 p1 x0 m0 g0 mx0 gx0 pf0) m0 g0 rfl rfl qw_796 qw_797 qw_798 qw_5 qw_799 ⟨rfl, by decide +kernel, by decide +kernel, by decide +kernel⟩ ⟨Nat.le_of_ble_eq_true rfl, Nat.le_of_ble_eq_true rfl⟩ hl rfl rfl (Nat.le_of_ble_eq_true rfl) dX13_takes_7 ⟨Nat.le_of_ble_eq_true rfl, Nat.le_of_ble_eq_true rfl⟩ (fun z63194 F9 H locs hT hz63194 => ?_)
  obtain ⟨fz63194, hz63194⟩ := hz63194
  rw [fz63194] at hT
  obtain ⟨hz63194, iz63194⟩ := hz63194
  refine lv_if_ne (tgt := 19) hx hb dX13_takes_10 (by decide) (fun c63195 => ?_) (fun c63195 => ?_)
  · have w63196 := cv_ne (rfl : z63194.toInt = z63194.toInt) (by decide : (0 : Int32).toInt = 0) c63195
    have w63197 := (fun h => (iz63194 h)) (by omega)
    refine lv_aload_n hx hb dX13_takes_19 rfl (lv_at hl 0 rfl) ?_
    refine lv_aload_n hx hb dX13_takes_20 rfl (lv_at hl 0 rfl) ?_
    refine lv_iload_n hx hb dX13_takes_21 rfl (lv_at hl 1 rfl) ?_
    obtain ⟨z63198, qz63198, mz63198, gz63198⟩ := t_fldr hT m0 g0 rfl 16 rfl
    have gz63198 : tag z63198 = 37 := tg_of gz63198
    refine t_cVi (n := 1) (C := RX13) (T := TX13) (N := 37) (As := [.int p1]) (rest := [.ref p0]) X hT (km214_X13_inmost l G tag L F hT.2.2.2 p0 p1 z63198 m0 g0 (by omega) mz63198 gz63198 qz63198) m0 g0 rfl rfl qw_1304 qw_1305 qw_1306 qw_5 qw_1307 ⟨rfl, by decide +kernel, by decide +kernel, by decide +kernel⟩ ⟨Nat.le_of_ble_eq_true rfl, Nat.le_of_ble_eq_true rfl⟩ hl rfl rfl (Nat.le_of_ble_eq_true rfl) dX13_takes_22 ⟨Nat.le_of_ble_eq_true rfl, Nat.le_of_ble_eq_true rfl⟩ (fun z63199 F9 H locs hT hz63199 => ?_)
    obtain ⟨fz63199, hz63199, xz63199_0⟩ := hz63199
    rw [fz63199] at hT xz63199_0
    refine lv_bipush (v := (-2)) hx hb dX13_takes_25 (by decide) ?_
    refine lv_icmp_ne (tgt := 35) hx hb dX13_takes_27 (by decide) (fun c63200 => ?_) (fun c63200 => ?_)
    · have w63201 := cv_ne (rfl : z63199.toInt = z63199.toInt) (by decide : ((-2) : Int32).toInt = (-2)) c63200
      have w63202 := xz63199_0.1 (by omega)
      refine lv_aload_n hx hb dX13_takes_35 rfl (lv_at hl 0 rfl) ?_
      refine lv_iload_n hx hb dX13_takes_36 rfl (lv_at hl 1 rfl) ?_
      refine lv_aload_n hx hb dX13_takes_37 rfl (lv_at hl 0 rfl) ?_
      refine lv_iload_n hx hb dX13_takes_38 rfl (lv_at hl 1 rfl) ?_
      refine t_cVi (n := 1) (C := RX13) (T := TX13) (N := 37) (As := [.int p1]) (rest := [.int p1, .ref p0, .ref p0]) X hT (km214_X13_inmost l G tag L F hT.2.2.2 p0 p1 z63198 m0 g0 (by omega) mz63198 gz63198 qz63198) m0 g0 rfl rfl qw_1304 qw_1305 qw_1306 qw_5 qw_1307 ⟨rfl, by decide +kernel, by decide +kernel, by decide +kernel⟩ ⟨Nat.le_of_ble_eq_true rfl, Nat.le_of_ble_eq_true rfl⟩ hl rfl rfl (Nat.le_of_ble_eq_true rfl) dX13_takes_39 ⟨Nat.le_of_ble_eq_true rfl, Nat.le_of_ble_eq_true rfl⟩ (fun z63203 F9 H locs hT hz63203 => ?_)
      obtain ⟨fz63203, hz63203, xz63203_0⟩ := hz63203
      rw [fz63203] at hT xz63203_0
      have w63204 := xz63203_0.1 (xz63203_0.2.mpr (xz63199_0.2.mp (by omega)))
      refine t_cVi (n := 2) (C := RX13) (T := TX13) (N := 37) (As := [.int p1, .int z63203]) (rest := [.ref p0]) X hT (km215_X13_goldOf l G tag L F hT.2.2.2 p0 p1 z63203 x0 m0 g0 (by omega) (by omega) mx0 gx0 pf0) m0 g0 rfl rfl qw_1308 qw_1309 qw_1310 qw_5 qw_1311 ⟨rfl, by decide +kernel, by decide +kernel, by decide +kernel⟩ ⟨Nat.le_of_ble_eq_true rfl, Nat.le_of_ble_eq_true rfl⟩ hl rfl rfl (Nat.le_of_ble_eq_true rfl) dX13_takes_42 ⟨Nat.le_of_ble_eq_true rfl, Nat.le_of_ble_eq_true rfl⟩ (fun z63205 F9 H locs hT hz63205 => ?_)
      obtain ⟨fz63205, hz63205⟩ := hz63205
      rw [fz63205] at hT
      refine t_cVi (n := 1) (C := RX13) (T := TX13) (N := 37) (As := [.int z63205]) (rest := []) X hT (km93_X13_good l G tag L F hT.2.2.2 p0 z63205 m0 g0) m0 g0 rfl rfl qw_687 qw_688 qw_689 qw_5 qw_690 ⟨rfl, by decide +kernel, by decide +kernel, by decide +kernel⟩ ⟨Nat.le_of_ble_eq_true rfl, Nat.le_of_ble_eq_true rfl⟩ hl rfl rfl (Nat.le_of_ble_eq_true rfl) dX13_takes_45 ⟨Nat.le_of_ble_eq_true rfl, Nat.le_of_ble_eq_true rfl⟩ (fun z63206 F H locs hT hz63206 => ?_)
      obtain ⟨hz63206, yz63206⟩ := hz63206
      have pf0 := (yz63206.1 _ 3 (Or.inr (by decide)) (Or.inr (by decide))).trans pf0
      have v63193 := (yz63206.1 _ 0 (Or.inr (by decide)) (Or.inr (by decide))).trans v63193
      have qz63198 := (yz63206.1 _ 16 (Or.inr (by decide)) (Or.inr (by decide))).trans qz63198
      have hfr : (∀ b j : Nat, (tag b ≠ 46 ∨ j ≠ 0) → (tag b ≠ 46 ∨ j ≠ 1) → (tag b ≠ 46 ∨ j ≠ 2) → fld F b j = fld Fo b j) ∧ (∀ b j : Nat, elm F b j = elm Fo b j) := ⟨fun b j n46_0 n46_1 n46_2 => (yz63206.1 b j n46_1 n46_2).trans (hfr.1 b j n46_0 n46_1 n46_2), fun b j  => (yz63206.2 b j ).trans (hfr.2 b j )⟩
      exact t_iret hQ X hT (⟨rg_all _, hfr⟩) (Nat.le_of_ble_eq_true rfl) (Nat.le_of_ble_eq_true rfl) dX13_takes_48
    · have w63207 := cv_eq (rfl : z63199.toInt = z63199.toInt) (by decide : ((-2) : Int32).toInt = (-2)) c63200
      refine lv_bipush (v := (-2)) hx hb dX13_takes_30 (by decide) ?_
      refine lv_goto (tgt := 45) hx hb dX13_takes_32 (by decide) ?_
      refine t_cVi (n := 1) (C := RX13) (T := TX13) (N := 37) (As := [.int (-2)]) (rest := []) X hT (km93_X13_good l G tag L F hT.2.2.2 p0 (-2) m0 g0) m0 g0 rfl rfl qw_687 qw_688 qw_689 qw_5 qw_690 ⟨rfl, by decide +kernel, by decide +kernel, by decide +kernel⟩ ⟨Nat.le_of_ble_eq_true rfl, Nat.le_of_ble_eq_true rfl⟩ hl rfl rfl (Nat.le_of_ble_eq_true rfl) dX13_takes_45 ⟨Nat.le_of_ble_eq_true rfl, Nat.le_of_ble_eq_true rfl⟩ (fun z63208 F H locs hT hz63208 => ?_)
      obtain ⟨hz63208, yz63208⟩ := hz63208
      have pf0 := (yz63208.1 _ 3 (Or.inr (by decide)) (Or.inr (by decide))).trans pf0
      have v63193 := (yz63208.1 _ 0 (Or.inr (by decide)) (Or.inr (by decide))).trans v63193
      have qz63198 := (yz63208.1 _ 16 (Or.inr (by decide)) (Or.inr (by decide))).trans qz63198
      have hfr : (∀ b j : Nat, (tag b ≠ 46 ∨ j ≠ 0) → (tag b ≠ 46 ∨ j ≠ 1) → (tag b ≠ 46 ∨ j ≠ 2) → fld F b j = fld Fo b j) ∧ (∀ b j : Nat, elm F b j = elm Fo b j) := ⟨fun b j n46_0 n46_1 n46_2 => (yz63208.1 b j n46_1 n46_2).trans (hfr.1 b j n46_0 n46_1 n46_2), fun b j  => (yz63208.2 b j ).trans (hfr.2 b j )⟩
      exact t_iret hQ X hT (⟨rg_all _, hfr⟩) (Nat.le_of_ble_eq_true rfl) (Nat.le_of_ble_eq_true rfl) dX13_takes_48
  · have w63209 := cv_eq (rfl : z63194.toInt = z63194.toInt) (by decide : (0 : Int32).toInt = 0) c63195
    refine lv_aload_n hx hb dX13_takes_13 rfl (lv_at hl 0 rfl) ?_
    refine lv_iconst (v := 1) hx hb dX13_takes_14 (by decide) ?_
    refine t_cVi (n := 1) (C := RX13) (T := TX13) (N := 37) (As := [.int 1]) (rest := []) X hT (km88_X13_refused l G tag L F hT.2.2.2 p0 1 m0 g0) m0 g0 rfl rfl qw_484 qw_485 qw_486 qw_5 qw_487 ⟨rfl, by decide +kernel, by decide +kernel, by decide +kernel⟩ ⟨Nat.le_of_ble_eq_true rfl, Nat.le_of_ble_eq_true rfl⟩ hl rfl rfl (Nat.le_of_ble_eq_true rfl) dX13_takes_15 ⟨Nat.le_of_ble_eq_true rfl, Nat.le_of_ble_eq_true rfl⟩ (fun z63210 F H locs hT hz63210 => ?_)
    obtain ⟨hz63210, yz63210⟩ := hz63210
    have pf0 := (yz63210.1 _ 3 (Or.inr (by decide)) (Or.inr (by decide))).trans pf0
    have v63193 := (yz63210.1 _ 0 (Or.inr (by decide)) (Or.inr (by decide))).trans v63193
    have hfr : (∀ b j : Nat, (tag b ≠ 46 ∨ j ≠ 0) → (tag b ≠ 46 ∨ j ≠ 1) → (tag b ≠ 46 ∨ j ≠ 2) → fld F b j = fld Fo b j) ∧ (∀ b j : Nat, elm F b j = elm Fo b j) := ⟨fun b j n46_0 n46_1 n46_2 => (yz63210.1 b j n46_1 n46_2).trans (hfr.1 b j n46_0 n46_1 n46_2), fun b j  => (yz63210.2 b j ).trans (hfr.2 b j )⟩
    exact t_iret hQ X hT (⟨rg_all _, hfr⟩) (Nat.le_of_ble_eq_true rfl) (Nat.le_of_ble_eq_true rfl) dX13_takes_18
set_option maxHeartbeats 4000000 in
set_option maxRecDepth 100000 in
theorem km217_X13_takes (l : Launch) (G : KG) (tag : Nat → Nat) (L : List Nat) (Fo : Nat → va_E) (ho : okT G ttC tag L Fo) (p0 : Nat) (p1 : Int32) (m0 : p0 ∈ L) (g0 : tag p0 = 46) (pf0 : fld Fo p0 3 = .null) : TMi l yX13_takes cX13_takes 2 (some .int) { frames := 2, cells := 0, slots := 0, locals := 44 } G ttC tag L Fo [.ref p0, .int p1] (fun r F1 => ((-2147483648) ≤ r.toInt ∧ r.toInt ≤ 2147483647) ∧ ((∀ b j : Nat, (tag b ≠ 46 ∨ j ≠ 0) → (tag b ≠ 46 ∨ j ≠ 1) → (tag b ≠ 46 ∨ j ≠ 2) → fld F1 b j = fld Fo b j) ∧ (∀ b j : Nat, elm F1 b j = elm Fo b j))) := by
  refine t_bodyi (y := yX13_takes) (cd := cX13_takes) (mL := 2) (rt := (some .int)) (rm := { frames := 2, cells := 0, slots := 0, locals := 44 }) (av := [.ref p0, .int p1]) (by decide) (Nat.le_of_ble_eq_true rfl) ho ?_
  intro p e s m args below meth c ls A Q hQ X hT hl
  have hx := X.1.1
  have hb := X.1.2.1
  have hl : lv_has ls 2 [(0, .ref p0), (1, .int p1)] := hl
  have rp1 := rg_all p1
  obtain ⟨F, hFo⟩ : ∃ F : Nat → va_E, F = Fo := ⟨_, rfl⟩
  rw [← hFo] at hT pf0
  have hfr : (∀ b j : Nat, (tag b ≠ 46 ∨ j ≠ 0) → (tag b ≠ 46 ∨ j ≠ 1) → (tag b ≠ 46 ∨ j ≠ 2) → fld F b j = fld Fo b j) ∧ (∀ b j : Nat, elm F b j = elm Fo b j) := by
    rw [hFo]
    exact ⟨by intros; rfl, by intros; rfl⟩
  refine lv_aload_n hx hb dX13_takes_0 rfl (lv_at hl 0 rfl) ?_
  refine lv_iconst (v := 0) hx hb dX13_takes_1 (by decide) ?_
  refine t_put (C := RX13) (T := TX13) (N := 37) (v := .int 0) X hT m0 g0 rfl tyX13 tyX13_ok nmX13 rfl 0 (by decide) qw_140 inlX13 rfl (by first | rfl | decide) (by first | rfl | decide) rfl (⟨_, rfl, (show (-2147483648) ≤ (0 : Int32).toInt from (by decide)), (show (0 : Int32).toInt ≤ 2147483647 from (by decide))⟩) dX13_takes_2 (fun F H locs hT v63277 h1v63277 h2v63277 => ?_)
  have pf0 := (h1v63277 _ _ (Or.inr (by decide))).trans pf0
  have hfr : (∀ b j : Nat, (tag b ≠ 46 ∨ j ≠ 0) → (tag b ≠ 46 ∨ j ≠ 1) → (tag b ≠ 46 ∨ j ≠ 2) → fld F b j = fld Fo b j) ∧ (∀ b j : Nat, elm F b j = elm Fo b j) := ⟨fun b j n46_0 n46_1 n46_2 => (h1v63277 b j (fr_ne g0 n46_0)).trans (hfr.1 b j n46_0 n46_1 n46_2), fun b j  => (h2v63277 b j).trans (hfr.2 b j )⟩
  refine lv_aload_n hx hb dX13_takes_5 rfl (lv_at hl 0 rfl) ?_
  refine lv_iload_n hx hb dX13_takes_6 rfl (lv_at hl 1 rfl) ?_
  refine t_cVi (n := 1) (C := RX13) (T := TX13) (N := 37) (As := [.int p1]) (rest := []) X hT (km116_X13_isHouse l G tag L F hT.2.2.2 p0 p1 m0 g0 pf0) m0 g0 rfl rfl qw_796 qw_797 qw_798 qw_5 qw_799 ⟨rfl, by decide +kernel, by decide +kernel, by decide +kernel⟩ ⟨Nat.le_of_ble_eq_true rfl, Nat.le_of_ble_eq_true rfl⟩ hl rfl rfl (Nat.le_of_ble_eq_true rfl) dX13_takes_7 ⟨Nat.le_of_ble_eq_true rfl, Nat.le_of_ble_eq_true rfl⟩ (fun z63278 F9 H locs hT hz63278 => ?_)
  obtain ⟨fz63278, hz63278⟩ := hz63278
  rw [fz63278] at hT
  refine lv_if_ne (tgt := 19) hx hb dX13_takes_10 (by decide) (fun c63279 => ?_) (fun c63279 => ?_)
  · have w63280 := cv_ne (rfl : z63278.toInt = z63278.toInt) (by decide : (0 : Int32).toInt = 0) c63279
    exfalso
    omega
  · have w63281 := cv_eq (rfl : z63278.toInt = z63278.toInt) (by decide : (0 : Int32).toInt = 0) c63279
    refine lv_aload_n hx hb dX13_takes_13 rfl (lv_at hl 0 rfl) ?_
    refine lv_iconst (v := 1) hx hb dX13_takes_14 (by decide) ?_
    refine t_cVi (n := 1) (C := RX13) (T := TX13) (N := 37) (As := [.int 1]) (rest := []) X hT (km88_X13_refused l G tag L F hT.2.2.2 p0 1 m0 g0) m0 g0 rfl rfl qw_484 qw_485 qw_486 qw_5 qw_487 ⟨rfl, by decide +kernel, by decide +kernel, by decide +kernel⟩ ⟨Nat.le_of_ble_eq_true rfl, Nat.le_of_ble_eq_true rfl⟩ hl rfl rfl (Nat.le_of_ble_eq_true rfl) dX13_takes_15 ⟨Nat.le_of_ble_eq_true rfl, Nat.le_of_ble_eq_true rfl⟩ (fun z63282 F H locs hT hz63282 => ?_)
    obtain ⟨hz63282, yz63282⟩ := hz63282
    have pf0 := (yz63282.1 _ 3 (Or.inr (by decide)) (Or.inr (by decide))).trans pf0
    have v63277 := (yz63282.1 _ 0 (Or.inr (by decide)) (Or.inr (by decide))).trans v63277
    have hfr : (∀ b j : Nat, (tag b ≠ 46 ∨ j ≠ 0) → (tag b ≠ 46 ∨ j ≠ 1) → (tag b ≠ 46 ∨ j ≠ 2) → fld F b j = fld Fo b j) ∧ (∀ b j : Nat, elm F b j = elm Fo b j) := ⟨fun b j n46_0 n46_1 n46_2 => (yz63282.1 b j n46_1 n46_2).trans (hfr.1 b j n46_0 n46_1 n46_2), fun b j  => (yz63282.2 b j ).trans (hfr.2 b j )⟩
    exact t_iret hQ X hT (⟨rg_all _, hfr⟩) (Nat.le_of_ble_eq_true rfl) (Nat.le_of_ble_eq_true rfl) dX13_takes_18
theorem kp_X13_takes (l : Launch) (G : KG) (tag : Nat → Nat) (L : List Nat) (Fo : Nat → va_E) (ho : okT G ttC tag L Fo) (p0 : Nat) (p1 : Int32) (m0 : p0 ∈ L) (g0 : tag p0 = 46) : TMi l yX13_takes cX13_takes 2 (some .int) { frames := 2, cells := 0, slots := 0, locals := 44 } G ttC tag L Fo [.ref p0, .int p1] (fun r F1 => ((-2147483648) ≤ r.toInt ∧ r.toInt ≤ 2147483647) ∧ ((∀ b j : Nat, (tag b ≠ 46 ∨ j ≠ 0) → (tag b ≠ 46 ∨ j ≠ 1) → (tag b ≠ 46 ∨ j ≠ 2) → fld F1 b j = fld Fo b j) ∧ (∀ b j : Nat, elm F1 b j = elm Fo b j))) := by
  rcases t_fldn ho m0 g0 rfl 3 rfl with h9 | ⟨b9, h9, m9, t9⟩
  · exact km217_X13_takes l G tag L Fo ho p0 p1  m0 g0 h9 
  · exact km216_X13_takes l G tag L Fo ho p0 p1 b9  m0 g0 m9 (tg_of t9) h9 
set_option maxHeartbeats 4000000 in
set_option maxRecDepth 100000 in
theorem km219_X13_isLivedIn (l : Launch) (G : KG) (tag : Nat → Nat) (L : List Nat) (F : Nat → va_E) (ho : okT G ttC tag L F) (p0 : Nat) (p1 : Int32) (p2 : Int32) (x0 : Nat) (m0 : p0 ∈ L) (g0 : tag p0 = 46) (mx0 : x0 ∈ L) (gx0 : tag x0 = 45) (pf0 : fld F p0 3 = .ref x0) : TMi l yX13_isLivedIn cX13_isLivedIn 4 (some .boolean) { frames := 0, cells := 0, slots := 0, locals := 0 } G ttC tag L F [.ref p0, .int p1, .int p2] (fun r F1 => F1 = F ∧ (0 ≤ r.toInt ∧ r.toInt ≤ 1)) := by
  refine t_bodyi (y := yX13_isLivedIn) (cd := cX13_isLivedIn) (mL := 4) (rt := (some .boolean)) (rm := { frames := 0, cells := 0, slots := 0, locals := 0 }) (av := [.ref p0, .int p1, .int p2]) (by decide) (Nat.le_of_ble_eq_true rfl) ho ?_
  intro p e s m args below meth c ls A Q hQ X hT hl
  have hx := X.1.1
  have hb := X.1.2.1
  have hl : lv_has ls 4 [(0, .ref p0), (1, .int p1), (2, .int p2)] := hl
  have rp1 := rg_all p1
  have rp2 := rg_all p2
  have K2 : ∀ (n : Nat) (z63681 : Int32) (H : Heap) (locs : List Loc) (ls : Array Slot), (6 - z63681.toInt < (n : Int)) → (0 ≤ z63681.toInt ∧ z63681.toInt ≤ 6) → TH G ttC A s tag L F H locs → lv_has ls 4 [(0, .ref p0), (1, .int p1), (2, .int p2), (3, .int z63681)] → W p l e { frames := 0, cells := 0, slots := 0, locals := 0 } s m args below meth c H locs 0 0 Q (F0 m 2 ls []) := by
    intro n
    induction n with
    | zero =>
      intro z63681 H locs ls hn rz63681 hT hl
      exfalso
      omega
    | succ n ih2 =>
      intro z63681 H locs ls hn rz63681 hT hl
      have K42 : ∀ (z63683 : Int32) (H : Heap) (locs : List Loc) (ls : Array Slot), (1 ≤ z63683.toInt ∧ z63683.toInt ≤ 6) → (0 ≤ z63681.toInt ∧ z63681.toInt ≤ 5) → TH G ttC A s tag L F H locs → (fld F x0 9 = .int z63683) → lv_has ls 4 [(0, .ref p0), (1, .int p1), (2, .int p2), (3, .int z63681)] → W p l e { frames := 0, cells := 0, slots := 0, locals := 0 } s m args below meth c H locs 0 0 Q (F0 m 42 ls []) := by
        intro z63683 H locs ls rz63683 r9s63682 hT qz63683 hl
        obtain ⟨z63684, ez63684⟩ : ∃ y : Int32, y = z63681 + 1 := ⟨_, rfl⟩
        have hz63684 : z63684.toInt = z63681.toInt + 1 := ar_add ez63684 rfl (by decide : (1 : Int32).toInt = 1) (by omega) (by omega)
        refine lv_iinc (v := z63684) (lv' := [(3, .int z63684), (0, .ref p0), (1, .int p1), (2, .int p2)]) hx hb dX13_isLivedIn_42 hl (k := 3) rfl (by rw [ez63684]; rfl) (by decide) rfl (fun ls hl => ?_)
        refine lv_goto (tgt := 2) hx hb dX13_isLivedIn_45 (by decide) ?_
        exact ih2 z63684 _ _ _ (by omega) (by omega) hT  (lv_sub hl [1, 2, 3, 0] rfl)
      refine lv_iload_n hx hb dX13_isLivedIn_2 rfl (lv_at hl 3 rfl) ?_
      refine lv_aload_n hx hb dX13_isLivedIn_3 rfl (lv_at hl 0 rfl) ?_
      refine t_get (C := RX13) (T := TX13) (N := 37) X hT m0 g0 rfl rfl 3 (by decide) qw_481 inlX13 rfl dX13_isLivedIn_4 (fun v63685 hv63685 ov63685 => ?_)
      obtain rfl : v63685 = .ref x0 := hv63685.symm.trans pf0
      refine t_getN (C := RX12) (T := TX12) (N := 31) X hT mx0 gx0 rfl rfl 9 (by decide) (List.mem_of_getElem? (i := 13) rfl) inlX12 rfl dX13_isLivedIn_7 (fun v63686 hv63686 ov63686 => ?_)
      obtain ⟨z63687, rfl, rz63687⟩ := okV_i ov63686
      refine lv_icmp_ge (tgt := 48) hx hb dX13_isLivedIn_10 (by decide) (fun c63688 => ?_) (fun c63688 => ?_)
      · have w63689 := cv_le (rfl : z63687.toInt = z63687.toInt) (rfl : z63681.toInt = z63681.toInt) c63688
        refine lv_iconst (v := 0) hx hb dX13_isLivedIn_48 (by decide) ?_
        have k63690 : (0 : Int32).toInt = 0 := by decide
        exact t_zret hQ X hT (by decide) (⟨rfl, (by decide)⟩) (Nat.le_of_ble_eq_true rfl) (Nat.le_of_ble_eq_true rfl) dX13_isLivedIn_49
      · have w63691 := cv_nle (rfl : z63687.toInt = z63687.toInt) (rfl : z63681.toInt = z63681.toInt) c63688
        refine lv_aload_n hx hb dX13_isLivedIn_13 rfl (lv_at hl 0 rfl) ?_
        refine t_get (C := RX13) (T := TX13) (N := 37) X hT m0 g0 rfl rfl 3 (by decide) qw_481 inlX13 rfl dX13_isLivedIn_14 (fun v63692 hv63692 ov63692 => ?_)
        obtain rfl : v63692 = .ref x0 := hv63692.symm.trans pf0
        refine t_getN (C := RX12) (T := TX12) (N := 31) X hT mx0 gx0 rfl rfl 23 (by decide) (List.mem_of_getElem? (i := 27) rfl) inlX12 rfl dX13_isLivedIn_17 (fun v63693 hv63693 ov63693 => ?_)
        obtain ⟨b63694, rfl, mb63694, gb63694⟩ := okV_r ov63693
        have gb63694 : tag b63694 = 32 := tg_of gb63694
        refine lv_iload_n hx hb dX13_isLivedIn_20 rfl (lv_at hl 3 rfl) ?_
        refine t_ild X hT mb63694 gb63694 rfl (by omega) dX13_isLivedIn_21 (fun z63695 vz63695 rz63695 => ?_)
        have rz63695 : 0 ≤ z63695.toInt ∧ z63695.toInt ≤ 3 := rz63695
        refine lv_iload_n hx hb dX13_isLivedIn_22 rfl (lv_at hl 1 rfl) ?_
        refine lv_icmp_ne (tgt := 42) hx hb dX13_isLivedIn_23 (by decide) (fun c63696 => ?_) (fun c63696 => ?_)
        · have w63697 := cv_ne (rfl : z63695.toInt = z63695.toInt) (rfl : p1.toInt = p1.toInt) c63696
          exact K42 z63687 _ _ _ (by omega) (by omega) hT hv63686 (lv_sub hl [0, 1, 2, 3] rfl)
        · have w63698 := cv_eq (rfl : z63695.toInt = z63695.toInt) (rfl : p1.toInt = p1.toInt) c63696
          refine lv_aload_n hx hb dX13_isLivedIn_26 rfl (lv_at hl 0 rfl) ?_
          refine t_get (C := RX13) (T := TX13) (N := 37) X hT m0 g0 rfl rfl 16 (by decide) qw_112 inlX13 rfl dX13_isLivedIn_27 (fun v63699 hv63699 ov63699 => ?_)
          obtain ⟨b63700, rfl, mb63700, gb63700⟩ := okV_r ov63699
          have gb63700 : tag b63700 = 37 := tg_of gb63700
          refine lv_sipush (v := 204) hx hb dX13_isLivedIn_30 (by decide) ?_
          refine lv_iload_n hx hb dX13_isLivedIn_33 rfl (lv_at hl 3 rfl) ?_
          refine lv_iadd hx hb dX13_isLivedIn_34 ?_
          refine lv_topi (fun z63701 ez63701 => ?_)
          have hz63701 : z63701.toInt = 204 + z63681.toInt := ar_add ez63701 (by decide : (204 : Int32).toInt = 204) (rfl : z63681.toInt = z63681.toInt) (by omega) (by omega)
          have rz63701 : 204 ≤ z63701.toInt ∧ z63701.toInt ≤ 209 := by omega
          refine t_ild X hT mb63700 gb63700 rfl (by omega) dX13_isLivedIn_35 (fun z63702 vz63702 rz63702 => ?_)
          have oz63702 := rz63702
          have rz63702 := rg_all z63702
          refine lv_iload_n hx hb dX13_isLivedIn_36 rfl (lv_at hl 2 rfl) ?_
          refine lv_icmp_ne (tgt := 42) hx hb dX13_isLivedIn_37 (by decide) (fun c63703 => ?_) (fun c63703 => ?_)
          · have w63704 := cv_ne (rfl : z63702.toInt = z63702.toInt) (rfl : p2.toInt = p2.toInt) c63703
            exact K42 z63687 _ _ _ (by omega) (by omega) hT hv63686 (lv_sub hl [0, 1, 2, 3] rfl)
          · have w63705 := cv_eq (rfl : z63702.toInt = z63702.toInt) (rfl : p2.toInt = p2.toInt) c63703
            refine lv_iconst (v := 1) hx hb dX13_isLivedIn_40 (by decide) ?_
            have k63706 : (1 : Int32).toInt = 1 := by decide
            exact t_zret hQ X hT (by decide) (⟨rfl, (by decide)⟩) (Nat.le_of_ble_eq_true rfl) (Nat.le_of_ble_eq_true rfl) dX13_isLivedIn_41
  refine lv_iconst (v := 0) hx hb dX13_isLivedIn_0 (by decide) ?_
  refine lv_istore_n (lv' := [(3, .int 0), (0, .ref p0), (1, .int p1), (2, .int p2)]) hx hb dX13_isLivedIn_1 rfl hl (by decide) rfl (fun ls hl => ?_)
  have k63707 : (0 : Int32).toInt = 0 := by decide
  exact K2 7 0 _ _ _ (by omega) (by decide) hT  (lv_sub hl [1, 2, 3, 0] rfl)
set_option maxHeartbeats 4000000 in
set_option maxRecDepth 100000 in
theorem km220_X13_worth (l : Launch) (G : KG) (tag : Nat → Nat) (L : List Nat) (Fo : Nat → va_E) (ho : okT G ttC tag L Fo) (p0 : Nat) (p1 : Int32) (x0 : Nat) (m0 : p0 ∈ L) (g0 : tag p0 = 46) (mx0 : x0 ∈ L) (gx0 : tag x0 = 45) (pf0 : fld Fo p0 3 = .ref x0) : TMi l yX13_worth cX13_worth 4 (some .int) { frames := 2, cells := 0, slots := 0, locals := 44 } G ttC tag L Fo [.ref p0, .int p1] (fun r F1 => ((-2147483648) ≤ r.toInt ∧ r.toInt ≤ 2147483647) ∧ ((∀ b j : Nat, (tag b ≠ 46 ∨ j ≠ 0) → (tag b ≠ 46 ∨ j ≠ 1) → (tag b ≠ 46 ∨ j ≠ 2) → fld F1 b j = fld Fo b j) ∧ (∀ b j : Nat, elm F1 b j = elm Fo b j))) := by
  refine t_bodyi (y := yX13_worth) (cd := cX13_worth) (mL := 4) (rt := (some .int)) (rm := { frames := 2, cells := 0, slots := 0, locals := 44 }) (av := [.ref p0, .int p1]) (by decide) (Nat.le_of_ble_eq_true rfl) ho ?_
  intro p e s m args below meth c ls A Q hQ X hT hl
  have hx := X.1.1
  have hb := X.1.2.1
  have hl : lv_has ls 4 [(0, .ref p0), (1, .int p1)] := hl
  have rp1 := rg_all p1
  obtain ⟨F, hFo⟩ : ∃ F : Nat → va_E, F = Fo := ⟨_, rfl⟩
  rw [← hFo] at hT pf0
  have hfr : (∀ b j : Nat, (tag b ≠ 46 ∨ j ≠ 0) → (tag b ≠ 46 ∨ j ≠ 1) → (tag b ≠ 46 ∨ j ≠ 2) → fld F b j = fld Fo b j) ∧ (∀ b j : Nat, elm F b j = elm Fo b j) := by
    rw [hFo]
    exact ⟨by intros; rfl, by intros; rfl⟩
  have K23 : ∀ (n : Nat) (z64155 : Int32) (z64156 : Int32) (z64157 : Int32) (F : Nat → va_E) (H : Heap) (locs : List Loc) (ls : Array Slot), (6 - z64156.toInt < (n : Int)) → (1 ≤ z64156.toInt ∧ z64156.toInt ≤ 6) → (0 ≤ z64157.toInt ∧ z64157.toInt ≤ 0) → (0 ≤ p1.toInt ∧ p1.toInt ≤ 3) → TH G ttC A s tag L F H locs → ((∀ b j : Nat, (tag b ≠ 46 ∨ j ≠ 0) → (tag b ≠ 46 ∨ j ≠ 1) → (tag b ≠ 46 ∨ j ≠ 2) → fld F b j = fld Fo b j) ∧ (∀ b j : Nat, elm F b j = elm Fo b j)) → (fld F p0 3 = .ref x0) → (fld F p0 0 = .int z64157) → lv_has ls 4 [(0, .ref p0), (1, .int p1), (2, .int z64155), (3, .int z64156)] → W p l e { frames := 2, cells := 0, slots := 0, locals := 44 } s m args below meth c H locs 0 0 Q (F0 m 23 ls []) := by
    intro n
    induction n with
    | zero =>
      intro z64155 z64156 z64157 F H locs ls hn rz64156 rz64157 r9s64154 hT hfr pf0 qz64157 hl
      have rz64155 := rg_all z64155
      exfalso
      omega
    | succ n ih23 =>
      intro z64155 z64156 z64157 F H locs ls hn rz64156 rz64157 r9s64154 hT hfr pf0 qz64157 hl
      have rz64155 := rg_all z64155
      have K77 : ∀ (z64158 : Int32) (z64160 : Int32) (F : Nat → va_E) (H : Heap) (locs : List Loc) (ls : Array Slot), (0 ≤ z64160.toInt ∧ z64160.toInt ≤ 0) → (1 ≤ z64156.toInt ∧ z64156.toInt ≤ 5) → TH G ttC A s tag L F H locs → ((∀ b j : Nat, (tag b ≠ 46 ∨ j ≠ 0) → (tag b ≠ 46 ∨ j ≠ 1) → (tag b ≠ 46 ∨ j ≠ 2) → fld F b j = fld Fo b j) ∧ (∀ b j : Nat, elm F b j = elm Fo b j)) → (fld F p0 3 = .ref x0) → (fld F p0 0 = .int z64160) → lv_has ls 4 [(0, .ref p0), (1, .int p1), (2, .int z64158), (3, .int z64156)] → W p l e { frames := 2, cells := 0, slots := 0, locals := 44 } s m args below meth c H locs 0 0 Q (F0 m 77 ls []) := by
        intro z64158 z64160 F H locs ls rz64160 r9s64159 hT hfr pf0 qz64160 hl
        have rz64158 := rg_all z64158
        obtain ⟨z64161, ez64161⟩ : ∃ y : Int32, y = z64156 + 1 := ⟨_, rfl⟩
        have hz64161 : z64161.toInt = z64156.toInt + 1 := ar_add ez64161 rfl (by decide : (1 : Int32).toInt = 1) (by omega) (by omega)
        refine lv_iinc (v := z64161) (lv' := [(3, .int z64161), (0, .ref p0), (1, .int p1), (2, .int z64158)]) hx hb dX13_worth_77 hl (k := 3) rfl (by rw [ez64161]; rfl) (by decide) rfl (fun ls hl => ?_)
        refine lv_goto (tgt := 23) hx hb dX13_worth_80 (by decide) ?_
        exact ih23 z64158 z64161 z64160 _ _ _ _ (by omega) (by omega) (by omega) (by omega) hT hfr pf0 qz64160 (lv_sub hl [1, 2, 3, 0] rfl)
      refine lv_iload_n hx hb dX13_worth_23 rfl (lv_at hl 3 rfl) ?_
      refine lv_aload_n hx hb dX13_worth_24 rfl (lv_at hl 0 rfl) ?_
      refine t_get (C := RX13) (T := TX13) (N := 37) X hT m0 g0 rfl rfl 16 (by decide) qw_112 inlX13 rfl dX13_worth_25 (fun v64162 hv64162 ov64162 => ?_)
      obtain ⟨b64163, rfl, mb64163, gb64163⟩ := okV_r ov64162
      have gb64163 : tag b64163 = 37 := tg_of gb64163
      refine lv_iconst (v := 0) hx hb dX13_worth_28 (by decide) ?_
      refine lv_iload_n hx hb dX13_worth_29 rfl (lv_at hl 1 rfl) ?_
      refine lv_iadd hx hb dX13_worth_30 ?_
      refine lv_topi (fun z64164 ez64164 => ?_)
      obtain rfl : p1 = z64164 := (ar_zadd ez64164).symm
      refine t_ild X hT mb64163 gb64163 rfl (by omega) dX13_worth_31 (fun z64165 vz64165 rz64165 => ?_)
      have rz64165 := row_ml (by omega) rz64165
      refine lv_icmp_ge (tgt := 83) hx hb dX13_worth_32 (by decide) (fun c64166 => ?_) (fun c64166 => ?_)
      · have w64167 := cv_le (rfl : z64165.toInt = z64165.toInt) (rfl : z64156.toInt = z64156.toInt) c64166
        refine lv_aload_n hx hb dX13_worth_83 rfl (lv_at hl 0 rfl) ?_
        refine lv_iload_n hx hb dX13_worth_84 rfl (lv_at hl 2 rfl) ?_
        refine t_cVi (n := 1) (C := RX13) (T := TX13) (N := 37) (As := [.int z64155]) (rest := []) X hT (km93_X13_good l G tag L F hT.2.2.2 p0 z64155 m0 g0) m0 g0 rfl rfl qw_687 qw_688 qw_689 qw_5 qw_690 ⟨rfl, by decide +kernel, by decide +kernel, by decide +kernel⟩ ⟨Nat.le_of_ble_eq_true rfl, Nat.le_of_ble_eq_true rfl⟩ hl rfl rfl (Nat.le_of_ble_eq_true rfl) dX13_worth_85 ⟨Nat.le_of_ble_eq_true rfl, Nat.le_of_ble_eq_true rfl⟩ (fun z64168 F H locs hT hz64168 => ?_)
        obtain ⟨hz64168, yz64168⟩ := hz64168
        have qz64157 := (yz64168.1 _ 0 (Or.inr (by decide)) (Or.inr (by decide))).trans qz64157
        have pf0 := (yz64168.1 _ 3 (Or.inr (by decide)) (Or.inr (by decide))).trans pf0
        have hv64162 := (yz64168.1 _ 16 (Or.inr (by decide)) (Or.inr (by decide))).trans hv64162
        have vz64165 := (yz64168.2 _ _ ).trans vz64165
        have hfr : (∀ b j : Nat, (tag b ≠ 46 ∨ j ≠ 0) → (tag b ≠ 46 ∨ j ≠ 1) → (tag b ≠ 46 ∨ j ≠ 2) → fld F b j = fld Fo b j) ∧ (∀ b j : Nat, elm F b j = elm Fo b j) := ⟨fun b j n46_0 n46_1 n46_2 => (yz64168.1 b j n46_1 n46_2).trans (hfr.1 b j n46_0 n46_1 n46_2), fun b j  => (yz64168.2 b j ).trans (hfr.2 b j )⟩
        exact t_iret hQ X hT (⟨rg_all _, hfr⟩) (Nat.le_of_ble_eq_true rfl) (Nat.le_of_ble_eq_true rfl) dX13_worth_88
      · have w64169 := cv_nle (rfl : z64165.toInt = z64165.toInt) (rfl : z64156.toInt = z64156.toInt) c64166
        refine lv_aload_n hx hb dX13_worth_35 rfl (lv_at hl 0 rfl) ?_
        refine t_get (C := RX13) (T := TX13) (N := 37) X hT m0 g0 rfl rfl 16 (by decide) qw_112 inlX13 rfl dX13_worth_36 (fun v64170 hv64170 ov64170 => ?_)
        obtain rfl : v64170 = .ref b64163 := hv64170.symm.trans hv64162
        refine lv_iload_n hx hb dX13_worth_39 rfl (lv_at hl 1 rfl) ?_
        refine lv_iload_n hx hb dX13_worth_40 rfl (lv_at hl 3 rfl) ?_
        refine lv_iconst (v := 5) hx hb dX13_worth_41 (by decide) ?_
        refine t_cSi (n := 3) (As := [.int p1, .int z64156, .int 5]) (rest := [.ref b64163]) X hT (km49_X13_part l G tag L F hT.2.2.2 p1 z64156 5 (by omega) (by omega) (by decide)) qw_661 qw_662 qw_5 qw_663 ⟨by decide +kernel, by decide +kernel, by decide +kernel⟩ ⟨Nat.le_of_ble_eq_true rfl, Nat.le_of_ble_eq_true rfl⟩ hl rfl rfl (Nat.le_of_ble_eq_true rfl) dX13_worth_42 ⟨Nat.le_of_ble_eq_true rfl, Nat.le_of_ble_eq_true rfl⟩ (fun z64171 F9 H locs hT hz64171 => ?_)
        obtain ⟨fz64171, hz64171, xz64171_0⟩ := hz64171
        rw [fz64171] at hT
        have k64172 : (5 : Int32).toInt = 5 := by decide
        refine t_ild X hT mb64163 gb64163 rfl (by omega) dX13_worth_45 (fun z64173 vz64173 rz64173 => ?_)
        have oz64173 := rz64173
        have rz64173 := rg_all z64173
        refine lv_iconst (v := 1) hx hb dX13_worth_46 (by decide) ?_
        refine lv_icmp_ne (tgt := 53) hx hb dX13_worth_47 (by decide) (fun c64174 => ?_) (fun c64174 => ?_)
        · have w64175 := cv_ne (rfl : z64173.toInt = z64173.toInt) (by decide : (1 : Int32).toInt = 1) c64174
          refine lv_aload_n hx hb dX13_worth_53 rfl (lv_at hl 0 rfl) ?_
          refine lv_iload_n hx hb dX13_worth_54 rfl (lv_at hl 1 rfl) ?_
          refine lv_iload_n hx hb dX13_worth_55 rfl (lv_at hl 3 rfl) ?_
          refine t_cVi (n := 2) (C := RX13) (T := TX13) (N := 37) (As := [.int p1, .int z64156]) (rest := []) X hT (km219_X13_isLivedIn l G tag L F hT.2.2.2 p0 p1 z64156 x0 m0 g0 mx0 gx0 pf0) m0 g0 rfl rfl qw_1324 qw_1325 qw_1326 qw_5 qw_1327 ⟨rfl, by decide +kernel, by decide +kernel, by decide +kernel⟩ ⟨Nat.le_of_ble_eq_true rfl, Nat.le_of_ble_eq_true rfl⟩ hl rfl rfl (Nat.le_of_ble_eq_true rfl) dX13_worth_56 ⟨Nat.le_of_ble_eq_true rfl, Nat.le_of_ble_eq_true rfl⟩ (fun z64176 F9 H locs hT hz64176 => ?_)
          obtain ⟨fz64176, hz64176⟩ := hz64176
          rw [fz64176] at hT
          refine lv_if_eq (tgt := 68) hx hb dX13_worth_59 (by decide) (fun c64177 => ?_) (fun c64177 => ?_)
          · have w64178 := cv_eq (rfl : z64176.toInt = z64176.toInt) (by decide : (0 : Int32).toInt = 0) c64177
            refine lv_iload_n hx hb dX13_worth_68 rfl (lv_at hl 2 rfl) ?_
            refine lv_aload_n hx hb dX13_worth_69 rfl (lv_at hl 0 rfl) ?_
            refine lv_iload_n hx hb dX13_worth_70 rfl (lv_at hl 1 rfl) ?_
            refine lv_iload_n hx hb dX13_worth_71 rfl (lv_at hl 3 rfl) ?_
            refine t_cVi (n := 2) (C := RX13) (T := TX13) (N := 37) (As := [.int p1, .int z64156]) (rest := [.int z64155]) X hT (km215_X13_goldOf l G tag L F hT.2.2.2 p0 p1 z64156 x0 m0 g0 (by omega) (by omega) mx0 gx0 pf0) m0 g0 rfl rfl qw_1308 qw_1309 qw_1310 qw_5 qw_1311 ⟨rfl, by decide +kernel, by decide +kernel, by decide +kernel⟩ ⟨Nat.le_of_ble_eq_true rfl, Nat.le_of_ble_eq_true rfl⟩ hl rfl rfl (Nat.le_of_ble_eq_true rfl) dX13_worth_72 ⟨Nat.le_of_ble_eq_true rfl, Nat.le_of_ble_eq_true rfl⟩ (fun z64179 F9 H locs hT hz64179 => ?_)
            obtain ⟨fz64179, hz64179⟩ := hz64179
            rw [fz64179] at hT
            refine lv_iadd hx hb dX13_worth_75 ?_
            refine lv_topi (fun z64180 ez64180 => ?_)
            have rz64180 := rg_all z64180
            refine lv_istore_n (lv' := [(2, .int z64180), (0, .ref p0), (1, .int p1), (3, .int z64156)]) hx hb dX13_worth_76 rfl hl (by decide) rfl (fun ls hl => ?_)
            exact K77 z64180 z64157 _ _ _ _ (by omega) (by omega) hT hfr pf0 qz64157 (lv_sub hl [1, 2, 0, 3] rfl)
          · have w64181 := cv_ne (rfl : z64176.toInt = z64176.toInt) (by decide : (0 : Int32).toInt = 0) c64177
            refine lv_aload_n hx hb dX13_worth_62 rfl (lv_at hl 0 rfl) ?_
            refine lv_iload_n hx hb dX13_worth_63 rfl (lv_at hl 2 rfl) ?_
            refine t_cVi (n := 1) (C := RX13) (T := TX13) (N := 37) (As := [.int z64155]) (rest := []) X hT (km93_X13_good l G tag L F hT.2.2.2 p0 z64155 m0 g0) m0 g0 rfl rfl qw_687 qw_688 qw_689 qw_5 qw_690 ⟨rfl, by decide +kernel, by decide +kernel, by decide +kernel⟩ ⟨Nat.le_of_ble_eq_true rfl, Nat.le_of_ble_eq_true rfl⟩ hl rfl rfl (Nat.le_of_ble_eq_true rfl) dX13_worth_64 ⟨Nat.le_of_ble_eq_true rfl, Nat.le_of_ble_eq_true rfl⟩ (fun z64182 F H locs hT hz64182 => ?_)
            obtain ⟨hz64182, yz64182⟩ := hz64182
            have qz64157 := (yz64182.1 _ 0 (Or.inr (by decide)) (Or.inr (by decide))).trans qz64157
            have pf0 := (yz64182.1 _ 3 (Or.inr (by decide)) (Or.inr (by decide))).trans pf0
            have hv64162 := (yz64182.1 _ 16 (Or.inr (by decide)) (Or.inr (by decide))).trans hv64162
            have vz64165 := (yz64182.2 _ _ ).trans vz64165
            have vz64173 := (yz64182.2 _ _ ).trans vz64173
            have hfr : (∀ b j : Nat, (tag b ≠ 46 ∨ j ≠ 0) → (tag b ≠ 46 ∨ j ≠ 1) → (tag b ≠ 46 ∨ j ≠ 2) → fld F b j = fld Fo b j) ∧ (∀ b j : Nat, elm F b j = elm Fo b j) := ⟨fun b j n46_0 n46_1 n46_2 => (yz64182.1 b j n46_1 n46_2).trans (hfr.1 b j n46_0 n46_1 n46_2), fun b j  => (yz64182.2 b j ).trans (hfr.2 b j )⟩
            exact t_iret hQ X hT (⟨rg_all _, hfr⟩) (Nat.le_of_ble_eq_true rfl) (Nat.le_of_ble_eq_true rfl) dX13_worth_67
        · have w64183 := cv_eq (rfl : z64173.toInt = z64173.toInt) (by decide : (1 : Int32).toInt = 1) c64174
          refine lv_goto (tgt := 77) hx hb dX13_worth_50 (by decide) ?_
          exact K77 z64155 z64157 _ _ _ _ (by omega) (by omega) hT hfr pf0 qz64157 (lv_sub hl [0, 1, 2, 3] rfl)
  refine lv_aload_n hx hb dX13_worth_0 rfl (lv_at hl 0 rfl) ?_
  refine lv_iconst (v := 0) hx hb dX13_worth_1 (by decide) ?_
  refine t_put (C := RX13) (T := TX13) (N := 37) (v := .int 0) X hT m0 g0 rfl tyX13 tyX13_ok nmX13 rfl 0 (by decide) qw_140 inlX13 rfl (by first | rfl | decide) (by first | rfl | decide) rfl (⟨_, rfl, (show (-2147483648) ≤ (0 : Int32).toInt from (by decide)), (show (0 : Int32).toInt ≤ 2147483647 from (by decide))⟩) dX13_worth_2 (fun F H locs hT v64184 h1v64184 h2v64184 => ?_)
  have pf0 := (h1v64184 _ _ (Or.inr (by decide))).trans pf0
  have hfr : (∀ b j : Nat, (tag b ≠ 46 ∨ j ≠ 0) → (tag b ≠ 46 ∨ j ≠ 1) → (tag b ≠ 46 ∨ j ≠ 2) → fld F b j = fld Fo b j) ∧ (∀ b j : Nat, elm F b j = elm Fo b j) := ⟨fun b j n46_0 n46_1 n46_2 => (h1v64184 b j (fr_ne g0 n46_0)).trans (hfr.1 b j n46_0 n46_1 n46_2), fun b j  => (h2v64184 b j).trans (hfr.2 b j )⟩
  refine lv_aload_n hx hb dX13_worth_5 rfl (lv_at hl 0 rfl) ?_
  refine lv_iload_n hx hb dX13_worth_6 rfl (lv_at hl 1 rfl) ?_
  refine t_cVi (n := 1) (C := RX13) (T := TX13) (N := 37) (As := [.int p1]) (rest := []) X hT (km107_X13_isHouse l G tag L F hT.2.2.2 p0 p1 x0 m0 g0 mx0 gx0 pf0) m0 g0 rfl rfl qw_796 qw_797 qw_798 qw_5 qw_799 ⟨rfl, by decide +kernel, by decide +kernel, by decide +kernel⟩ ⟨Nat.le_of_ble_eq_true rfl, Nat.le_of_ble_eq_true rfl⟩ hl rfl rfl (Nat.le_of_ble_eq_true rfl) dX13_worth_7 ⟨Nat.le_of_ble_eq_true rfl, Nat.le_of_ble_eq_true rfl⟩ (fun z64185 F9 H locs hT hz64185 => ?_)
  obtain ⟨fz64185, hz64185⟩ := hz64185
  rw [fz64185] at hT
  obtain ⟨hz64185, iz64185⟩ := hz64185
  refine lv_if_ne (tgt := 19) hx hb dX13_worth_10 (by decide) (fun c64186 => ?_) (fun c64186 => ?_)
  · have w64187 := cv_ne (rfl : z64185.toInt = z64185.toInt) (by decide : (0 : Int32).toInt = 0) c64186
    have w64188 := (fun h => (iz64185 h)) (by omega)
    refine lv_iconst (v := 0) hx hb dX13_worth_19 (by decide) ?_
    refine lv_istore_n (lv' := [(2, .int 0), (0, .ref p0), (1, .int p1)]) hx hb dX13_worth_20 rfl hl (by decide) rfl (fun ls hl => ?_)
    refine lv_iconst (v := 1) hx hb dX13_worth_21 (by decide) ?_
    refine lv_istore_n (lv' := [(3, .int 1), (2, .int 0), (0, .ref p0), (1, .int p1)]) hx hb dX13_worth_22 rfl hl (by decide) rfl (fun ls hl => ?_)
    have k64189 : (0 : Int32).toInt = 0 := by decide
    have k64190 : (1 : Int32).toInt = 1 := by decide
    have k64191 : (0 : Int32).toInt = 0 := by decide
    exact K23 6 0 1 0 _ _ _ _ (by omega) (by decide) (by decide) (by omega) hT hfr pf0 v64184 (lv_sub hl [2, 3, 1, 0] rfl)
  · have w64192 := cv_eq (rfl : z64185.toInt = z64185.toInt) (by decide : (0 : Int32).toInt = 0) c64186
    refine lv_aload_n hx hb dX13_worth_13 rfl (lv_at hl 0 rfl) ?_
    refine lv_iconst (v := 1) hx hb dX13_worth_14 (by decide) ?_
    refine t_cVi (n := 1) (C := RX13) (T := TX13) (N := 37) (As := [.int 1]) (rest := []) X hT (km88_X13_refused l G tag L F hT.2.2.2 p0 1 m0 g0) m0 g0 rfl rfl qw_484 qw_485 qw_486 qw_5 qw_487 ⟨rfl, by decide +kernel, by decide +kernel, by decide +kernel⟩ ⟨Nat.le_of_ble_eq_true rfl, Nat.le_of_ble_eq_true rfl⟩ hl rfl rfl (Nat.le_of_ble_eq_true rfl) dX13_worth_15 ⟨Nat.le_of_ble_eq_true rfl, Nat.le_of_ble_eq_true rfl⟩ (fun z64193 F H locs hT hz64193 => ?_)
    obtain ⟨hz64193, yz64193⟩ := hz64193
    have pf0 := (yz64193.1 _ 3 (Or.inr (by decide)) (Or.inr (by decide))).trans pf0
    have v64184 := (yz64193.1 _ 0 (Or.inr (by decide)) (Or.inr (by decide))).trans v64184
    have hfr : (∀ b j : Nat, (tag b ≠ 46 ∨ j ≠ 0) → (tag b ≠ 46 ∨ j ≠ 1) → (tag b ≠ 46 ∨ j ≠ 2) → fld F b j = fld Fo b j) ∧ (∀ b j : Nat, elm F b j = elm Fo b j) := ⟨fun b j n46_0 n46_1 n46_2 => (yz64193.1 b j n46_1 n46_2).trans (hfr.1 b j n46_0 n46_1 n46_2), fun b j  => (yz64193.2 b j ).trans (hfr.2 b j )⟩
    exact t_iret hQ X hT (⟨rg_all _, hfr⟩) (Nat.le_of_ble_eq_true rfl) (Nat.le_of_ble_eq_true rfl) dX13_worth_18
set_option maxHeartbeats 4000000 in
set_option maxRecDepth 100000 in
theorem km221_X13_worth (l : Launch) (G : KG) (tag : Nat → Nat) (L : List Nat) (Fo : Nat → va_E) (ho : okT G ttC tag L Fo) (p0 : Nat) (p1 : Int32) (m0 : p0 ∈ L) (g0 : tag p0 = 46) (pf0 : fld Fo p0 3 = .null) : TMi l yX13_worth cX13_worth 4 (some .int) { frames := 2, cells := 0, slots := 0, locals := 44 } G ttC tag L Fo [.ref p0, .int p1] (fun r F1 => ((-2147483648) ≤ r.toInt ∧ r.toInt ≤ 2147483647) ∧ ((∀ b j : Nat, (tag b ≠ 46 ∨ j ≠ 0) → (tag b ≠ 46 ∨ j ≠ 1) → (tag b ≠ 46 ∨ j ≠ 2) → fld F1 b j = fld Fo b j) ∧ (∀ b j : Nat, elm F1 b j = elm Fo b j))) := by
  refine t_bodyi (y := yX13_worth) (cd := cX13_worth) (mL := 4) (rt := (some .int)) (rm := { frames := 2, cells := 0, slots := 0, locals := 44 }) (av := [.ref p0, .int p1]) (by decide) (Nat.le_of_ble_eq_true rfl) ho ?_
  intro p e s m args below meth c ls A Q hQ X hT hl
  have hx := X.1.1
  have hb := X.1.2.1
  have hl : lv_has ls 4 [(0, .ref p0), (1, .int p1)] := hl
  have rp1 := rg_all p1
  obtain ⟨F, hFo⟩ : ∃ F : Nat → va_E, F = Fo := ⟨_, rfl⟩
  rw [← hFo] at hT pf0
  have hfr : (∀ b j : Nat, (tag b ≠ 46 ∨ j ≠ 0) → (tag b ≠ 46 ∨ j ≠ 1) → (tag b ≠ 46 ∨ j ≠ 2) → fld F b j = fld Fo b j) ∧ (∀ b j : Nat, elm F b j = elm Fo b j) := by
    rw [hFo]
    exact ⟨by intros; rfl, by intros; rfl⟩
  refine lv_aload_n hx hb dX13_worth_0 rfl (lv_at hl 0 rfl) ?_
  refine lv_iconst (v := 0) hx hb dX13_worth_1 (by decide) ?_
  refine t_put (C := RX13) (T := TX13) (N := 37) (v := .int 0) X hT m0 g0 rfl tyX13 tyX13_ok nmX13 rfl 0 (by decide) qw_140 inlX13 rfl (by first | rfl | decide) (by first | rfl | decide) rfl (⟨_, rfl, (show (-2147483648) ≤ (0 : Int32).toInt from (by decide)), (show (0 : Int32).toInt ≤ 2147483647 from (by decide))⟩) dX13_worth_2 (fun F H locs hT v64260 h1v64260 h2v64260 => ?_)
  have pf0 := (h1v64260 _ _ (Or.inr (by decide))).trans pf0
  have hfr : (∀ b j : Nat, (tag b ≠ 46 ∨ j ≠ 0) → (tag b ≠ 46 ∨ j ≠ 1) → (tag b ≠ 46 ∨ j ≠ 2) → fld F b j = fld Fo b j) ∧ (∀ b j : Nat, elm F b j = elm Fo b j) := ⟨fun b j n46_0 n46_1 n46_2 => (h1v64260 b j (fr_ne g0 n46_0)).trans (hfr.1 b j n46_0 n46_1 n46_2), fun b j  => (h2v64260 b j).trans (hfr.2 b j )⟩
  refine lv_aload_n hx hb dX13_worth_5 rfl (lv_at hl 0 rfl) ?_
  refine lv_iload_n hx hb dX13_worth_6 rfl (lv_at hl 1 rfl) ?_
  refine t_cVi (n := 1) (C := RX13) (T := TX13) (N := 37) (As := [.int p1]) (rest := []) X hT (km116_X13_isHouse l G tag L F hT.2.2.2 p0 p1 m0 g0 pf0) m0 g0 rfl rfl qw_796 qw_797 qw_798 qw_5 qw_799 ⟨rfl, by decide +kernel, by decide +kernel, by decide +kernel⟩ ⟨Nat.le_of_ble_eq_true rfl, Nat.le_of_ble_eq_true rfl⟩ hl rfl rfl (Nat.le_of_ble_eq_true rfl) dX13_worth_7 ⟨Nat.le_of_ble_eq_true rfl, Nat.le_of_ble_eq_true rfl⟩ (fun z64261 F9 H locs hT hz64261 => ?_)
  obtain ⟨fz64261, hz64261⟩ := hz64261
  rw [fz64261] at hT
  refine lv_if_ne (tgt := 19) hx hb dX13_worth_10 (by decide) (fun c64262 => ?_) (fun c64262 => ?_)
  · have w64263 := cv_ne (rfl : z64261.toInt = z64261.toInt) (by decide : (0 : Int32).toInt = 0) c64262
    exfalso
    omega
  · have w64264 := cv_eq (rfl : z64261.toInt = z64261.toInt) (by decide : (0 : Int32).toInt = 0) c64262
    refine lv_aload_n hx hb dX13_worth_13 rfl (lv_at hl 0 rfl) ?_
    refine lv_iconst (v := 1) hx hb dX13_worth_14 (by decide) ?_
    refine t_cVi (n := 1) (C := RX13) (T := TX13) (N := 37) (As := [.int 1]) (rest := []) X hT (km88_X13_refused l G tag L F hT.2.2.2 p0 1 m0 g0) m0 g0 rfl rfl qw_484 qw_485 qw_486 qw_5 qw_487 ⟨rfl, by decide +kernel, by decide +kernel, by decide +kernel⟩ ⟨Nat.le_of_ble_eq_true rfl, Nat.le_of_ble_eq_true rfl⟩ hl rfl rfl (Nat.le_of_ble_eq_true rfl) dX13_worth_15 ⟨Nat.le_of_ble_eq_true rfl, Nat.le_of_ble_eq_true rfl⟩ (fun z64265 F H locs hT hz64265 => ?_)
    obtain ⟨hz64265, yz64265⟩ := hz64265
    have pf0 := (yz64265.1 _ 3 (Or.inr (by decide)) (Or.inr (by decide))).trans pf0
    have v64260 := (yz64265.1 _ 0 (Or.inr (by decide)) (Or.inr (by decide))).trans v64260
    have hfr : (∀ b j : Nat, (tag b ≠ 46 ∨ j ≠ 0) → (tag b ≠ 46 ∨ j ≠ 1) → (tag b ≠ 46 ∨ j ≠ 2) → fld F b j = fld Fo b j) ∧ (∀ b j : Nat, elm F b j = elm Fo b j) := ⟨fun b j n46_0 n46_1 n46_2 => (yz64265.1 b j n46_1 n46_2).trans (hfr.1 b j n46_0 n46_1 n46_2), fun b j  => (yz64265.2 b j ).trans (hfr.2 b j )⟩
    exact t_iret hQ X hT (⟨rg_all _, hfr⟩) (Nat.le_of_ble_eq_true rfl) (Nat.le_of_ble_eq_true rfl) dX13_worth_18
theorem kp_X13_worth (l : Launch) (G : KG) (tag : Nat → Nat) (L : List Nat) (Fo : Nat → va_E) (ho : okT G ttC tag L Fo) (p0 : Nat) (p1 : Int32) (m0 : p0 ∈ L) (g0 : tag p0 = 46) : TMi l yX13_worth cX13_worth 4 (some .int) { frames := 2, cells := 0, slots := 0, locals := 44 } G ttC tag L Fo [.ref p0, .int p1] (fun r F1 => ((-2147483648) ≤ r.toInt ∧ r.toInt ≤ 2147483647) ∧ ((∀ b j : Nat, (tag b ≠ 46 ∨ j ≠ 0) → (tag b ≠ 46 ∨ j ≠ 1) → (tag b ≠ 46 ∨ j ≠ 2) → fld F1 b j = fld Fo b j) ∧ (∀ b j : Nat, elm F1 b j = elm Fo b j))) := by
  rcases t_fldn ho m0 g0 rfl 3 rfl with h9 | ⟨b9, h9, m9, t9⟩
  · exact km221_X13_worth l G tag L Fo ho p0 p1  m0 g0 h9 
  · exact km220_X13_worth l G tag L Fo ho p0 p1 b9  m0 g0 m9 (tg_of t9) h9 
set_option maxHeartbeats 4000000 in
set_option maxRecDepth 100000 in
theorem km223_X13_before (l : Launch) (G : KG) (tag : Nat → Nat) (L : List Nat) (F : Nat → va_E) (ho : okT G ttC tag L F) (p0 : Nat) (p1 : Int32) (x0 : Nat) (m0 : p0 ∈ L) (g0 : tag p0 = 46) (h1 : 0 ≤ p1.toInt ∧ p1.toInt ≤ 5) (mx0 : x0 ∈ L) (gx0 : tag x0 = 45) (pf0 : fld F p0 3 = .ref x0) : TMi l yX13_before cX13_before 2 (some .int) { frames := 1, cells := 0, slots := 0, locals := 21 } G ttC tag L F [.ref p0, .int p1] (fun r F1 => F1 = F ∧ ((-2147483648) ≤ r.toInt ∧ r.toInt ≤ 2147483647)) := by
  refine t_bodyi (y := yX13_before) (cd := cX13_before) (mL := 2) (rt := (some .int)) (rm := { frames := 1, cells := 0, slots := 0, locals := 21 }) (av := [.ref p0, .int p1]) (by decide) (Nat.le_of_ble_eq_true rfl) ho ?_
  intro p e s m args below meth c ls A Q hQ X hT hl
  have hx := X.1.1
  have hb := X.1.2.1
  have hl : lv_has ls 2 [(0, .ref p0), (1, .int p1)] := hl
  refine lv_aload_n hx hb dX13_before_0 rfl (lv_at hl 0 rfl) ?_
  refine t_get (C := RX13) (T := TX13) (N := 37) X hT m0 g0 rfl rfl 3 (by decide) qw_481 inlX13 rfl dX13_before_1 (fun v64716 hv64716 ov64716 => ?_)
  obtain rfl : v64716 = .ref x0 := hv64716.symm.trans pf0
  refine t_getN (C := RX12) (T := TX12) (N := 31) X hT mx0 gx0 rfl rfl 26 (by decide) (List.mem_of_getElem? (i := 30) rfl) inlX12 rfl dX13_before_4 (fun v64717 hv64717 ov64717 => ?_)
  obtain ⟨b64718, rfl, mb64718, gb64718⟩ := okV_r ov64717
  have gb64718 : tag b64718 = 33 := tg_of gb64718
  refine lv_iload_n hx hb dX13_before_7 rfl (lv_at hl 1 rfl) ?_
  refine t_ild X hT mb64718 gb64718 rfl (by omega) dX13_before_8 (fun z64719 vz64719 rz64719 => ?_)
  have rz64719 : (-2147483648) ≤ z64719.toInt ∧ z64719.toInt ≤ 2147483647 := rz64719
  refine lv_iconst (v := (-1)) hx hb dX13_before_9 (by decide) ?_
  refine lv_icmp_ne (tgt := 24) hx hb dX13_before_10 (by decide) (fun c64720 => ?_) (fun c64720 => ?_)
  · have w64721 := cv_ne (rfl : z64719.toInt = z64719.toInt) (by decide : ((-1) : Int32).toInt = (-1)) c64720
    refine lv_aload_n hx hb dX13_before_24 rfl (lv_at hl 0 rfl) ?_
    refine t_get (C := RX13) (T := TX13) (N := 37) X hT m0 g0 rfl rfl 16 (by decide) qw_112 inlX13 rfl dX13_before_25 (fun v64722 hv64722 ov64722 => ?_)
    obtain ⟨b64723, rfl, mb64723, gb64723⟩ := okV_r ov64722
    have gb64723 : tag b64723 = 37 := tg_of gb64723
    refine lv_sipush (v := 210) hx hb dX13_before_28 (by decide) ?_
    refine t_ild X hT mb64723 gb64723 rfl (by decide) dX13_before_31 (fun z64724 vz64724 rz64724 => ?_)
    have oz64724 := rz64724
    have rz64724 := rg_all z64724
    refine lv_aload_n hx hb dX13_before_32 rfl (lv_at hl 0 rfl) ?_
    refine t_get (C := RX13) (T := TX13) (N := 37) X hT m0 g0 rfl rfl 3 (by decide) qw_481 inlX13 rfl dX13_before_33 (fun v64725 hv64725 ov64725 => ?_)
    obtain rfl : v64725 = .ref x0 := hv64725.symm.trans pf0
    refine t_getN (C := RX12) (T := TX12) (N := 31) X hT mx0 gx0 rfl rfl 26 (by decide) (List.mem_of_getElem? (i := 30) rfl) inlX12 rfl dX13_before_36 (fun v64726 hv64726 ov64726 => ?_)
    obtain rfl : v64726 = .ref b64718 := hv64726.symm.trans hv64717
    refine lv_iload_n hx hb dX13_before_39 rfl (lv_at hl 1 rfl) ?_
    refine t_ild X hT mb64718 gb64718 rfl (by omega) dX13_before_40 (fun z64727 vz64727 rz64727 => ?_)
    obtain rfl : z64719 = z64727 := vz64719.symm.trans vz64727
    refine t_cSi (n := 2) (As := [.int z64724, .int z64719]) (rest := []) X hT (km161_X13_least l G tag L F hT.2.2.2 z64724 z64719 ) qw_1065 qw_1066 qw_5 qw_1067 ⟨by decide +kernel, by decide +kernel, by decide +kernel⟩ ⟨Nat.le_of_ble_eq_true rfl, Nat.le_of_ble_eq_true rfl⟩ hl rfl rfl (Nat.le_of_ble_eq_true rfl) dX13_before_41 ⟨Nat.le_of_ble_eq_true rfl, Nat.le_of_ble_eq_true rfl⟩ (fun z64728 F9 H locs hT hz64728 => ?_)
    obtain ⟨fz64728, hz64728⟩ := hz64728
    rw [fz64728] at hT
    exact t_iret hQ X hT (⟨rfl, rg_all _⟩) (Nat.le_of_ble_eq_true rfl) (Nat.le_of_ble_eq_true rfl) dX13_before_44
  · have w64729 := cv_eq (rfl : z64719.toInt = z64719.toInt) (by decide : ((-1) : Int32).toInt = (-1)) c64720
    refine lv_aload_n hx hb dX13_before_13 rfl (lv_at hl 0 rfl) ?_
    refine t_get (C := RX13) (T := TX13) (N := 37) X hT m0 g0 rfl rfl 16 (by decide) qw_112 inlX13 rfl dX13_before_14 (fun v64730 hv64730 ov64730 => ?_)
    obtain ⟨b64731, rfl, mb64731, gb64731⟩ := okV_r ov64730
    have gb64731 : tag b64731 = 37 := tg_of gb64731
    refine lv_sipush (v := 210) hx hb dX13_before_17 (by decide) ?_
    refine t_ild X hT mb64731 gb64731 rfl (by decide) dX13_before_20 (fun z64732 vz64732 rz64732 => ?_)
    have oz64732 := rz64732
    have rz64732 := rg_all z64732
    refine lv_goto (tgt := 44) hx hb dX13_before_21 (by decide) ?_
    exact t_iret hQ X hT (⟨rfl, rg_all _⟩) (Nat.le_of_ble_eq_true rfl) (Nat.le_of_ble_eq_true rfl) dX13_before_44
