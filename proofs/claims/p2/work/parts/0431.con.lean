set_option maxHeartbeats 4000000 in
set_option maxRecDepth 100000 in
theorem km212_X13_heads (l : Launch) (G : KG) (tag : Nat → Nat) (L : List Nat) (Fo : Nat → va_E) (ho : okT G ttC tag L Fo) (p0 : Nat) (p1 : Int32) (p2 : Int32) (m0 : p0 ∈ L) (g0 : tag p0 = 46) (pf0 : fld Fo p0 3 = .null) : TMi l yX13_heads cX13_heads 6 (some .int) { frames := 7, cells := 0, slots := 0, locals := 170 } G ttC tag L Fo [.ref p0, .int p1, .int p2] (fun r F1 => ((-2147483648) ≤ r.toInt ∧ r.toInt ≤ 2147483647) ∧ ((∀ b j : Nat, (tag b ≠ 46 ∨ j ≠ 0) → (tag b ≠ 46 ∨ j ≠ 1) → (tag b ≠ 46 ∨ j ≠ 2) → (tag b ≠ 46 ∨ j ≠ 22) → (tag b ≠ 46 ∨ j ≠ 23) → fld F1 b j = fld Fo b j) ∧ (∀ b j : Nat, tag b ≠ 37 → tag b ≠ 40 → elm F1 b j = elm Fo b j))) := by
  refine t_bodyi (y := yX13_heads) (cd := cX13_heads) (mL := 6) (rt := (some .int)) (rm := { frames := 7, cells := 0, slots := 0, locals := 170 }) (av := [.ref p0, .int p1, .int p2]) (by decide) (Nat.le_of_ble_eq_true rfl) ho ?_
  intro p e s m args below meth c ls A Q hQ X hT hl
  have hx := X.1.1
  have hb := X.1.2.1
  have hl : lv_has ls 6 [(0, .ref p0), (1, .int p1), (2, .int p2)] := hl
  have rp1 := rg_all p1
  have rp2 := rg_all p2
  obtain ⟨F, hFo⟩ : ∃ F : Nat → va_E, F = Fo := ⟨_, rfl⟩
  rw [← hFo] at hT pf0
  have hfr : (∀ b j : Nat, (tag b ≠ 46 ∨ j ≠ 0) → (tag b ≠ 46 ∨ j ≠ 1) → (tag b ≠ 46 ∨ j ≠ 2) → (tag b ≠ 46 ∨ j ≠ 22) → (tag b ≠ 46 ∨ j ≠ 23) → fld F b j = fld Fo b j) ∧ (∀ b j : Nat, tag b ≠ 37 → tag b ≠ 40 → elm F b j = elm Fo b j) := by
    rw [hFo]
    exact ⟨by intros; rfl, by intros; rfl⟩
  refine lv_aload_n hx hb dX13_heads_0 rfl (lv_at hl 0 rfl) ?_
  refine lv_iconst (v := 0) hx hb dX13_heads_1 (by decide) ?_
  refine t_put (C := RX13) (T := TX13) (N := 37) (v := .int 0) X hT m0 g0 rfl tyX13 tyX13_ok nmX13 rfl 0 (by decide) qw_140 inlX13 rfl (by first | rfl | decide) (by first | rfl | decide) rfl (⟨_, rfl, (show (-2147483648) ≤ (0 : Int32).toInt from (by decide)), (show (0 : Int32).toInt ≤ 2147483647 from (by decide))⟩) dX13_heads_2 (fun F H locs hT v62766 h1v62766 h2v62766 => ?_)
  have pf0 := (h1v62766 _ _ (Or.inr (by decide))).trans pf0
  have hfr : (∀ b j : Nat, (tag b ≠ 46 ∨ j ≠ 0) → (tag b ≠ 46 ∨ j ≠ 1) → (tag b ≠ 46 ∨ j ≠ 2) → (tag b ≠ 46 ∨ j ≠ 22) → (tag b ≠ 46 ∨ j ≠ 23) → fld F b j = fld Fo b j) ∧ (∀ b j : Nat, tag b ≠ 37 → tag b ≠ 40 → elm F b j = elm Fo b j) := ⟨fun b j n46_0 n46_1 n46_2 n46_22 n46_23 => (h1v62766 b j (fr_ne g0 n46_0)).trans (hfr.1 b j n46_0 n46_1 n46_2 n46_22 n46_23), fun b j a37 a40 => (h2v62766 b j).trans (hfr.2 b j a37 a40)⟩
  refine lv_aload_n hx hb dX13_heads_5 rfl (lv_at hl 0 rfl) ?_
  refine lv_iconst (v := 1) hx hb dX13_heads_6 (by decide) ?_
  refine lv_iload_n hx hb dX13_heads_7 rfl (lv_at hl 2 rfl) ?_
  refine lv_bipush (v := 60) hx hb dX13_heads_8 (by decide) ?_
  refine t_cVi (n := 3) (C := RX13) (T := TX13) (N := 37) (As := [.int 1, .int p2, .int 60]) (rest := []) X hT (km189_X13_refusesIn l G tag L F hT.2.2.2 p0 1 p2 60 m0 g0 (by decide) pf0) m0 g0 rfl rfl qw_1144 qw_1145 qw_1146 qw_5 qw_1147 ⟨rfl, by decide +kernel, by decide +kernel, by decide +kernel⟩ ⟨Nat.le_of_ble_eq_true rfl, Nat.le_of_ble_eq_true rfl⟩ hl rfl rfl (Nat.le_of_ble_eq_true rfl) dX13_heads_10 ⟨Nat.le_of_ble_eq_true rfl, Nat.le_of_ble_eq_true rfl⟩ (fun z62767 F9 H locs hT hz62767 => ?_)
  obtain ⟨fz62767, hz62767⟩ := hz62767
  rw [fz62767] at hT
  refine lv_istore_n (lv' := [(3, .int z62767), (0, .ref p0), (1, .int p1), (2, .int p2)]) hx hb dX13_heads_13 rfl hl (by decide) rfl (fun ls hl => ?_)
  refine lv_iload_n hx hb dX13_heads_14 rfl (lv_at hl 0 rfl) ?_
  refine lv_if_le (tgt := 24) hx hb dX13_heads_15 (by decide) (fun c62768 => ?_) (fun c62768 => ?_)
  · have w62769 := cv_le (rfl : z62767.toInt = z62767.toInt) (by decide : (0 : Int32).toInt = 0) c62768
    exfalso
    omega
  · have w62770 := cv_nle (rfl : z62767.toInt = z62767.toInt) (by decide : (0 : Int32).toInt = 0) c62768
    refine lv_aload_n hx hb dX13_heads_18 rfl (lv_at hl 1 rfl) ?_
    refine lv_iload_n hx hb dX13_heads_19 rfl (lv_at hl 0 rfl) ?_
    refine t_cVi (n := 1) (C := RX13) (T := TX13) (N := 37) (As := [.int z62767]) (rest := []) X hT (km88_X13_refused l G tag L F hT.2.2.2 p0 z62767 m0 g0) m0 g0 rfl rfl qw_484 qw_485 qw_486 qw_5 qw_487 ⟨rfl, by decide +kernel, by decide +kernel, by decide +kernel⟩ ⟨Nat.le_of_ble_eq_true rfl, Nat.le_of_ble_eq_true rfl⟩ hl rfl rfl (Nat.le_of_ble_eq_true rfl) dX13_heads_20 ⟨Nat.le_of_ble_eq_true rfl, Nat.le_of_ble_eq_true rfl⟩ (fun z62771 F H locs hT hz62771 => ?_)
    obtain ⟨hz62771, yz62771⟩ := hz62771
    have pf0 := (yz62771.1 _ 3 (Or.inr (by decide)) (Or.inr (by decide))).trans pf0
    have v62766 := (yz62771.1 _ 0 (Or.inr (by decide)) (Or.inr (by decide))).trans v62766
    have hfr : (∀ b j : Nat, (tag b ≠ 46 ∨ j ≠ 0) → (tag b ≠ 46 ∨ j ≠ 1) → (tag b ≠ 46 ∨ j ≠ 2) → (tag b ≠ 46 ∨ j ≠ 22) → (tag b ≠ 46 ∨ j ≠ 23) → fld F b j = fld Fo b j) ∧ (∀ b j : Nat, tag b ≠ 37 → tag b ≠ 40 → elm F b j = elm Fo b j) := ⟨fun b j n46_0 n46_1 n46_2 n46_22 n46_23 => (yz62771.1 b j n46_1 n46_2).trans (hfr.1 b j n46_0 n46_1 n46_2 n46_22 n46_23), fun b j a37 a40 => (yz62771.2 b j ).trans (hfr.2 b j a37 a40)⟩
    exact t_iret hQ X hT (⟨rg_all _, hfr⟩) (Nat.le_of_ble_eq_true rfl) (Nat.le_of_ble_eq_true rfl) dX13_heads_23
theorem kp_X13_heads (l : Launch) (G : KG) (tag : Nat → Nat) (L : List Nat) (Fo : Nat → va_E) (ho : okT G ttC tag L Fo) (p0 : Nat) (p1 : Int32) (p2 : Int32) (m0 : p0 ∈ L) (g0 : tag p0 = 46) : TMi l yX13_heads cX13_heads 6 (some .int) { frames := 7, cells := 0, slots := 0, locals := 170 } G ttC tag L Fo [.ref p0, .int p1, .int p2] (fun r F1 => ((-2147483648) ≤ r.toInt ∧ r.toInt ≤ 2147483647) ∧ ((∀ b j : Nat, (tag b ≠ 46 ∨ j ≠ 0) → (tag b ≠ 46 ∨ j ≠ 1) → (tag b ≠ 46 ∨ j ≠ 2) → (tag b ≠ 46 ∨ j ≠ 22) → (tag b ≠ 46 ∨ j ≠ 23) → fld F1 b j = fld Fo b j) ∧ (∀ b j : Nat, tag b ≠ 37 → tag b ≠ 40 → elm F1 b j = elm Fo b j))) := by
  rcases t_fldn ho m0 g0 rfl 3 rfl with h9 | ⟨b9, h9, m9, t9⟩
  · exact km212_X13_heads l G tag L Fo ho p0 p1 p2  m0 g0 h9 
  · exact km211_X13_heads l G tag L Fo ho p0 p1 p2 b9  m0 g0 m9 (tg_of t9) h9 
set_option maxHeartbeats 4000000 in
set_option maxRecDepth 100000 in
theorem km214_X13_inmost (l : Launch) (G : KG) (tag : Nat → Nat) (L : List Nat) (F : Nat → va_E) (ho : okT G ttC tag L F) (p0 : Nat) (p1 : Int32) (x0 : Nat) (m0 : p0 ∈ L) (g0 : tag p0 = 46) (h1 : 0 ≤ p1.toInt ∧ p1.toInt ≤ 3) (mx0 : x0 ∈ L) (gx0 : tag x0 = 37) (pf0 : fld F p0 16 = .ref x0) : TMi l yX13_inmost cX13_inmost 3 (some .int) { frames := 1, cells := 0, slots := 0, locals := 22 } G ttC tag L F [.ref p0, .int p1] (fun r F1 => F1 = F ∧ ((-2) ≤ r.toInt ∧ r.toInt ≤ 6) ∧ ((r.toInt ≠ -2 → 1 ≤ r.toInt ∧ r.toInt ≤ 6) ∧ (r.toInt ≠ -2 ↔ INM F1 x0 p1))) := by
  refine t_bodyi (y := yX13_inmost) (cd := cX13_inmost) (mL := 3) (rt := (some .int)) (rm := { frames := 1, cells := 0, slots := 0, locals := 22 }) (av := [.ref p0, .int p1]) (by decide) (Nat.le_of_ble_eq_true rfl) ho ?_
  intro p e s m args below meth c ls A Q hQ X hT hl
  have hx := X.1.1
  have hb := X.1.2.1
  have hl : lv_has ls 3 [(0, .ref p0), (1, .int p1)] := hl
  have K2 : ∀ (n : Nat) (z63015 : Int32) (H : Heap) (locs : List Loc) (ls : Array Slot), (7 - z63015.toInt < (n : Int)) → (1 ≤ z63015.toInt ∧ z63015.toInt ≤ 7) → TH G ttC A s tag L F H locs → (∀ k : Int, 1 ≤ k → k < z63015.toInt → elm F x0 (48 * p1.toInt + 8 * k + 9).toNat ≠ 0) → lv_has ls 3 [(0, .ref p0), (1, .int p1), (2, .int z63015)] → W p l e { frames := 1, cells := 0, slots := 0, locals := 22 } s m args below meth c H locs 0 0 Q (F0 m 2 ls []) := by
    intro n
    induction n with
    | zero =>
      intro z63015 H locs ls hn rz63015 hT ex2_0 hl
      exfalso
      omega
    | succ n ih2 =>
      intro z63015 H locs ls hn rz63015 hT ex2_0 hl
      refine lv_iload_n hx hb dX13_inmost_2 rfl (lv_at hl 2 rfl) ?_
      refine lv_aload_n hx hb dX13_inmost_3 rfl (lv_at hl 0 rfl) ?_
      refine t_get (C := RX13) (T := TX13) (N := 37) X hT m0 g0 rfl rfl 16 (by decide) qw_112 inlX13 rfl dX13_inmost_4 (fun v63016 hv63016 ov63016 => ?_)
      obtain rfl : v63016 = .ref x0 := hv63016.symm.trans pf0
      refine lv_iconst (v := 0) hx hb dX13_inmost_7 (by decide) ?_
      refine lv_iload_n hx hb dX13_inmost_8 rfl (lv_at hl 1 rfl) ?_
      refine lv_iadd hx hb dX13_inmost_9 ?_
      refine lv_topi (fun z63017 ez63017 => ?_)
      obtain rfl : p1 = z63017 := (ar_zadd ez63017).symm
      refine t_ild X hT mx0 gx0 rfl (by omega) dX13_inmost_10 (fun z63018 vz63018 rz63018 => ?_)
      have rz63018 := row_ml (by omega) rz63018
      refine lv_icmp_gt (tgt := 36) hx hb dX13_inmost_11 (by decide) (fun c63019 => ?_) (fun c63019 => ?_)
      · have w63020 := cv_lt (rfl : z63018.toInt = z63018.toInt) (rfl : z63015.toInt = z63015.toInt) c63019
        refine lv_bipush (v := (-2)) hx hb dX13_inmost_36 (by decide) ?_
        have k63021 : ((-2) : Int32).toInt = (-2) := by decide
        exact t_iret hQ X hT (⟨rfl, (by decide), ⟨fun h9 => absurd (by decide) h9, fun h9 => absurd (by decide) h9, fun h9 => absurd h9 (inm_n (r := z63015) ex2_0 vz63018 (by omega))⟩⟩) (Nat.le_of_ble_eq_true rfl) (Nat.le_of_ble_eq_true rfl) dX13_inmost_38
      · have w63022 := cv_nlt (rfl : z63018.toInt = z63018.toInt) (rfl : z63015.toInt = z63015.toInt) c63019
        refine lv_aload_n hx hb dX13_inmost_14 rfl (lv_at hl 0 rfl) ?_
        refine t_get (C := RX13) (T := TX13) (N := 37) X hT m0 g0 rfl rfl 16 (by decide) qw_112 inlX13 rfl dX13_inmost_15 (fun v63023 hv63023 ov63023 => ?_)
        obtain rfl : v63023 = .ref x0 := hv63023.symm.trans pf0
        refine lv_iload_n hx hb dX13_inmost_18 rfl (lv_at hl 1 rfl) ?_
        refine lv_iload_n hx hb dX13_inmost_19 rfl (lv_at hl 2 rfl) ?_
        refine lv_iconst (v := 5) hx hb dX13_inmost_20 (by decide) ?_
        refine t_cSi (n := 3) (As := [.int p1, .int z63015, .int 5]) (rest := [.ref x0]) X hT (km49_X13_part l G tag L F hT.2.2.2 p1 z63015 5 (by omega) (by omega) (by decide)) qw_661 qw_662 qw_5 qw_663 ⟨by decide +kernel, by decide +kernel, by decide +kernel⟩ ⟨Nat.le_of_ble_eq_true rfl, Nat.le_of_ble_eq_true rfl⟩ hl rfl rfl (Nat.le_of_ble_eq_true rfl) dX13_inmost_21 ⟨Nat.le_of_ble_eq_true rfl, Nat.le_of_ble_eq_true rfl⟩ (fun z63024 F9 H locs hT hz63024 => ?_)
        obtain ⟨fz63024, hz63024, xz63024_0⟩ := hz63024
        rw [fz63024] at hT
        have k63025 : (5 : Int32).toInt = 5 := by decide
        refine t_ild X hT mx0 gx0 rfl (by omega) dX13_inmost_24 (fun z63026 vz63026 rz63026 => ?_)
        have oz63026 := rz63026
        have rz63026 := rg_all z63026
        refine lv_if_ne (tgt := 30) hx hb dX13_inmost_25 (by decide) (fun c63027 => ?_) (fun c63027 => ?_)
        · have w63028 := cv_ne (rfl : z63026.toInt = z63026.toInt) (by decide : (0 : Int32).toInt = 0) c63027
          obtain ⟨z63029, ez63029⟩ : ∃ y : Int32, y = z63015 + 1 := ⟨_, rfl⟩
          have hz63029 : z63029.toInt = z63015.toInt + 1 := ar_add ez63029 rfl (by decide : (1 : Int32).toInt = 1) (by omega) (by omega)
          refine lv_iinc (v := z63029) (lv' := [(2, .int z63029), (0, .ref p0), (1, .int p1)]) hx hb dX13_inmost_30 hl (k := 2) rfl (by rw [ez63029]; rfl) (by decide) rfl (fun ls hl => ?_)
          refine lv_goto (tgt := 2) hx hb dX13_inmost_33 (by decide) ?_
          exact ih2 z63029 _ _ _ (by omega) (by omega) hT (inm_s (r := z63015) (r1 := z63029) ex2_0 (by omega) vz63026 (by omega) (by omega)) (lv_sub hl [1, 2, 0] rfl)
        · have w63030 := cv_eq (rfl : z63026.toInt = z63026.toInt) (by decide : (0 : Int32).toInt = 0) c63027
          refine lv_iload_n hx hb dX13_inmost_28 rfl (lv_at hl 2 rfl) ?_
          exact t_iret hQ X hT (⟨rfl, (by omega), ⟨fun _ => by omega, fun _ => inm_r (r := z63015) (by omega) vz63018 (by omega) (by omega) vz63026 (by omega), fun _ => by omega⟩⟩) (Nat.le_of_ble_eq_true rfl) (Nat.le_of_ble_eq_true rfl) dX13_inmost_29
  refine lv_iconst (v := 1) hx hb dX13_inmost_0 (by decide) ?_
  refine lv_istore_n (lv' := [(2, .int 1), (0, .ref p0), (1, .int p1)]) hx hb dX13_inmost_1 rfl hl (by decide) rfl (fun ls hl => ?_)
  have k63031 : (1 : Int32).toInt = 1 := by decide
  have k63032 : (1 : Int32).toInt = 1 := by decide
  exact K2 7 1 _ _ _ (by omega) (by decide) hT (fun k k1 k2 => absurd k2 (by omega)) (lv_sub hl [1, 2, 0] rfl)
set_option maxHeartbeats 4000000 in
set_option maxRecDepth 100000 in
theorem km215_X13_goldOf (l : Launch) (G : KG) (tag : Nat → Nat) (L : List Nat) (F : Nat → va_E) (ho : okT G ttC tag L F) (p0 : Nat) (p1 : Int32) (p2 : Int32) (x0 : Nat) (m0 : p0 ∈ L) (g0 : tag p0 = 46) (h1 : 0 ≤ p1.toInt ∧ p1.toInt ≤ 3) (h2 : 1 ≤ p2.toInt ∧ p2.toInt ≤ 6) (mx0 : x0 ∈ L) (gx0 : tag x0 = 45) (pf0 : fld F p0 3 = .ref x0) : TMi l yX13_goldOf cX13_goldOf 3 (some .int) { frames := 1, cells := 0, slots := 0, locals := 22 } G ttC tag L F [.ref p0, .int p1, .int p2] (fun r F1 => F1 = F ∧ ((-2147483648) ≤ r.toInt ∧ r.toInt ≤ 2147483647)) := by
  refine t_bodyi (y := yX13_goldOf) (cd := cX13_goldOf) (mL := 3) (rt := (some .int)) (rm := { frames := 1, cells := 0, slots := 0, locals := 22 }) (av := [.ref p0, .int p1, .int p2]) (by decide) (Nat.le_of_ble_eq_true rfl) ho ?_
  intro p e s m args below meth c ls A Q hQ X hT hl
  have hx := X.1.1
  have hb := X.1.2.1
  have hl : lv_has ls 3 [(0, .ref p0), (1, .int p1), (2, .int p2)] := hl
  refine lv_aload_n hx hb dX13_goldOf_0 rfl (lv_at hl 0 rfl) ?_
  refine t_get (C := RX13) (T := TX13) (N := 37) X hT m0 g0 rfl rfl 3 (by decide) qw_481 inlX13 rfl dX13_goldOf_1 (fun v63172 hv63172 ov63172 => ?_)
  obtain rfl : v63172 = .ref x0 := hv63172.symm.trans pf0
  refine t_getN (C := RX12) (T := TX12) (N := 31) X hT mx0 gx0 rfl rfl 17 (by decide) (List.mem_of_getElem? (i := 21) rfl) inlX12 rfl dX13_goldOf_4 (fun v63173 hv63173 ov63173 => ?_)
  obtain ⟨b63174, rfl, mb63174, gb63174⟩ := okV_r ov63173
  have gb63174 : tag b63174 = 29 := tg_of gb63174
  refine lv_aload_n hx hb dX13_goldOf_7 rfl (lv_at hl 0 rfl) ?_
  refine t_get (C := RX13) (T := TX13) (N := 37) X hT m0 g0 rfl rfl 16 (by decide) qw_112 inlX13 rfl dX13_goldOf_8 (fun v63175 hv63175 ov63175 => ?_)
  obtain ⟨b63176, rfl, mb63176, gb63176⟩ := okV_r ov63175
  have gb63176 : tag b63176 = 37 := tg_of gb63176
  refine lv_iload_n hx hb dX13_goldOf_11 rfl (lv_at hl 1 rfl) ?_
  refine lv_iload_n hx hb dX13_goldOf_12 rfl (lv_at hl 2 rfl) ?_
  refine lv_iconst (v := 0) hx hb dX13_goldOf_13 (by decide) ?_
  refine t_cSi (n := 3) (As := [.int p1, .int p2, .int 0]) (rest := [.ref b63176, .ref b63174]) X hT (km49_X13_part l G tag L F hT.2.2.2 p1 p2 0 (by omega) (by omega) (by decide)) qw_661 qw_662 qw_5 qw_663 ⟨by decide +kernel, by decide +kernel, by decide +kernel⟩ ⟨Nat.le_of_ble_eq_true rfl, Nat.le_of_ble_eq_true rfl⟩ hl rfl rfl (Nat.le_of_ble_eq_true rfl) dX13_goldOf_14 ⟨Nat.le_of_ble_eq_true rfl, Nat.le_of_ble_eq_true rfl⟩ (fun z63177 F9 H locs hT hz63177 => ?_)
  obtain ⟨fz63177, hz63177, xz63177_0⟩ := hz63177
  rw [fz63177] at hT
  have k63178 : (0 : Int32).toInt = 0 := by decide
  refine t_ild X hT mb63176 gb63176 rfl (by omega) dX13_goldOf_17 (fun z63179 vz63179 rz63179 => ?_)
  have rz63179 := row_sl (by omega) (by omega) rz63179
  refine t_ild X hT mb63174 gb63174 rfl (by omega) dX13_goldOf_18 (fun z63180 vz63180 rz63180 => ?_)
  have rz63180 : (-2147483648) ≤ z63180.toInt ∧ z63180.toInt ≤ 2147483647 := rz63180
  refine lv_bipush (v := 8) hx hb dX13_goldOf_19 (by decide) ?_
  refine lv_imul hx hb dX13_goldOf_21 ?_
  refine lv_topi (fun z63181 ez63181 => ?_)
  have rz63181 := rg_all z63181
  refine lv_iload_n hx hb dX13_goldOf_22 rfl (lv_at hl 2 rfl) ?_
  refine lv_imul hx hb dX13_goldOf_23 ?_
  refine lv_topi (fun z63182 ez63182 => ?_)
  have rz63182 := rg_all z63182
  refine lv_iconst (v := 2) hx hb dX13_goldOf_24 (by decide) ?_
  refine lv_idiv hx hb dX13_goldOf_25 (by decide) ?_
  refine lv_topi (fun z63183 ez63183 => ?_)
  have rz63183 := rg_all z63183
  exact t_iret hQ X hT (⟨rfl, rg_all _⟩) (Nat.le_of_ble_eq_true rfl) (Nat.le_of_ble_eq_true rfl) dX13_goldOf_26
set_option maxHeartbeats 4000000 in
set_option maxRecDepth 100000 in
theorem km216_X13_takes (l : Launch) (G : KG) (tag : Nat → Nat) (L : List Nat) (Fo : Nat → va_E) (ho : okT G ttC tag L Fo) (p0 : Nat) (p1 : Int32) (x0 : Nat) (m0 : p0 ∈ L) (g0 : tag p0 = 46) (mx0 : x0 ∈ L) (gx0 : tag x0 = 45) (pf0 : fld Fo p0 3 = .ref x0) : TMi l yX13_takes cX13_takes 2 (some .int) { frames := 2, cells := 0, slots := 0, locals := 44 } G ttC tag L Fo [.ref p0, .int p1] (fun r F1 => ((-2147483648) ≤ r.toInt ∧ r.toInt ≤ 2147483647) ∧ ((∀ b j : Nat, (tag b ≠ 46 ∨ j ≠ 0) → (tag b ≠ 46 ∨ j ≠ 1) → (tag b ≠ 46 ∨ j ≠ 2) → fld F1 b j = fld Fo b j) ∧ (∀ b j : Nat, elm F1 b j = elm Fo b j))) := by
  refine t_bodyi (y := yX13_takes) (cd := cX13_takes) (mL := 2) (rt := (some .int)) (rm := { frames := 2, cells := 0, slots := 0, locals := 44 }) (av := [.ref p0, .int p1]) (by decide) (Nat.le_of_ble_eq_true rfl) ho ?_
  intro p e s m args below meth c ls A Q hQ X hT hl
  have hx := X.1.1
  have hb := X.1.2.1
  have hl : lv_has ls 2 [(0, .ref p0), (1, .int p1)] := hl
  have rp1 := rg_all p1
  obtain ⟨F, hFo⟩ : ∃ F : Nat → va_E, F = Fo := ⟨_, rfl⟩
  rw [← hFo] at hT pf0
  have hfr : (∀ b j : Nat, (tag b ≠ 46 ∨ j ≠ 0) → (tag b ≠ 46 ∨ j ≠ 1) → (tag b ≠ 46 ∨ j ≠ 2) → fld F b j = fld Fo b j) ∧ (∀ b j : Nat, elm F b j = elm Fo b j) := by
    rw [hFo]
    exact ⟨by intros; rfl, by intros; rfl⟩
  refine lv_aload_n hx hb dX13_takes_0 rfl (lv_at hl 0 rfl) ?_
  refine lv_iconst (v := 0) hx hb dX13_takes_1 (by decide) ?_
  refine t_put (C := RX13) (T := TX13) (N := 37) (v := .int 0) X hT m0 g0 rfl tyX13 tyX13_ok nmX13 rfl 0 (by decide) qw_140 inlX13 rfl (by first | rfl | decide) (by first | rfl | decide) rfl (⟨_, rfl, (show (-2147483648) ≤ (0 : Int32).toInt from (by decide)), (show (0 : Int32).toInt ≤ 2147483647 from (by decide))⟩) dX13_takes_2 (fun F H locs hT v63370 h1v63370 h2v63370 => ?_)
  have pf0 := (h1v63370 _ _ (Or.inr (by decide))).trans pf0
  have hfr : (∀ b j : Nat, (tag b ≠ 46 ∨ j ≠ 0) → (tag b ≠ 46 ∨ j ≠ 1) → (tag b ≠ 46 ∨ j ≠ 2) → fld F b j = fld Fo b j) ∧ (∀ b j : Nat, elm F b j = elm Fo b j) := ⟨fun b j n46_0 n46_1 n46_2 => (h1v63370 b j (fr_ne g0 n46_0)).trans (hfr.1 b j n46_0 n46_1 n46_2), fun b j  => (h2v63370 b j).trans (hfr.2 b j )⟩
  refine lv_aload_n hx hb dX13_takes_5 rfl (lv_at hl 0 rfl) ?_
  refine lv_iload_n hx hb dX13_takes_6 rfl (lv_at hl 1 rfl) ?_
  refine t_cVi (n := 1) (C := RX13) (T := TX13) (N := 37) (As := [.int p1]) (rest := []) X hT (km107_X13_isHouse l G tag L F hT.2.2.2 p0 p1 x0 m0 g0 mx0 gx0 pf0) m0 g0 rfl rfl qw_796 qw_797 qw_798 qw_5 qw_799 ⟨rfl, by decide +kernel, by decide +kernel, by decide +kernel⟩ ⟨Nat.le_of_ble_eq_true rfl, Nat.le_of_ble_eq_true rfl⟩ hl rfl rfl (Nat.le_of_ble_eq_true rfl) dX13_takes_7 ⟨Nat.le_of_ble_eq_true rfl, Nat.le_of_ble_eq_true rfl⟩ (fun z63371 F9 H locs hT hz63371 => ?_)
  obtain ⟨fz63371, hz63371⟩ := hz63371
  rw [fz63371] at hT
  obtain ⟨hz63371, iz63371⟩ := hz63371
  refine lv_if_ne (tgt := 19) hx hb dX13_takes_10 (by decide) (fun c63372 => ?_) (fun c63372 => ?_)
  · have w63373 := cv_ne (rfl : z63371.toInt = z63371.toInt) (by decide : (0 : Int32).toInt = 0) c63372
    have w63374 := (fun h => (iz63371 h)) (by omega)
    refine lv_aload_n hx hb dX13_takes_19 rfl (lv_at hl 0 rfl) ?_
    refine lv_aload_n hx hb dX13_takes_20 rfl (lv_at hl 0 rfl) ?_
    refine lv_iload_n hx hb dX13_takes_21 rfl (lv_at hl 1 rfl) ?_
    obtain ⟨z63375, qz63375, mz63375, gz63375⟩ := t_fldr hT m0 g0 rfl 16 rfl
    have gz63375 : tag z63375 = 37 := tg_of gz63375
    refine t_cVi (n := 1) (C := RX13) (T := TX13) (N := 37) (As := [.int p1]) (rest := [.ref p0]) X hT (km214_X13_inmost l G tag L F hT.2.2.2 p0 p1 z63375 m0 g0 (by omega) mz63375 gz63375 qz63375) m0 g0 rfl rfl qw_1304 qw_1305 qw_1306 qw_5 qw_1307 ⟨rfl, by decide +kernel, by decide +kernel, by decide +kernel⟩ ⟨Nat.le_of_ble_eq_true rfl, Nat.le_of_ble_eq_true rfl⟩ hl rfl rfl (Nat.le_of_ble_eq_true rfl) dX13_takes_22 ⟨Nat.le_of_ble_eq_true rfl, Nat.le_of_ble_eq_true rfl⟩ (fun z63376 F9 H locs hT hz63376 => ?_)
    obtain ⟨fz63376, hz63376, xz63376_0⟩ := hz63376
    rw [fz63376] at hT xz63376_0
    refine lv_bipush (v := (-2)) hx hb dX13_takes_25 (by decide) ?_
    refine lv_icmp_ne (tgt := 35) hx hb dX13_takes_27 (by decide) (fun c63377 => ?_) (fun c63377 => ?_)
    · have w63378 := cv_ne (rfl : z63376.toInt = z63376.toInt) (by decide : ((-2) : Int32).toInt = (-2)) c63377
      have w63379 := xz63376_0.1 (by omega)
      refine lv_aload_n hx hb dX13_takes_35 rfl (lv_at hl 0 rfl) ?_
      refine lv_iload_n hx hb dX13_takes_36 rfl (lv_at hl 1 rfl) ?_
      refine lv_aload_n hx hb dX13_takes_37 rfl (lv_at hl 0 rfl) ?_
      refine lv_iload_n hx hb dX13_takes_38 rfl (lv_at hl 1 rfl) ?_
      refine t_cVi (n := 1) (C := RX13) (T := TX13) (N := 37) (As := [.int p1]) (rest := [.int p1, .ref p0, .ref p0]) X hT (km214_X13_inmost l G tag L F hT.2.2.2 p0 p1 z63375 m0 g0 (by omega) mz63375 gz63375 qz63375) m0 g0 rfl rfl qw_1304 qw_1305 qw_1306 qw_5 qw_1307 ⟨rfl, by decide +kernel, by decide +kernel, by decide +kernel⟩ ⟨Nat.le_of_ble_eq_true rfl, Nat.le_of_ble_eq_true rfl⟩ hl rfl rfl (Nat.le_of_ble_eq_true rfl) dX13_takes_39 ⟨Nat.le_of_ble_eq_true rfl, Nat.le_of_ble_eq_true rfl⟩ (fun z63380 F9 H locs hT hz63380 => ?_)
      obtain ⟨fz63380, hz63380, xz63380_0⟩ := hz63380
      rw [fz63380] at hT xz63380_0
      have w63381 := xz63380_0.1 (xz63380_0.2.mpr (xz63376_0.2.mp (by omega)))
      refine t_cVi (n := 2) (C := RX13) (T := TX13) (N := 37) (As := [.int p1, .int z63380]) (rest := [.ref p0]) X hT (km215_X13_goldOf l G tag L F hT.2.2.2 p0 p1 z63380 x0 m0 g0 (by omega) (by omega) mx0 gx0 pf0) m0 g0 rfl rfl qw_1308 qw_1309 qw_1310 qw_5 qw_1311 ⟨rfl, by decide +kernel, by decide +kernel, by decide +kernel⟩ ⟨Nat.le_of_ble_eq_true rfl, Nat.le_of_ble_eq_true rfl⟩ hl rfl rfl (Nat.le_of_ble_eq_true rfl) dX13_takes_42 ⟨Nat.le_of_ble_eq_true rfl, Nat.le_of_ble_eq_true rfl⟩ (fun z63382 F9 H locs hT hz63382 => ?_)
      obtain ⟨fz63382, hz63382⟩ := hz63382
      rw [fz63382] at hT
      refine t_cVi (n := 1) (C := RX13) (T := TX13) (N := 37) (As := [.int z63382]) (rest := []) X hT (km93_X13_good l G tag L F hT.2.2.2 p0 z63382 m0 g0) m0 g0 rfl rfl qw_687 qw_688 qw_689 qw_5 qw_690 ⟨rfl, by decide +kernel, by decide +kernel, by decide +kernel⟩ ⟨Nat.le_of_ble_eq_true rfl, Nat.le_of_ble_eq_true rfl⟩ hl rfl rfl (Nat.le_of_ble_eq_true rfl) dX13_takes_45 ⟨Nat.le_of_ble_eq_true rfl, Nat.le_of_ble_eq_true rfl⟩ (fun z63383 F H locs hT hz63383 => ?_)
      obtain ⟨hz63383, yz63383⟩ := hz63383
      have pf0 := (yz63383.1 _ 3 (Or.inr (by decide)) (Or.inr (by decide))).trans pf0
      have v63370 := (yz63383.1 _ 0 (Or.inr (by decide)) (Or.inr (by decide))).trans v63370
      have qz63375 := (yz63383.1 _ 16 (Or.inr (by decide)) (Or.inr (by decide))).trans qz63375
      have hfr : (∀ b j : Nat, (tag b ≠ 46 ∨ j ≠ 0) → (tag b ≠ 46 ∨ j ≠ 1) → (tag b ≠ 46 ∨ j ≠ 2) → fld F b j = fld Fo b j) ∧ (∀ b j : Nat, elm F b j = elm Fo b j) := ⟨fun b j n46_0 n46_1 n46_2 => (yz63383.1 b j n46_1 n46_2).trans (hfr.1 b j n46_0 n46_1 n46_2), fun b j  => (yz63383.2 b j ).trans (hfr.2 b j )⟩
      exact t_iret hQ X hT (⟨rg_all _, hfr⟩) (Nat.le_of_ble_eq_true rfl) (Nat.le_of_ble_eq_true rfl) dX13_takes_48
    · have w63384 := cv_eq (rfl : z63376.toInt = z63376.toInt) (by decide : ((-2) : Int32).toInt = (-2)) c63377
      refine lv_bipush (v := (-2)) hx hb dX13_takes_30 (by decide) ?_
      refine lv_goto (tgt := 45) hx hb dX13_takes_32 (by decide) ?_
      refine t_cVi (n := 1) (C := RX13) (T := TX13) (N := 37) (As := [.int (-2)]) (rest := []) X hT (km93_X13_good l G tag L F hT.2.2.2 p0 (-2) m0 g0) m0 g0 rfl rfl qw_687 qw_688 qw_689 qw_5 qw_690 ⟨rfl, by decide +kernel, by decide +kernel, by decide +kernel⟩ ⟨Nat.le_of_ble_eq_true rfl, Nat.le_of_ble_eq_true rfl⟩ hl rfl rfl (Nat.le_of_ble_eq_true rfl) dX13_takes_45 ⟨Nat.le_of_ble_eq_true rfl, Nat.le_of_ble_eq_true rfl⟩ (fun z63385 F H locs hT hz63385 => ?_)
      obtain ⟨hz63385, yz63385⟩ := hz63385
      have pf0 := (yz63385.1 _ 3 (Or.inr (by decide)) (Or.inr (by decide))).trans pf0
      have v63370 := (yz63385.1 _ 0 (Or.inr (by decide)) (Or.inr (by decide))).trans v63370
      have qz63375 := (yz63385.1 _ 16 (Or.inr (by decide)) (Or.inr (by decide))).trans qz63375
      have hfr : (∀ b j : Nat, (tag b ≠ 46 ∨ j ≠ 0) → (tag b ≠ 46 ∨ j ≠ 1) → (tag b ≠ 46 ∨ j ≠ 2) → fld F b j = fld Fo b j) ∧ (∀ b j : Nat, elm F b j = elm Fo b j) := ⟨fun b j n46_0 n46_1 n46_2 => (yz63385.1 b j n46_1 n46_2).trans (hfr.1 b j n46_0 n46_1 n46_2), fun b j  => (yz63385.2 b j ).trans (hfr.2 b j )⟩
      exact t_iret hQ X hT (⟨rg_all _, hfr⟩) (Nat.le_of_ble_eq_true rfl) (Nat.le_of_ble_eq_true rfl) dX13_takes_48
  · have w63386 := cv_eq (rfl : z63371.toInt = z63371.toInt) (by decide : (0 : Int32).toInt = 0) c63372
    refine lv_aload_n hx hb dX13_takes_13 rfl (lv_at hl 0 rfl) ?_
    refine lv_iconst (v := 1) hx hb dX13_takes_14 (by decide) ?_
    refine t_cVi (n := 1) (C := RX13) (T := TX13) (N := 37) (As := [.int 1]) (rest := []) X hT (km88_X13_refused l G tag L F hT.2.2.2 p0 1 m0 g0) m0 g0 rfl rfl qw_484 qw_485 qw_486 qw_5 qw_487 ⟨rfl, by decide +kernel, by decide +kernel, by decide +kernel⟩ ⟨Nat.le_of_ble_eq_true rfl, Nat.le_of_ble_eq_true rfl⟩ hl rfl rfl (Nat.le_of_ble_eq_true rfl) dX13_takes_15 ⟨Nat.le_of_ble_eq_true rfl, Nat.le_of_ble_eq_true rfl⟩ (fun z63387 F H locs hT hz63387 => ?_)
    obtain ⟨hz63387, yz63387⟩ := hz63387
    have pf0 := (yz63387.1 _ 3 (Or.inr (by decide)) (Or.inr (by decide))).trans pf0
    have v63370 := (yz63387.1 _ 0 (Or.inr (by decide)) (Or.inr (by decide))).trans v63370
    have hfr : (∀ b j : Nat, (tag b ≠ 46 ∨ j ≠ 0) → (tag b ≠ 46 ∨ j ≠ 1) → (tag b ≠ 46 ∨ j ≠ 2) → fld F b j = fld Fo b j) ∧ (∀ b j : Nat, elm F b j = elm Fo b j) := ⟨fun b j n46_0 n46_1 n46_2 => (yz63387.1 b j n46_1 n46_2).trans (hfr.1 b j n46_0 n46_1 n46_2), fun b j  => (yz63387.2 b j ).trans (hfr.2 b j )⟩
    exact t_iret hQ X hT (⟨rg_all _, hfr⟩) (Nat.le_of_ble_eq_true rfl) (Nat.le_of_ble_eq_true rfl) dX13_takes_18
set_option maxHeartbeats 4000000 in
set_option maxRecDepth 100000 in
theorem km217_X13_takes (l : Launch) (G : KG) (tag : Nat → Nat) (L : List Nat) (Fo : Nat → va_E) (ho : okT G ttC tag L Fo) (p0 : Nat) (p1 : Int32) (m0 : p0 ∈ L) (g0 : tag p0 = 46) (pf0 : fld Fo p0 3 = .null) : TMi l yX13_takes cX13_takes 2 (some .int) { frames := 2, cells := 0, slots := 0, locals := 44 } G ttC tag L Fo [.ref p0, .int p1] (fun r F1 => ((-2147483648) ≤ r.toInt ∧ r.toInt ≤ 2147483647) ∧ ((∀ b j : Nat, (tag b ≠ 46 ∨ j ≠ 0) → (tag b ≠ 46 ∨ j ≠ 1) → (tag b ≠ 46 ∨ j ≠ 2) → fld F1 b j = fld Fo b j) ∧ (∀ b j : Nat, elm F1 b j = elm Fo b j))) := by
  refine t_bodyi (y := yX13_takes) (cd := cX13_takes) (mL := 2) (rt := (some .int)) (rm := { frames := 2, cells := 0, slots := 0, locals := 44 }) (av := [.ref p0, .int p1]) (by decide) (Nat.le_of_ble_eq_true rfl) ho ?_
  intro p e s m args below meth c ls A Q hQ X hT hl
  have hx := X.1.1
  have hb := X.1.2.1
  have hl : lv_has ls 2 [(0, .ref p0), (1, .int p1)] := hl
  have rp1 := rg_all p1
  obtain ⟨F, hFo⟩ : ∃ F : Nat → va_E, F = Fo := ⟨_, rfl⟩
  rw [← hFo] at hT pf0
  have hfr : (∀ b j : Nat, (tag b ≠ 46 ∨ j ≠ 0) → (tag b ≠ 46 ∨ j ≠ 1) → (tag b ≠ 46 ∨ j ≠ 2) → fld F b j = fld Fo b j) ∧ (∀ b j : Nat, elm F b j = elm Fo b j) := by
    rw [hFo]
    exact ⟨by intros; rfl, by intros; rfl⟩
  refine lv_aload_n hx hb dX13_takes_0 rfl (lv_at hl 0 rfl) ?_
  refine lv_iconst (v := 0) hx hb dX13_takes_1 (by decide) ?_
  refine t_put (C := RX13) (T := TX13) (N := 37) (v := .int 0) X hT m0 g0 rfl tyX13 tyX13_ok nmX13 rfl 0 (by decide) qw_140 inlX13 rfl (by first | rfl | decide) (by first | rfl | decide) rfl (⟨_, rfl, (show (-2147483648) ≤ (0 : Int32).toInt from (by decide)), (show (0 : Int32).toInt ≤ 2147483647 from (by decide))⟩) dX13_takes_2 (fun F H locs hT v63454 h1v63454 h2v63454 => ?_)
  have pf0 := (h1v63454 _ _ (Or.inr (by decide))).trans pf0
  have hfr : (∀ b j : Nat, (tag b ≠ 46 ∨ j ≠ 0) → (tag b ≠ 46 ∨ j ≠ 1) → (tag b ≠ 46 ∨ j ≠ 2) → fld F b j = fld Fo b j) ∧ (∀ b j : Nat, elm F b j = elm Fo b j) := ⟨fun b j n46_0 n46_1 n46_2 => (h1v63454 b j (fr_ne g0 n46_0)).trans (hfr.1 b j n46_0 n46_1 n46_2), fun b j  => (h2v63454 b j).trans (hfr.2 b j )⟩
  refine lv_aload_n hx hb dX13_takes_5 rfl (lv_at hl 0 rfl) ?_
  refine lv_iload_n hx hb dX13_takes_6 rfl (lv_at hl 1 rfl) ?_
  refine t_cVi (n := 1) (C := RX13) (T := TX13) (N := 37) (As := [.int p1]) (rest := []) X hT (km116_X13_isHouse l G tag L F hT.2.2.2 p0 p1 m0 g0 pf0) m0 g0 rfl rfl qw_796 qw_797 qw_798 qw_5 qw_799 ⟨rfl, by decide +kernel, by decide +kernel, by decide +kernel⟩ ⟨Nat.le_of_ble_eq_true rfl, Nat.le_of_ble_eq_true rfl⟩ hl rfl rfl (Nat.le_of_ble_eq_true rfl) dX13_takes_7 ⟨Nat.le_of_ble_eq_true rfl, Nat.le_of_ble_eq_true rfl⟩ (fun z63455 F9 H locs hT hz63455 => ?_)
  obtain ⟨fz63455, hz63455⟩ := hz63455
  rw [fz63455] at hT
  refine lv_if_ne (tgt := 19) hx hb dX13_takes_10 (by decide) (fun c63456 => ?_) (fun c63456 => ?_)
  · have w63457 := cv_ne (rfl : z63455.toInt = z63455.toInt) (by decide : (0 : Int32).toInt = 0) c63456
    exfalso
    omega
  · have w63458 := cv_eq (rfl : z63455.toInt = z63455.toInt) (by decide : (0 : Int32).toInt = 0) c63456
    refine lv_aload_n hx hb dX13_takes_13 rfl (lv_at hl 0 rfl) ?_
    refine lv_iconst (v := 1) hx hb dX13_takes_14 (by decide) ?_
    refine t_cVi (n := 1) (C := RX13) (T := TX13) (N := 37) (As := [.int 1]) (rest := []) X hT (km88_X13_refused l G tag L F hT.2.2.2 p0 1 m0 g0) m0 g0 rfl rfl qw_484 qw_485 qw_486 qw_5 qw_487 ⟨rfl, by decide +kernel, by decide +kernel, by decide +kernel⟩ ⟨Nat.le_of_ble_eq_true rfl, Nat.le_of_ble_eq_true rfl⟩ hl rfl rfl (Nat.le_of_ble_eq_true rfl) dX13_takes_15 ⟨Nat.le_of_ble_eq_true rfl, Nat.le_of_ble_eq_true rfl⟩ (fun z63459 F H locs hT hz63459 => ?_)
    obtain ⟨hz63459, yz63459⟩ := hz63459
    have pf0 := (yz63459.1 _ 3 (Or.inr (by decide)) (Or.inr (by decide))).trans pf0
    have v63454 := (yz63459.1 _ 0 (Or.inr (by decide)) (Or.inr (by decide))).trans v63454
    have hfr : (∀ b j : Nat, (tag b ≠ 46 ∨ j ≠ 0) → (tag b ≠ 46 ∨ j ≠ 1) → (tag b ≠ 46 ∨ j ≠ 2) → fld F b j = fld Fo b j) ∧ (∀ b j : Nat, elm F b j = elm Fo b j) := ⟨fun b j n46_0 n46_1 n46_2 => (yz63459.1 b j n46_1 n46_2).trans (hfr.1 b j n46_0 n46_1 n46_2), fun b j  => (yz63459.2 b j ).trans (hfr.2 b j )⟩
    exact t_iret hQ X hT (⟨rg_all _, hfr⟩) (Nat.le_of_ble_eq_true rfl) (Nat.le_of_ble_eq_true rfl) dX13_takes_18
theorem kp_X13_takes (l : Launch) (G : KG) (tag : Nat → Nat) (L : List Nat) (Fo : Nat → va_E) (ho : okT G ttC tag L Fo) (p0 : Nat) (p1 : Int32) (m0 : p0 ∈ L) (g0 : tag p0 = 46) : TMi l yX13_takes cX13_takes 2 (some .int) { frames := 2, cells := 0, slots := 0, locals := 44 } G ttC tag L Fo [.ref p0, .int p1] (fun r F1 => ((-2147483648) ≤ r.toInt ∧ r.toInt ≤ 2147483647) ∧ ((∀ b j : Nat, (tag b ≠ 46 ∨ j ≠ 0) → (tag b ≠ 46 ∨ j ≠ 1) → (tag b ≠ 46 ∨ j ≠ 2) → fld F1 b j = fld Fo b j) ∧ (∀ b j : Nat, elm F1 b j = elm Fo b j))) := by
  rcases t_fldn ho m0 g0 rfl 3 rfl with h9 | ⟨b9, h9, m9, t9⟩
  · exact km217_X13_takes l G tag L Fo ho p0 p1  m0 g0 h9 
  · exact km216_X13_takes l G tag L Fo ho p0 p1 b9  m0 g0 m9 (tg_of t9) h9 
set_option maxHeartbeats 4000000 in
set_option maxRecDepth 100000 in
theorem km219_X13_isLivedIn (l : Launch) (G : KG) (tag : Nat → Nat) (L : List Nat) (F : Nat → va_E) (ho : okT G ttC tag L F) (p0 : Nat) (p1 : Int32) (p2 : Int32) (x0 : Nat) (m0 : p0 ∈ L) (g0 : tag p0 = 46) (mx0 : x0 ∈ L) (gx0 : tag x0 = 45) (pf0 : fld F p0 3 = .ref x0) : TMi l yX13_isLivedIn cX13_isLivedIn 4 (some .boolean) { frames := 0, cells := 0, slots := 0, locals := 0 } G ttC tag L F [.ref p0, .int p1, .int p2] (fun r F1 => F1 = F ∧ (0 ≤ r.toInt ∧ r.toInt ≤ 1)) := by
  refine t_bodyi (y := yX13_isLivedIn) (cd := cX13_isLivedIn) (mL := 4) (rt := (some .boolean)) (rm := { frames := 0, cells := 0, slots := 0, locals := 0 }) (av := [.ref p0, .int p1, .int p2]) (by decide) (Nat.le_of_ble_eq_true rfl) ho ?_
  intro p e s m args below meth c ls A Q hQ X hT hl
  have hx := X.1.1
  have hb := X.1.2.1
  have hl : lv_has ls 4 [(0, .ref p0), (1, .int p1), (2, .int p2)] := hl
  have rp1 := rg_all p1
  have rp2 := rg_all p2
  have K2 : ∀ (n : Nat) (z63858 : Int32) (H : Heap) (locs : List Loc) (ls : Array Slot), (6 - z63858.toInt < (n : Int)) → (0 ≤ z63858.toInt ∧ z63858.toInt ≤ 6) → TH G ttC A s tag L F H locs → lv_has ls 4 [(0, .ref p0), (1, .int p1), (2, .int p2), (3, .int z63858)] → W p l e { frames := 0, cells := 0, slots := 0, locals := 0 } s m args below meth c H locs 0 0 Q (F0 m 2 ls []) := by
    intro n
    induction n with
    | zero =>
      intro z63858 H locs ls hn rz63858 hT hl
      exfalso
      omega
    | succ n ih2 =>
      intro z63858 H locs ls hn rz63858 hT hl
      have K42 : ∀ (z63860 : Int32) (H : Heap) (locs : List Loc) (ls : Array Slot), (1 ≤ z63860.toInt ∧ z63860.toInt ≤ 6) → (0 ≤ z63858.toInt ∧ z63858.toInt ≤ 5) → TH G ttC A s tag L F H locs → (fld F x0 9 = .int z63860) → lv_has ls 4 [(0, .ref p0), (1, .int p1), (2, .int p2), (3, .int z63858)] → W p l e { frames := 0, cells := 0, slots := 0, locals := 0 } s m args below meth c H locs 0 0 Q (F0 m 42 ls []) := by
        intro z63860 H locs ls rz63860 r9s63859 hT qz63860 hl
        obtain ⟨z63861, ez63861⟩ : ∃ y : Int32, y = z63858 + 1 := ⟨_, rfl⟩
        have hz63861 : z63861.toInt = z63858.toInt + 1 := ar_add ez63861 rfl (by decide : (1 : Int32).toInt = 1) (by omega) (by omega)
        refine lv_iinc (v := z63861) (lv' := [(3, .int z63861), (0, .ref p0), (1, .int p1), (2, .int p2)]) hx hb dX13_isLivedIn_42 hl (k := 3) rfl (by rw [ez63861]; rfl) (by decide) rfl (fun ls hl => ?_)
        refine lv_goto (tgt := 2) hx hb dX13_isLivedIn_45 (by decide) ?_
        exact ih2 z63861 _ _ _ (by omega) (by omega) hT  (lv_sub hl [1, 2, 3, 0] rfl)
      refine lv_iload_n hx hb dX13_isLivedIn_2 rfl (lv_at hl 3 rfl) ?_
      refine lv_aload_n hx hb dX13_isLivedIn_3 rfl (lv_at hl 0 rfl) ?_
      refine t_get (C := RX13) (T := TX13) (N := 37) X hT m0 g0 rfl rfl 3 (by decide) qw_481 inlX13 rfl dX13_isLivedIn_4 (fun v63862 hv63862 ov63862 => ?_)
      obtain rfl : v63862 = .ref x0 := hv63862.symm.trans pf0
      refine t_getN (C := RX12) (T := TX12) (N := 31) X hT mx0 gx0 rfl rfl 9 (by decide) (List.mem_of_getElem? (i := 13) rfl) inlX12 rfl dX13_isLivedIn_7 (fun v63863 hv63863 ov63863 => ?_)
      obtain ⟨z63864, rfl, rz63864⟩ := okV_i ov63863
      refine lv_icmp_ge (tgt := 48) hx hb dX13_isLivedIn_10 (by decide) (fun c63865 => ?_) (fun c63865 => ?_)
      · have w63866 := cv_le (rfl : z63864.toInt = z63864.toInt) (rfl : z63858.toInt = z63858.toInt) c63865
        refine lv_iconst (v := 0) hx hb dX13_isLivedIn_48 (by decide) ?_
        have k63867 : (0 : Int32).toInt = 0 := by decide
        exact t_zret hQ X hT (by decide) (⟨rfl, (by decide)⟩) (Nat.le_of_ble_eq_true rfl) (Nat.le_of_ble_eq_true rfl) dX13_isLivedIn_49
      · have w63868 := cv_nle (rfl : z63864.toInt = z63864.toInt) (rfl : z63858.toInt = z63858.toInt) c63865
        refine lv_aload_n hx hb dX13_isLivedIn_13 rfl (lv_at hl 0 rfl) ?_
        refine t_get (C := RX13) (T := TX13) (N := 37) X hT m0 g0 rfl rfl 3 (by decide) qw_481 inlX13 rfl dX13_isLivedIn_14 (fun v63869 hv63869 ov63869 => ?_)
        obtain rfl : v63869 = .ref x0 := hv63869.symm.trans pf0
        refine t_getN (C := RX12) (T := TX12) (N := 31) X hT mx0 gx0 rfl rfl 23 (by decide) (List.mem_of_getElem? (i := 27) rfl) inlX12 rfl dX13_isLivedIn_17 (fun v63870 hv63870 ov63870 => ?_)
        obtain ⟨b63871, rfl, mb63871, gb63871⟩ := okV_r ov63870
        have gb63871 : tag b63871 = 32 := tg_of gb63871
        refine lv_iload_n hx hb dX13_isLivedIn_20 rfl (lv_at hl 3 rfl) ?_
        refine t_ild X hT mb63871 gb63871 rfl (by omega) dX13_isLivedIn_21 (fun z63872 vz63872 rz63872 => ?_)
        have rz63872 : 0 ≤ z63872.toInt ∧ z63872.toInt ≤ 3 := rz63872
        refine lv_iload_n hx hb dX13_isLivedIn_22 rfl (lv_at hl 1 rfl) ?_
        refine lv_icmp_ne (tgt := 42) hx hb dX13_isLivedIn_23 (by decide) (fun c63873 => ?_) (fun c63873 => ?_)
        · have w63874 := cv_ne (rfl : z63872.toInt = z63872.toInt) (rfl : p1.toInt = p1.toInt) c63873
          exact K42 z63864 _ _ _ (by omega) (by omega) hT hv63863 (lv_sub hl [0, 1, 2, 3] rfl)
        · have w63875 := cv_eq (rfl : z63872.toInt = z63872.toInt) (rfl : p1.toInt = p1.toInt) c63873
          refine lv_aload_n hx hb dX13_isLivedIn_26 rfl (lv_at hl 0 rfl) ?_
          refine t_get (C := RX13) (T := TX13) (N := 37) X hT m0 g0 rfl rfl 16 (by decide) qw_112 inlX13 rfl dX13_isLivedIn_27 (fun v63876 hv63876 ov63876 => ?_)
          obtain ⟨b63877, rfl, mb63877, gb63877⟩ := okV_r ov63876
          have gb63877 : tag b63877 = 37 := tg_of gb63877
          refine lv_sipush (v := 204) hx hb dX13_isLivedIn_30 (by decide) ?_
          refine lv_iload_n hx hb dX13_isLivedIn_33 rfl (lv_at hl 3 rfl) ?_
          refine lv_iadd hx hb dX13_isLivedIn_34 ?_
          refine lv_topi (fun z63878 ez63878 => ?_)
          have hz63878 : z63878.toInt = 204 + z63858.toInt := ar_add ez63878 (by decide : (204 : Int32).toInt = 204) (rfl : z63858.toInt = z63858.toInt) (by omega) (by omega)
          have rz63878 : 204 ≤ z63878.toInt ∧ z63878.toInt ≤ 209 := by omega
          refine t_ild X hT mb63877 gb63877 rfl (by omega) dX13_isLivedIn_35 (fun z63879 vz63879 rz63879 => ?_)
          have oz63879 := rz63879
          have rz63879 := rg_all z63879
          refine lv_iload_n hx hb dX13_isLivedIn_36 rfl (lv_at hl 2 rfl) ?_
          refine lv_icmp_ne (tgt := 42) hx hb dX13_isLivedIn_37 (by decide) (fun c63880 => ?_) (fun c63880 => ?_)
          · have w63881 := cv_ne (rfl : z63879.toInt = z63879.toInt) (rfl : p2.toInt = p2.toInt) c63880
            exact K42 z63864 _ _ _ (by omega) (by omega) hT hv63863 (lv_sub hl [0, 1, 2, 3] rfl)
          · have w63882 := cv_eq (rfl : z63879.toInt = z63879.toInt) (rfl : p2.toInt = p2.toInt) c63880
            refine lv_iconst (v := 1) hx hb dX13_isLivedIn_40 (by decide) ?_
            have k63883 : (1 : Int32).toInt = 1 := by decide
            exact t_zret hQ X hT (by decide) (⟨rfl, (by decide)⟩) (Nat.le_of_ble_eq_true rfl) (Nat.le_of_ble_eq_true rfl) dX13_isLivedIn_41
  refine lv_iconst (v := 0) hx hb dX13_isLivedIn_0 (by decide) ?_
  refine lv_istore_n (lv' := [(3, .int 0), (0, .ref p0), (1, .int p1), (2, .int p2)]) hx hb dX13_isLivedIn_1 rfl hl (by decide) rfl (fun ls hl => ?_)
  have k63884 : (0 : Int32).toInt = 0 := by decide
  exact K2 7 0 _ _ _ (by omega) (by decide) hT  (lv_sub hl [1, 2, 3, 0] rfl)
set_option maxHeartbeats 4000000 in
set_option maxRecDepth 100000 in
theorem km220_X13_worth (l : Launch) (G : KG) (tag : Nat → Nat) (L : List Nat) (Fo : Nat → va_E) (ho : okT G ttC tag L Fo) (p0 : Nat) (p1 : Int32) (x0 : Nat) (m0 : p0 ∈ L) (g0 : tag p0 = 46) (mx0 : x0 ∈ L) (gx0 : tag x0 = 45) (pf0 : fld Fo p0 3 = .ref x0) : TMi l yX13_worth cX13_worth 4 (some .int) { frames := 2, cells := 0, slots := 0, locals := 44 } G ttC tag L Fo [.ref p0, .int p1] (fun r F1 => ((-2147483648) ≤ r.toInt ∧ r.toInt ≤ 2147483647) ∧ ((∀ b j : Nat, (tag b ≠ 46 ∨ j ≠ 0) → (tag b ≠ 46 ∨ j ≠ 1) → (tag b ≠ 46 ∨ j ≠ 2) → fld F1 b j = fld Fo b j) ∧ (∀ b j : Nat, elm F1 b j = elm Fo b j))) := by
  refine t_bodyi (y := yX13_worth) (cd := cX13_worth) (mL := 4) (rt := (some .int)) (rm := { frames := 2, cells := 0, slots := 0, locals := 44 }) (av := [.ref p0, .int p1]) (by decide) (Nat.le_of_ble_eq_true rfl) ho ?_
  intro p e s m args below meth c ls A Q hQ X hT hl
  have hx := X.1.1
  have hb := X.1.2.1
  have hl : lv_has ls 4 [(0, .ref p0), (1, .int p1)] := hl
  have rp1 := rg_all p1
  obtain ⟨F, hFo⟩ : ∃ F : Nat → va_E, F = Fo := ⟨_, rfl⟩
  rw [← hFo] at hT pf0
  have hfr : (∀ b j : Nat, (tag b ≠ 46 ∨ j ≠ 0) → (tag b ≠ 46 ∨ j ≠ 1) → (tag b ≠ 46 ∨ j ≠ 2) → fld F b j = fld Fo b j) ∧ (∀ b j : Nat, elm F b j = elm Fo b j) := by
    rw [hFo]
    exact ⟨by intros; rfl, by intros; rfl⟩
  have K23 : ∀ (n : Nat) (z64332 : Int32) (z64333 : Int32) (z64334 : Int32) (F : Nat → va_E) (H : Heap) (locs : List Loc) (ls : Array Slot), (6 - z64333.toInt < (n : Int)) → (1 ≤ z64333.toInt ∧ z64333.toInt ≤ 6) → (0 ≤ z64334.toInt ∧ z64334.toInt ≤ 0) → (0 ≤ p1.toInt ∧ p1.toInt ≤ 3) → TH G ttC A s tag L F H locs → ((∀ b j : Nat, (tag b ≠ 46 ∨ j ≠ 0) → (tag b ≠ 46 ∨ j ≠ 1) → (tag b ≠ 46 ∨ j ≠ 2) → fld F b j = fld Fo b j) ∧ (∀ b j : Nat, elm F b j = elm Fo b j)) → (fld F p0 3 = .ref x0) → (fld F p0 0 = .int z64334) → lv_has ls 4 [(0, .ref p0), (1, .int p1), (2, .int z64332), (3, .int z64333)] → W p l e { frames := 2, cells := 0, slots := 0, locals := 44 } s m args below meth c H locs 0 0 Q (F0 m 23 ls []) := by
    intro n
    induction n with
    | zero =>
      intro z64332 z64333 z64334 F H locs ls hn rz64333 rz64334 r9s64331 hT hfr pf0 qz64334 hl
      have rz64332 := rg_all z64332
      exfalso
      omega
    | succ n ih23 =>
      intro z64332 z64333 z64334 F H locs ls hn rz64333 rz64334 r9s64331 hT hfr pf0 qz64334 hl
      have rz64332 := rg_all z64332
      have K77 : ∀ (z64335 : Int32) (z64337 : Int32) (F : Nat → va_E) (H : Heap) (locs : List Loc) (ls : Array Slot), (0 ≤ z64337.toInt ∧ z64337.toInt ≤ 0) → (1 ≤ z64333.toInt ∧ z64333.toInt ≤ 5) → TH G ttC A s tag L F H locs → ((∀ b j : Nat, (tag b ≠ 46 ∨ j ≠ 0) → (tag b ≠ 46 ∨ j ≠ 1) → (tag b ≠ 46 ∨ j ≠ 2) → fld F b j = fld Fo b j) ∧ (∀ b j : Nat, elm F b j = elm Fo b j)) → (fld F p0 3 = .ref x0) → (fld F p0 0 = .int z64337) → lv_has ls 4 [(0, .ref p0), (1, .int p1), (2, .int z64335), (3, .int z64333)] → W p l e { frames := 2, cells := 0, slots := 0, locals := 44 } s m args below meth c H locs 0 0 Q (F0 m 77 ls []) := by
        intro z64335 z64337 F H locs ls rz64337 r9s64336 hT hfr pf0 qz64337 hl
        have rz64335 := rg_all z64335
        obtain ⟨z64338, ez64338⟩ : ∃ y : Int32, y = z64333 + 1 := ⟨_, rfl⟩
        have hz64338 : z64338.toInt = z64333.toInt + 1 := ar_add ez64338 rfl (by decide : (1 : Int32).toInt = 1) (by omega) (by omega)
        refine lv_iinc (v := z64338) (lv' := [(3, .int z64338), (0, .ref p0), (1, .int p1), (2, .int z64335)]) hx hb dX13_worth_77 hl (k := 3) rfl (by rw [ez64338]; rfl) (by decide) rfl (fun ls hl => ?_)
        refine lv_goto (tgt := 23) hx hb dX13_worth_80 (by decide) ?_
        exact ih23 z64335 z64338 z64337 _ _ _ _ (by omega) (by omega) (by omega) (by omega) hT hfr pf0 qz64337 (lv_sub hl [1, 2, 3, 0] rfl)
      refine lv_iload_n hx hb dX13_worth_23 rfl (lv_at hl 3 rfl) ?_
      refine lv_aload_n hx hb dX13_worth_24 rfl (lv_at hl 0 rfl) ?_
      refine t_get (C := RX13) (T := TX13) (N := 37) X hT m0 g0 rfl rfl 16 (by decide) qw_112 inlX13 rfl dX13_worth_25 (fun v64339 hv64339 ov64339 => ?_)
      obtain ⟨b64340, rfl, mb64340, gb64340⟩ := okV_r ov64339
      have gb64340 : tag b64340 = 37 := tg_of gb64340
      refine lv_iconst (v := 0) hx hb dX13_worth_28 (by decide) ?_
      refine lv_iload_n hx hb dX13_worth_29 rfl (lv_at hl 1 rfl) ?_
      refine lv_iadd hx hb dX13_worth_30 ?_
      refine lv_topi (fun z64341 ez64341 => ?_)
      obtain rfl : p1 = z64341 := (ar_zadd ez64341).symm
      refine t_ild X hT mb64340 gb64340 rfl (by omega) dX13_worth_31 (fun z64342 vz64342 rz64342 => ?_)
      have rz64342 := row_ml (by omega) rz64342
      refine lv_icmp_ge (tgt := 83) hx hb dX13_worth_32 (by decide) (fun c64343 => ?_) (fun c64343 => ?_)
      · have w64344 := cv_le (rfl : z64342.toInt = z64342.toInt) (rfl : z64333.toInt = z64333.toInt) c64343
        refine lv_aload_n hx hb dX13_worth_83 rfl (lv_at hl 0 rfl) ?_
        refine lv_iload_n hx hb dX13_worth_84 rfl (lv_at hl 2 rfl) ?_
        refine t_cVi (n := 1) (C := RX13) (T := TX13) (N := 37) (As := [.int z64332]) (rest := []) X hT (km93_X13_good l G tag L F hT.2.2.2 p0 z64332 m0 g0) m0 g0 rfl rfl qw_687 qw_688 qw_689 qw_5 qw_690 ⟨rfl, by decide +kernel, by decide +kernel, by decide +kernel⟩ ⟨Nat.le_of_ble_eq_true rfl, Nat.le_of_ble_eq_true rfl⟩ hl rfl rfl (Nat.le_of_ble_eq_true rfl) dX13_worth_85 ⟨Nat.le_of_ble_eq_true rfl, Nat.le_of_ble_eq_true rfl⟩ (fun z64345 F H locs hT hz64345 => ?_)
        obtain ⟨hz64345, yz64345⟩ := hz64345
        have qz64334 := (yz64345.1 _ 0 (Or.inr (by decide)) (Or.inr (by decide))).trans qz64334
        have pf0 := (yz64345.1 _ 3 (Or.inr (by decide)) (Or.inr (by decide))).trans pf0
        have hv64339 := (yz64345.1 _ 16 (Or.inr (by decide)) (Or.inr (by decide))).trans hv64339
        have vz64342 := (yz64345.2 _ _ ).trans vz64342
        have hfr : (∀ b j : Nat, (tag b ≠ 46 ∨ j ≠ 0) → (tag b ≠ 46 ∨ j ≠ 1) → (tag b ≠ 46 ∨ j ≠ 2) → fld F b j = fld Fo b j) ∧ (∀ b j : Nat, elm F b j = elm Fo b j) := ⟨fun b j n46_0 n46_1 n46_2 => (yz64345.1 b j n46_1 n46_2).trans (hfr.1 b j n46_0 n46_1 n46_2), fun b j  => (yz64345.2 b j ).trans (hfr.2 b j )⟩
        exact t_iret hQ X hT (⟨rg_all _, hfr⟩) (Nat.le_of_ble_eq_true rfl) (Nat.le_of_ble_eq_true rfl) dX13_worth_88
      · have w64346 := cv_nle (rfl : z64342.toInt = z64342.toInt) (rfl : z64333.toInt = z64333.toInt) c64343
        refine lv_aload_n hx hb dX13_worth_35 rfl (lv_at hl 0 rfl) ?_
        refine t_get (C := RX13) (T := TX13) (N := 37) X hT m0 g0 rfl rfl 16 (by decide) qw_112 inlX13 rfl dX13_worth_36 (fun v64347 hv64347 ov64347 => ?_)
        obtain rfl : v64347 = .ref b64340 := hv64347.symm.trans hv64339
        refine lv_iload_n hx hb dX13_worth_39 rfl (lv_at hl 1 rfl) ?_
        refine lv_iload_n hx hb dX13_worth_40 rfl (lv_at hl 3 rfl) ?_
        refine lv_iconst (v := 5) hx hb dX13_worth_41 (by decide) ?_
        refine t_cSi (n := 3) (As := [.int p1, .int z64333, .int 5]) (rest := [.ref b64340]) X hT (km49_X13_part l G tag L F hT.2.2.2 p1 z64333 5 (by omega) (by omega) (by decide)) qw_661 qw_662 qw_5 qw_663 ⟨by decide +kernel, by decide +kernel, by decide +kernel⟩ ⟨Nat.le_of_ble_eq_true rfl, Nat.le_of_ble_eq_true rfl⟩ hl rfl rfl (Nat.le_of_ble_eq_true rfl) dX13_worth_42 ⟨Nat.le_of_ble_eq_true rfl, Nat.le_of_ble_eq_true rfl⟩ (fun z64348 F9 H locs hT hz64348 => ?_)
        obtain ⟨fz64348, hz64348, xz64348_0⟩ := hz64348
        rw [fz64348] at hT
        have k64349 : (5 : Int32).toInt = 5 := by decide
        refine t_ild X hT mb64340 gb64340 rfl (by omega) dX13_worth_45 (fun z64350 vz64350 rz64350 => ?_)
        have oz64350 := rz64350
        have rz64350 := rg_all z64350
        refine lv_iconst (v := 1) hx hb dX13_worth_46 (by decide) ?_
        refine lv_icmp_ne (tgt := 53) hx hb dX13_worth_47 (by decide) (fun c64351 => ?_) (fun c64351 => ?_)
        · have w64352 := cv_ne (rfl : z64350.toInt = z64350.toInt) (by decide : (1 : Int32).toInt = 1) c64351
          refine lv_aload_n hx hb dX13_worth_53 rfl (lv_at hl 0 rfl) ?_
          refine lv_iload_n hx hb dX13_worth_54 rfl (lv_at hl 1 rfl) ?_
          refine lv_iload_n hx hb dX13_worth_55 rfl (lv_at hl 3 rfl) ?_
          refine t_cVi (n := 2) (C := RX13) (T := TX13) (N := 37) (As := [.int p1, .int z64333]) (rest := []) X hT (km219_X13_isLivedIn l G tag L F hT.2.2.2 p0 p1 z64333 x0 m0 g0 mx0 gx0 pf0) m0 g0 rfl rfl qw_1324 qw_1325 qw_1326 qw_5 qw_1327 ⟨rfl, by decide +kernel, by decide +kernel, by decide +kernel⟩ ⟨Nat.le_of_ble_eq_true rfl, Nat.le_of_ble_eq_true rfl⟩ hl rfl rfl (Nat.le_of_ble_eq_true rfl) dX13_worth_56 ⟨Nat.le_of_ble_eq_true rfl, Nat.le_of_ble_eq_true rfl⟩ (fun z64353 F9 H locs hT hz64353 => ?_)
          obtain ⟨fz64353, hz64353⟩ := hz64353
          rw [fz64353] at hT
          refine lv_if_eq (tgt := 68) hx hb dX13_worth_59 (by decide) (fun c64354 => ?_) (fun c64354 => ?_)
          · have w64355 := cv_eq (rfl : z64353.toInt = z64353.toInt) (by decide : (0 : Int32).toInt = 0) c64354
            refine lv_iload_n hx hb dX13_worth_68 rfl (lv_at hl 2 rfl) ?_
            refine lv_aload_n hx hb dX13_worth_69 rfl (lv_at hl 0 rfl) ?_
            refine lv_iload_n hx hb dX13_worth_70 rfl (lv_at hl 1 rfl) ?_
            refine lv_iload_n hx hb dX13_worth_71 rfl (lv_at hl 3 rfl) ?_
            refine t_cVi (n := 2) (C := RX13) (T := TX13) (N := 37) (As := [.int p1, .int z64333]) (rest := [.int z64332]) X hT (km215_X13_goldOf l G tag L F hT.2.2.2 p0 p1 z64333 x0 m0 g0 (by omega) (by omega) mx0 gx0 pf0) m0 g0 rfl rfl qw_1308 qw_1309 qw_1310 qw_5 qw_1311 ⟨rfl, by decide +kernel, by decide +kernel, by decide +kernel⟩ ⟨Nat.le_of_ble_eq_true rfl, Nat.le_of_ble_eq_true rfl⟩ hl rfl rfl (Nat.le_of_ble_eq_true rfl) dX13_worth_72 ⟨Nat.le_of_ble_eq_true rfl, Nat.le_of_ble_eq_true rfl⟩ (fun z64356 F9 H locs hT hz64356 => ?_)
            obtain ⟨fz64356, hz64356⟩ := hz64356
            rw [fz64356] at hT
            refine lv_iadd hx hb dX13_worth_75 ?_
            refine lv_topi (fun z64357 ez64357 => ?_)
            have rz64357 := rg_all z64357
            refine lv_istore_n (lv' := [(2, .int z64357), (0, .ref p0), (1, .int p1), (3, .int z64333)]) hx hb dX13_worth_76 rfl hl (by decide) rfl (fun ls hl => ?_)
            exact K77 z64357 z64334 _ _ _ _ (by omega) (by omega) hT hfr pf0 qz64334 (lv_sub hl [1, 2, 0, 3] rfl)
          · have w64358 := cv_ne (rfl : z64353.toInt = z64353.toInt) (by decide : (0 : Int32).toInt = 0) c64354
            refine lv_aload_n hx hb dX13_worth_62 rfl (lv_at hl 0 rfl) ?_
            refine lv_iload_n hx hb dX13_worth_63 rfl (lv_at hl 2 rfl) ?_
            refine t_cVi (n := 1) (C := RX13) (T := TX13) (N := 37) (As := [.int z64332]) (rest := []) X hT (km93_X13_good l G tag L F hT.2.2.2 p0 z64332 m0 g0) m0 g0 rfl rfl qw_687 qw_688 qw_689 qw_5 qw_690 ⟨rfl, by decide +kernel, by decide +kernel, by decide +kernel⟩ ⟨Nat.le_of_ble_eq_true rfl, Nat.le_of_ble_eq_true rfl⟩ hl rfl rfl (Nat.le_of_ble_eq_true rfl) dX13_worth_64 ⟨Nat.le_of_ble_eq_true rfl, Nat.le_of_ble_eq_true rfl⟩ (fun z64359 F H locs hT hz64359 => ?_)
            obtain ⟨hz64359, yz64359⟩ := hz64359
            have qz64334 := (yz64359.1 _ 0 (Or.inr (by decide)) (Or.inr (by decide))).trans qz64334
            have pf0 := (yz64359.1 _ 3 (Or.inr (by decide)) (Or.inr (by decide))).trans pf0
            have hv64339 := (yz64359.1 _ 16 (Or.inr (by decide)) (Or.inr (by decide))).trans hv64339
            have vz64342 := (yz64359.2 _ _ ).trans vz64342
            have vz64350 := (yz64359.2 _ _ ).trans vz64350
            have hfr : (∀ b j : Nat, (tag b ≠ 46 ∨ j ≠ 0) → (tag b ≠ 46 ∨ j ≠ 1) → (tag b ≠ 46 ∨ j ≠ 2) → fld F b j = fld Fo b j) ∧ (∀ b j : Nat, elm F b j = elm Fo b j) := ⟨fun b j n46_0 n46_1 n46_2 => (yz64359.1 b j n46_1 n46_2).trans (hfr.1 b j n46_0 n46_1 n46_2), fun b j  => (yz64359.2 b j ).trans (hfr.2 b j )⟩
            exact t_iret hQ X hT (⟨rg_all _, hfr⟩) (Nat.le_of_ble_eq_true rfl) (Nat.le_of_ble_eq_true rfl) dX13_worth_67
        · have w64360 := cv_eq (rfl : z64350.toInt = z64350.toInt) (by decide : (1 : Int32).toInt = 1) c64351
          refine lv_goto (tgt := 77) hx hb dX13_worth_50 (by decide) ?_
          exact K77 z64332 z64334 _ _ _ _ (by omega) (by omega) hT hfr pf0 qz64334 (lv_sub hl [0, 1, 2, 3] rfl)
  refine lv_aload_n hx hb dX13_worth_0 rfl (lv_at hl 0 rfl) ?_
  refine lv_iconst (v := 0) hx hb dX13_worth_1 (by decide) ?_
  refine t_put (C := RX13) (T := TX13) (N := 37) (v := .int 0) X hT m0 g0 rfl tyX13 tyX13_ok nmX13 rfl 0 (by decide) qw_140 inlX13 rfl (by first | rfl | decide) (by first | rfl | decide) rfl (⟨_, rfl, (show (-2147483648) ≤ (0 : Int32).toInt from (by decide)), (show (0 : Int32).toInt ≤ 2147483647 from (by decide))⟩) dX13_worth_2 (fun F H locs hT v64361 h1v64361 h2v64361 => ?_)
  have pf0 := (h1v64361 _ _ (Or.inr (by decide))).trans pf0
  have hfr : (∀ b j : Nat, (tag b ≠ 46 ∨ j ≠ 0) → (tag b ≠ 46 ∨ j ≠ 1) → (tag b ≠ 46 ∨ j ≠ 2) → fld F b j = fld Fo b j) ∧ (∀ b j : Nat, elm F b j = elm Fo b j) := ⟨fun b j n46_0 n46_1 n46_2 => (h1v64361 b j (fr_ne g0 n46_0)).trans (hfr.1 b j n46_0 n46_1 n46_2), fun b j  => (h2v64361 b j).trans (hfr.2 b j )⟩
  refine lv_aload_n hx hb dX13_worth_5 rfl (lv_at hl 0 rfl) ?_
  refine lv_iload_n hx hb dX13_worth_6 rfl (lv_at hl 1 rfl) ?_
  refine t_cVi (n := 1) (C := RX13) (T := TX13) (N := 37) (As := [.int p1]) (rest := []) X hT (km107_X13_isHouse l G tag L F hT.2.2.2 p0 p1 x0 m0 g0 mx0 gx0 pf0) m0 g0 rfl rfl qw_796 qw_797 qw_798 qw_5 qw_799 ⟨rfl, by decide +kernel, by decide +kernel, by decide +kernel⟩ ⟨Nat.le_of_ble_eq_true rfl, Nat.le_of_ble_eq_true rfl⟩ hl rfl rfl (Nat.le_of_ble_eq_true rfl) dX13_worth_7 ⟨Nat.le_of_ble_eq_true rfl, Nat.le_of_ble_eq_true rfl⟩ (fun z64362 F9 H locs hT hz64362 => ?_)
  obtain ⟨fz64362, hz64362⟩ := hz64362
  rw [fz64362] at hT
  obtain ⟨hz64362, iz64362⟩ := hz64362
  refine lv_if_ne (tgt := 19) hx hb dX13_worth_10 (by decide) (fun c64363 => ?_) (fun c64363 => ?_)
  · have w64364 := cv_ne (rfl : z64362.toInt = z64362.toInt) (by decide : (0 : Int32).toInt = 0) c64363
    have w64365 := (fun h => (iz64362 h)) (by omega)
    refine lv_iconst (v := 0) hx hb dX13_worth_19 (by decide) ?_
    refine lv_istore_n (lv' := [(2, .int 0), (0, .ref p0), (1, .int p1)]) hx hb dX13_worth_20 rfl hl (by decide) rfl (fun ls hl => ?_)
    refine lv_iconst (v := 1) hx hb dX13_worth_21 (by decide) ?_
    refine lv_istore_n (lv' := [(3, .int 1), (2, .int 0), (0, .ref p0), (1, .int p1)]) hx hb dX13_worth_22 rfl hl (by decide) rfl (fun ls hl => ?_)
    have k64366 : (0 : Int32).toInt = 0 := by decide
    have k64367 : (1 : Int32).toInt = 1 := by decide
    have k64368 : (0 : Int32).toInt = 0 := by decide
    exact K23 6 0 1 0 _ _ _ _ (by omega) (by decide) (by decide) (by omega) hT hfr pf0 v64361 (lv_sub hl [2, 3, 1, 0] rfl)
  · have w64369 := cv_eq (rfl : z64362.toInt = z64362.toInt) (by decide : (0 : Int32).toInt = 0) c64363
    refine lv_aload_n hx hb dX13_worth_13 rfl (lv_at hl 0 rfl) ?_
    refine lv_iconst (v := 1) hx hb dX13_worth_14 (by decide) ?_
    refine t_cVi (n := 1) (C := RX13) (T := TX13) (N := 37) (As := [.int 1]) (rest := []) X hT (km88_X13_refused l G tag L F hT.2.2.2 p0 1 m0 g0) m0 g0 rfl rfl qw_484 qw_485 qw_486 qw_5 qw_487 ⟨rfl, by decide +kernel, by decide +kernel, by decide +kernel⟩ ⟨Nat.le_of_ble_eq_true rfl, Nat.le_of_ble_eq_true rfl⟩ hl rfl rfl (Nat.le_of_ble_eq_true rfl) dX13_worth_15 ⟨Nat.le_of_ble_eq_true rfl, Nat.le_of_ble_eq_true rfl⟩ (fun z64370 F H locs hT hz64370 => ?_)
    obtain ⟨hz64370, yz64370⟩ := hz64370
    have pf0 := (yz64370.1 _ 3 (Or.inr (by decide)) (Or.inr (by decide))).trans pf0
    have v64361 := (yz64370.1 _ 0 (Or.inr (by decide)) (Or.inr (by decide))).trans v64361
    have hfr : (∀ b j : Nat, (tag b ≠ 46 ∨ j ≠ 0) → (tag b ≠ 46 ∨ j ≠ 1) → (tag b ≠ 46 ∨ j ≠ 2) → fld F b j = fld Fo b j) ∧ (∀ b j : Nat, elm F b j = elm Fo b j) := ⟨fun b j n46_0 n46_1 n46_2 => (yz64370.1 b j n46_1 n46_2).trans (hfr.1 b j n46_0 n46_1 n46_2), fun b j  => (yz64370.2 b j ).trans (hfr.2 b j )⟩
    exact t_iret hQ X hT (⟨rg_all _, hfr⟩) (Nat.le_of_ble_eq_true rfl) (Nat.le_of_ble_eq_true rfl) dX13_worth_18
set_option maxHeartbeats 4000000 in
set_option maxRecDepth 100000 in
theorem km221_X13_worth (l : Launch) (G : KG) (tag : Nat → Nat) (L : List Nat) (Fo : Nat → va_E) (ho : okT G ttC tag L Fo) (p0 : Nat) (p1 : Int32) (m0 : p0 ∈ L) (g0 : tag p0 = 46) (pf0 : fld Fo p0 3 = .null) : TMi l yX13_worth cX13_worth 4 (some .int) { frames := 2, cells := 0, slots := 0, locals := 44 } G ttC tag L Fo [.ref p0, .int p1] (fun r F1 => ((-2147483648) ≤ r.toInt ∧ r.toInt ≤ 2147483647) ∧ ((∀ b j : Nat, (tag b ≠ 46 ∨ j ≠ 0) → (tag b ≠ 46 ∨ j ≠ 1) → (tag b ≠ 46 ∨ j ≠ 2) → fld F1 b j = fld Fo b j) ∧ (∀ b j : Nat, elm F1 b j = elm Fo b j))) := by
  refine t_bodyi (y := yX13_worth) (cd := cX13_worth) (mL := 4) (rt := (some .int)) (rm := { frames := 2, cells := 0, slots := 0, locals := 44 }) (av := [.ref p0, .int p1]) (by decide) (Nat.le_of_ble_eq_true rfl) ho ?_
  intro p e s m args below meth c ls A Q hQ X hT hl
  have hx := X.1.1
  have hb := X.1.2.1
  have hl : lv_has ls 4 [(0, .ref p0), (1, .int p1)] := hl
  have rp1 := rg_all p1
  obtain ⟨F, hFo⟩ : ∃ F : Nat → va_E, F = Fo := ⟨_, rfl⟩
  rw [← hFo] at hT pf0
  have hfr : (∀ b j : Nat, (tag b ≠ 46 ∨ j ≠ 0) → (tag b ≠ 46 ∨ j ≠ 1) → (tag b ≠ 46 ∨ j ≠ 2) → fld F b j = fld Fo b j) ∧ (∀ b j : Nat, elm F b j = elm Fo b j) := by
    rw [hFo]
    exact ⟨by intros; rfl, by intros; rfl⟩
  refine lv_aload_n hx hb dX13_worth_0 rfl (lv_at hl 0 rfl) ?_
  refine lv_iconst (v := 0) hx hb dX13_worth_1 (by decide) ?_
  refine t_put (C := RX13) (T := TX13) (N := 37) (v := .int 0) X hT m0 g0 rfl tyX13 tyX13_ok nmX13 rfl 0 (by decide) qw_140 inlX13 rfl (by first | rfl | decide) (by first | rfl | decide) rfl (⟨_, rfl, (show (-2147483648) ≤ (0 : Int32).toInt from (by decide)), (show (0 : Int32).toInt ≤ 2147483647 from (by decide))⟩) dX13_worth_2 (fun F H locs hT v64437 h1v64437 h2v64437 => ?_)
  have pf0 := (h1v64437 _ _ (Or.inr (by decide))).trans pf0
  have hfr : (∀ b j : Nat, (tag b ≠ 46 ∨ j ≠ 0) → (tag b ≠ 46 ∨ j ≠ 1) → (tag b ≠ 46 ∨ j ≠ 2) → fld F b j = fld Fo b j) ∧ (∀ b j : Nat, elm F b j = elm Fo b j) := ⟨fun b j n46_0 n46_1 n46_2 => (h1v64437 b j (fr_ne g0 n46_0)).trans (hfr.1 b j n46_0 n46_1 n46_2), fun b j  => (h2v64437 b j).trans (hfr.2 b j )⟩
  refine lv_aload_n hx hb dX13_worth_5 rfl (lv_at hl 0 rfl) ?_
  refine lv_iload_n hx hb dX13_worth_6 rfl (lv_at hl 1 rfl) ?_
  refine t_cVi (n := 1) (C := RX13) (T := TX13) (N := 37) (As := [.int p1]) (rest := []) X hT (km116_X13_isHouse l G tag L F hT.2.2.2 p0 p1 m0 g0 pf0) m0 g0 rfl rfl qw_796 qw_797 qw_798 qw_5 qw_799 ⟨rfl, by decide +kernel, by decide +kernel, by decide +kernel⟩ ⟨Nat.le_of_ble_eq_true rfl, Nat.le_of_ble_eq_true rfl⟩ hl rfl rfl (Nat.le_of_ble_eq_true rfl) dX13_worth_7 ⟨Nat.le_of_ble_eq_true rfl, Nat.le_of_ble_eq_true rfl⟩ (fun z64438 F9 H locs hT hz64438 => ?_)
  obtain ⟨fz64438, hz64438⟩ := hz64438
  rw [fz64438] at hT
  refine lv_if_ne (tgt := 19) hx hb dX13_worth_10 (by decide) (fun c64439 => ?_) (fun c64439 => ?_)
  · have w64440 := cv_ne (rfl : z64438.toInt = z64438.toInt) (by decide : (0 : Int32).toInt = 0) c64439
    exfalso
    omega
  · have w64441 := cv_eq (rfl : z64438.toInt = z64438.toInt) (by decide : (0 : Int32).toInt = 0) c64439
    refine lv_aload_n hx hb dX13_worth_13 rfl (lv_at hl 0 rfl) ?_
    refine lv_iconst (v := 1) hx hb dX13_worth_14 (by decide) ?_
    refine t_cVi (n := 1) (C := RX13) (T := TX13) (N := 37) (As := [.int 1]) (rest := []) X hT (km88_X13_refused l G tag L F hT.2.2.2 p0 1 m0 g0) m0 g0 rfl rfl qw_484 qw_485 qw_486 qw_5 qw_487 ⟨rfl, by decide +kernel, by decide +kernel, by decide +kernel⟩ ⟨Nat.le_of_ble_eq_true rfl, Nat.le_of_ble_eq_true rfl⟩ hl rfl rfl (Nat.le_of_ble_eq_true rfl) dX13_worth_15 ⟨Nat.le_of_ble_eq_true rfl, Nat.le_of_ble_eq_true rfl⟩ (fun z64442 F H locs hT hz64442 => ?_)
    obtain ⟨hz64442, yz64442⟩ := hz64442
    have pf0 := (yz64442.1 _ 3 (Or.inr (by decide)) (Or.inr (by decide))).trans pf0
    have v64437 := (yz64442.1 _ 0 (Or.inr (by decide)) (Or.inr (by decide))).trans v64437
    have hfr : (∀ b j : Nat, (tag b ≠ 46 ∨ j ≠ 0) → (tag b ≠ 46 ∨ j ≠ 1) → (tag b ≠ 46 ∨ j ≠ 2) → fld F b j = fld Fo b j) ∧ (∀ b j : Nat, elm F b j = elm Fo b j) := ⟨fun b j n46_0 n46_1 n46_2 => (yz64442.1 b j n46_1 n46_2).trans (hfr.1 b j n46_0 n46_1 n46_2), fun b j  => (yz64442.2 b j ).trans (hfr.2 b j )⟩
    exact t_iret hQ X hT (⟨rg_all _, hfr⟩) (Nat.le_of_ble_eq_true rfl) (Nat.le_of_ble_eq_true rfl) dX13_worth_18
theorem kp_X13_worth (l : Launch) (G : KG) (tag : Nat → Nat) (L : List Nat) (Fo : Nat → va_E) (ho : okT G ttC tag L Fo) (p0 : Nat) (p1 : Int32) (m0 : p0 ∈ L) (g0 : tag p0 = 46) : TMi l yX13_worth cX13_worth 4 (some .int) { frames := 2, cells := 0, slots := 0, locals := 44 } G ttC tag L Fo [.ref p0, .int p1] (fun r F1 => ((-2147483648) ≤ r.toInt ∧ r.toInt ≤ 2147483647) ∧ ((∀ b j : Nat, (tag b ≠ 46 ∨ j ≠ 0) → (tag b ≠ 46 ∨ j ≠ 1) → (tag b ≠ 46 ∨ j ≠ 2) → fld F1 b j = fld Fo b j) ∧ (∀ b j : Nat, elm F1 b j = elm Fo b j))) := by
  rcases t_fldn ho m0 g0 rfl 3 rfl with h9 | ⟨b9, h9, m9, t9⟩
  · exact km221_X13_worth l G tag L Fo ho p0 p1  m0 g0 h9 
  · exact km220_X13_worth l G tag L Fo ho p0 p1 b9  m0 g0 m9 (tg_of t9) h9 
set_option maxHeartbeats 4000000 in
set_option maxRecDepth 100000 in
theorem km223_X13_before (l : Launch) (G : KG) (tag : Nat → Nat) (L : List Nat) (F : Nat → va_E) (ho : okT G ttC tag L F) (p0 : Nat) (p1 : Int32) (x0 : Nat) (m0 : p0 ∈ L) (g0 : tag p0 = 46) (h1 : 0 ≤ p1.toInt ∧ p1.toInt ≤ 5) (mx0 : x0 ∈ L) (gx0 : tag x0 = 45) (pf0 : fld F p0 3 = .ref x0) : TMi l yX13_before cX13_before 2 (some .int) { frames := 1, cells := 0, slots := 0, locals := 21 } G ttC tag L F [.ref p0, .int p1] (fun r F1 => F1 = F ∧ ((-2147483648) ≤ r.toInt ∧ r.toInt ≤ 2147483647)) := by
  refine t_bodyi (y := yX13_before) (cd := cX13_before) (mL := 2) (rt := (some .int)) (rm := { frames := 1, cells := 0, slots := 0, locals := 21 }) (av := [.ref p0, .int p1]) (by decide) (Nat.le_of_ble_eq_true rfl) ho ?_
  intro p e s m args below meth c ls A Q hQ X hT hl
  have hx := X.1.1
  have hb := X.1.2.1
  have hl : lv_has ls 2 [(0, .ref p0), (1, .int p1)] := hl
  refine lv_aload_n hx hb dX13_before_0 rfl (lv_at hl 0 rfl) ?_
  refine t_get (C := RX13) (T := TX13) (N := 37) X hT m0 g0 rfl rfl 3 (by decide) qw_481 inlX13 rfl dX13_before_1 (fun v64893 hv64893 ov64893 => ?_)
  obtain rfl : v64893 = .ref x0 := hv64893.symm.trans pf0
  refine t_getN (C := RX12) (T := TX12) (N := 31) X hT mx0 gx0 rfl rfl 26 (by decide) (List.mem_of_getElem? (i := 30) rfl) inlX12 rfl dX13_before_4 (fun v64894 hv64894 ov64894 => ?_)
  obtain ⟨b64895, rfl, mb64895, gb64895⟩ := okV_r ov64894
  have gb64895 : tag b64895 = 33 := tg_of gb64895
  refine lv_iload_n hx hb dX13_before_7 rfl (lv_at hl 1 rfl) ?_
  refine t_ild X hT mb64895 gb64895 rfl (by omega) dX13_before_8 (fun z64896 vz64896 rz64896 => ?_)
  have rz64896 : (-2147483648) ≤ z64896.toInt ∧ z64896.toInt ≤ 2147483647 := rz64896
  refine lv_iconst (v := (-1)) hx hb dX13_before_9 (by decide) ?_
  refine lv_icmp_ne (tgt := 24) hx hb dX13_before_10 (by decide) (fun c64897 => ?_) (fun c64897 => ?_)
  · have w64898 := cv_ne (rfl : z64896.toInt = z64896.toInt) (by decide : ((-1) : Int32).toInt = (-1)) c64897
    refine lv_aload_n hx hb dX13_before_24 rfl (lv_at hl 0 rfl) ?_
    refine t_get (C := RX13) (T := TX13) (N := 37) X hT m0 g0 rfl rfl 16 (by decide) qw_112 inlX13 rfl dX13_before_25 (fun v64899 hv64899 ov64899 => ?_)
    obtain ⟨b64900, rfl, mb64900, gb64900⟩ := okV_r ov64899
    have gb64900 : tag b64900 = 37 := tg_of gb64900
    refine lv_sipush (v := 210) hx hb dX13_before_28 (by decide) ?_
    refine t_ild X hT mb64900 gb64900 rfl (by decide) dX13_before_31 (fun z64901 vz64901 rz64901 => ?_)
    have oz64901 := rz64901
    have rz64901 := rg_all z64901
    refine lv_aload_n hx hb dX13_before_32 rfl (lv_at hl 0 rfl) ?_
    refine t_get (C := RX13) (T := TX13) (N := 37) X hT m0 g0 rfl rfl 3 (by decide) qw_481 inlX13 rfl dX13_before_33 (fun v64902 hv64902 ov64902 => ?_)
    obtain rfl : v64902 = .ref x0 := hv64902.symm.trans pf0
    refine t_getN (C := RX12) (T := TX12) (N := 31) X hT mx0 gx0 rfl rfl 26 (by decide) (List.mem_of_getElem? (i := 30) rfl) inlX12 rfl dX13_before_36 (fun v64903 hv64903 ov64903 => ?_)
    obtain rfl : v64903 = .ref b64895 := hv64903.symm.trans hv64894
    refine lv_iload_n hx hb dX13_before_39 rfl (lv_at hl 1 rfl) ?_
    refine t_ild X hT mb64895 gb64895 rfl (by omega) dX13_before_40 (fun z64904 vz64904 rz64904 => ?_)
    obtain rfl : z64896 = z64904 := vz64896.symm.trans vz64904
    refine t_cSi (n := 2) (As := [.int z64901, .int z64896]) (rest := []) X hT (km161_X13_least l G tag L F hT.2.2.2 z64901 z64896 ) qw_1065 qw_1066 qw_5 qw_1067 ⟨by decide +kernel, by decide +kernel, by decide +kernel⟩ ⟨Nat.le_of_ble_eq_true rfl, Nat.le_of_ble_eq_true rfl⟩ hl rfl rfl (Nat.le_of_ble_eq_true rfl) dX13_before_41 ⟨Nat.le_of_ble_eq_true rfl, Nat.le_of_ble_eq_true rfl⟩ (fun z64905 F9 H locs hT hz64905 => ?_)
    obtain ⟨fz64905, hz64905⟩ := hz64905
    rw [fz64905] at hT
    exact t_iret hQ X hT (⟨rfl, rg_all _⟩) (Nat.le_of_ble_eq_true rfl) (Nat.le_of_ble_eq_true rfl) dX13_before_44
  · have w64906 := cv_eq (rfl : z64896.toInt = z64896.toInt) (by decide : ((-1) : Int32).toInt = (-1)) c64897
    refine lv_aload_n hx hb dX13_before_13 rfl (lv_at hl 0 rfl) ?_
    refine t_get (C := RX13) (T := TX13) (N := 37) X hT m0 g0 rfl rfl 16 (by decide) qw_112 inlX13 rfl dX13_before_14 (fun v64907 hv64907 ov64907 => ?_)
    obtain ⟨b64908, rfl, mb64908, gb64908⟩ := okV_r ov64907
    have gb64908 : tag b64908 = 37 := tg_of gb64908
    refine lv_sipush (v := 210) hx hb dX13_before_17 (by decide) ?_
    refine t_ild X hT mb64908 gb64908 rfl (by decide) dX13_before_20 (fun z64909 vz64909 rz64909 => ?_)
    have oz64909 := rz64909
    have rz64909 := rg_all z64909
    refine lv_goto (tgt := 44) hx hb dX13_before_21 (by decide) ?_
    exact t_iret hQ X hT (⟨rfl, rg_all _⟩) (Nat.le_of_ble_eq_true rfl) (Nat.le_of_ble_eq_true rfl) dX13_before_44
