set_option maxHeartbeats 4000000 in
set_option maxRecDepth 100000 in
theorem km194_X13_meet (l : Launch) (G : KG) (tag : Nat → Nat) (L : List Nat) (Fo : Nat → va_E) (ho : okT G ttC tag L Fo) (p0 : Nat) (p1 : Int32) (p2 : Int32) (p3 : Int32) (m0 : p0 ∈ L) (g0 : tag p0 = 46) (pf0 : fld Fo p0 3 = .null) : TMi l yX13_meet cX13_meet 6 (some .int) { frames := 8, cells := 0, slots := 0, locals := 192 } G ttC tag L Fo [.ref p0, .int p1, .int p2, .int p3] (fun r F1 => ((-2147483648) ≤ r.toInt ∧ r.toInt ≤ 2147483647) ∧ ((∀ b j : Nat, (tag b ≠ 46 ∨ j ≠ 0) → (tag b ≠ 46 ∨ j ≠ 1) → (tag b ≠ 46 ∨ j ≠ 2) → (tag b ≠ 46 ∨ j ≠ 22) → (tag b ≠ 46 ∨ j ≠ 23) → fld F1 b j = fld Fo b j) ∧ (∀ b j : Nat, tag b ≠ 37 → tag b ≠ 40 → elm F1 b j = elm Fo b j))) := by
  refine t_bodyi (y := yX13_meet) (cd := cX13_meet) (mL := 6) (rt := (some .int)) (rm := { frames := 8, cells := 0, slots := 0, locals := 192 }) (av := [.ref p0, .int p1, .int p2, .int p3]) (by decide) (Nat.le_of_ble_eq_true rfl) ho ?_
  intro p e s m args below meth c ls A Q hQ X hT hl
  have hx := X.1.1
  have hb := X.1.2.1
  have hl : lv_has ls 6 [(0, .ref p0), (1, .int p1), (2, .int p2), (3, .int p3)] := hl
  have rp1 := rg_all p1
  have rp2 := rg_all p2
  have rp3 := rg_all p3
  obtain ⟨F, hFo⟩ : ∃ F : Nat → va_E, F = Fo := ⟨_, rfl⟩
  rw [← hFo] at hT pf0
  have hfr : (∀ b j : Nat, (tag b ≠ 46 ∨ j ≠ 0) → (tag b ≠ 46 ∨ j ≠ 1) → (tag b ≠ 46 ∨ j ≠ 2) → (tag b ≠ 46 ∨ j ≠ 22) → (tag b ≠ 46 ∨ j ≠ 23) → fld F b j = fld Fo b j) ∧ (∀ b j : Nat, tag b ≠ 37 → tag b ≠ 40 → elm F b j = elm Fo b j) := by
    rw [hFo]
    exact ⟨by intros; rfl, by intros; rfl⟩
  refine lv_aload_n hx hb dX13_meet_0 rfl (lv_at hl 0 rfl) ?_
  refine lv_iconst (v := 0) hx hb dX13_meet_1 (by decide) ?_
  refine t_put (C := RX13) (T := TX13) (N := 37) (v := .int 0) X hT m0 g0 rfl tyX13 tyX13_ok nmX13 rfl 0 (by decide) qw_140 inlX13 rfl (by first | rfl | decide) (by first | rfl | decide) rfl (⟨_, rfl, (show (-2147483648) ≤ (0 : Int32).toInt from (by decide)), (show (0 : Int32).toInt ≤ 2147483647 from (by decide))⟩) dX13_meet_2 (fun F H locs hT v56993 h1v56993 h2v56993 => ?_)
  have pf0 := (h1v56993 _ _ (Or.inr (by decide))).trans pf0
  have hfr : (∀ b j : Nat, (tag b ≠ 46 ∨ j ≠ 0) → (tag b ≠ 46 ∨ j ≠ 1) → (tag b ≠ 46 ∨ j ≠ 2) → (tag b ≠ 46 ∨ j ≠ 22) → (tag b ≠ 46 ∨ j ≠ 23) → fld F b j = fld Fo b j) ∧ (∀ b j : Nat, tag b ≠ 37 → tag b ≠ 40 → elm F b j = elm Fo b j) := ⟨fun b j n46_0 n46_1 n46_2 n46_22 n46_23 => (h1v56993 b j (fr_ne g0 n46_0)).trans (hfr.1 b j n46_0 n46_1 n46_2 n46_22 n46_23), fun b j a37 a40 => (h2v56993 b j).trans (hfr.2 b j a37 a40)⟩
  refine lv_aload_n hx hb dX13_meet_5 rfl (lv_at hl 0 rfl) ?_
  refine lv_aload_n hx hb dX13_meet_6 rfl (lv_at hl 0 rfl) ?_
  refine lv_iload_n hx hb dX13_meet_7 rfl (lv_at hl 1 rfl) ?_
  refine t_cVi (n := 1) (C := RX13) (T := TX13) (N := 37) (As := [.int p1]) (rest := [.ref p0]) X hT (km116_X13_isHouse l G tag L F hT.2.2.2 p0 p1 m0 g0 pf0) m0 g0 rfl rfl qw_796 qw_797 qw_798 qw_5 qw_799 ⟨rfl, by decide +kernel, by decide +kernel, by decide +kernel⟩ ⟨Nat.le_of_ble_eq_true rfl, Nat.le_of_ble_eq_true rfl⟩ hl rfl rfl (Nat.le_of_ble_eq_true rfl) dX13_meet_8 ⟨Nat.le_of_ble_eq_true rfl, Nat.le_of_ble_eq_true rfl⟩ (fun z56994 F9 H locs hT hz56994 => ?_)
  obtain ⟨fz56994, hz56994⟩ := hz56994
  rw [fz56994] at hT
  refine lv_if_eq (tgt := 31) hx hb dX13_meet_11 (by decide) (fun c56995 => ?_) (fun c56995 => ?_)
  · have w56996 := cv_eq (rfl : z56994.toInt = z56994.toInt) (by decide : (0 : Int32).toInt = 0) c56995
    refine lv_iconst (v := 0) hx hb dX13_meet_31 (by decide) ?_
    refine lv_iload_n hx hb dX13_meet_32 rfl (lv_at hl 3 rfl) ?_
    refine lv_bipush (v := 60) hx hb dX13_meet_33 (by decide) ?_
    refine t_cVi (n := 3) (C := RX13) (T := TX13) (N := 37) (As := [.int 0, .int p3, .int 60]) (rest := []) X hT (km184_X13_refusesIn l G tag L F hT.2.2.2 p0 0 p3 60 m0 g0 (by decide) pf0) m0 g0 rfl rfl qw_1144 qw_1145 qw_1146 qw_5 qw_1147 ⟨rfl, by decide +kernel, by decide +kernel, by decide +kernel⟩ ⟨Nat.le_of_ble_eq_true rfl, Nat.le_of_ble_eq_true rfl⟩ hl rfl rfl (Nat.le_of_ble_eq_true rfl) dX13_meet_35 ⟨Nat.le_of_ble_eq_true rfl, Nat.le_of_ble_eq_true rfl⟩ (fun z56997 F9 H locs hT hz56997 => ?_)
    obtain ⟨fz56997, hz56997⟩ := hz56997
    rw [fz56997] at hT
    refine lv_istore (lv' := [(4, .int z56997), (0, .ref p0), (1, .int p1), (2, .int p2), (3, .int p3)]) hx hb dX13_meet_38 hl (by decide) rfl (fun ls hl => ?_)
    refine lv_iload hx hb dX13_meet_40 (lv_at hl 0 rfl) ?_
    refine lv_if_le (tgt := 52) hx hb dX13_meet_42 (by decide) (fun c56998 => ?_) (fun c56998 => ?_)
    · have w56999 := cv_le (rfl : z56997.toInt = z56997.toInt) (by decide : (0 : Int32).toInt = 0) c56998
      exfalso
      omega
    · have w57000 := cv_nle (rfl : z56997.toInt = z56997.toInt) (by decide : (0 : Int32).toInt = 0) c56998
      refine lv_aload_n hx hb dX13_meet_45 rfl (lv_at hl 1 rfl) ?_
      refine lv_iload hx hb dX13_meet_46 (lv_at hl 0 rfl) ?_
      refine t_cVi (n := 1) (C := RX13) (T := TX13) (N := 37) (As := [.int z56997]) (rest := []) X hT (km88_X13_refused l G tag L F hT.2.2.2 p0 z56997 m0 g0) m0 g0 rfl rfl qw_484 qw_485 qw_486 qw_5 qw_487 ⟨rfl, by decide +kernel, by decide +kernel, by decide +kernel⟩ ⟨Nat.le_of_ble_eq_true rfl, Nat.le_of_ble_eq_true rfl⟩ hl rfl rfl (Nat.le_of_ble_eq_true rfl) dX13_meet_48 ⟨Nat.le_of_ble_eq_true rfl, Nat.le_of_ble_eq_true rfl⟩ (fun z57001 F H locs hT hz57001 => ?_)
      obtain ⟨hz57001, yz57001⟩ := hz57001
      have pf0 := (yz57001.1 _ 3 (Or.inr (by decide)) (Or.inr (by decide))).trans pf0
      have v56993 := (yz57001.1 _ 0 (Or.inr (by decide)) (Or.inr (by decide))).trans v56993
      have hfr : (∀ b j : Nat, (tag b ≠ 46 ∨ j ≠ 0) → (tag b ≠ 46 ∨ j ≠ 1) → (tag b ≠ 46 ∨ j ≠ 2) → (tag b ≠ 46 ∨ j ≠ 22) → (tag b ≠ 46 ∨ j ≠ 23) → fld F b j = fld Fo b j) ∧ (∀ b j : Nat, tag b ≠ 37 → tag b ≠ 40 → elm F b j = elm Fo b j) := ⟨fun b j n46_0 n46_1 n46_2 n46_22 n46_23 => (yz57001.1 b j n46_1 n46_2).trans (hfr.1 b j n46_0 n46_1 n46_2 n46_22 n46_23), fun b j a37 a40 => (yz57001.2 b j ).trans (hfr.2 b j a37 a40)⟩
      exact t_iret hQ X hT (⟨rg_all _, hfr⟩) (Nat.le_of_ble_eq_true rfl) (Nat.le_of_ble_eq_true rfl) dX13_meet_51
  · have w57002 := cv_ne (rfl : z56994.toInt = z56994.toInt) (by decide : (0 : Int32).toInt = 0) c56995
    exfalso
    omega
theorem kp_X13_meet (l : Launch) (G : KG) (tag : Nat → Nat) (L : List Nat) (Fo : Nat → va_E) (ho : okT G ttC tag L Fo) (p0 : Nat) (p1 : Int32) (p2 : Int32) (p3 : Int32) (m0 : p0 ∈ L) (g0 : tag p0 = 46) : TMi l yX13_meet cX13_meet 6 (some .int) { frames := 8, cells := 0, slots := 0, locals := 192 } G ttC tag L Fo [.ref p0, .int p1, .int p2, .int p3] (fun r F1 => ((-2147483648) ≤ r.toInt ∧ r.toInt ≤ 2147483647) ∧ ((∀ b j : Nat, (tag b ≠ 46 ∨ j ≠ 0) → (tag b ≠ 46 ∨ j ≠ 1) → (tag b ≠ 46 ∨ j ≠ 2) → (tag b ≠ 46 ∨ j ≠ 22) → (tag b ≠ 46 ∨ j ≠ 23) → fld F1 b j = fld Fo b j) ∧ (∀ b j : Nat, tag b ≠ 37 → tag b ≠ 40 → elm F1 b j = elm Fo b j))) := by
  rcases t_fldn ho m0 g0 rfl 3 rfl with h9 | ⟨b9, h9, m9, t9⟩
  · exact km194_X13_meet l G tag L Fo ho p0 p1 p2 p3  m0 g0 h9 
  · exact km193_X13_meet l G tag L Fo ho p0 p1 p2 p3 b9  m0 g0 m9 (tg_of t9) h9 
set_option maxHeartbeats 4000000 in
set_option maxRecDepth 100000 in
theorem km196_X13_falls (l : Launch) (G : KG) (tag : Nat → Nat) (L : List Nat) (Fo : Nat → va_E) (ho : okT G ttC tag L Fo) (p0 : Nat) (p1 : Int32) (p2 : Int32) (p3 : Int32) (x0 : Nat) (m0 : p0 ∈ L) (g0 : tag p0 = 46) (mx0 : x0 ∈ L) (gx0 : tag x0 = 45) (pf0 : fld Fo p0 3 = .ref x0) : TMi l yX13_falls cX13_falls 6 (some .int) { frames := 8, cells := 0, slots := 0, locals := 192 } G ttC tag L Fo [.ref p0, .int p1, .int p2, .int p3] (fun r F1 => ((-2147483648) ≤ r.toInt ∧ r.toInt ≤ 2147483647) ∧ ((∀ b j : Nat, (tag b ≠ 46 ∨ j ≠ 0) → (tag b ≠ 46 ∨ j ≠ 1) → (tag b ≠ 46 ∨ j ≠ 2) → (tag b ≠ 46 ∨ j ≠ 22) → (tag b ≠ 46 ∨ j ≠ 23) → fld F1 b j = fld Fo b j) ∧ (∀ b j : Nat, tag b ≠ 37 → tag b ≠ 40 → elm F1 b j = elm Fo b j))) := by
  refine t_bodyi (y := yX13_falls) (cd := cX13_falls) (mL := 6) (rt := (some .int)) (rm := { frames := 8, cells := 0, slots := 0, locals := 192 }) (av := [.ref p0, .int p1, .int p2, .int p3]) (by decide) (Nat.le_of_ble_eq_true rfl) ho ?_
  intro p e s m args below meth c ls A Q hQ X hT hl
  have hx := X.1.1
  have hb := X.1.2.1
  have hl : lv_has ls 6 [(0, .ref p0), (1, .int p1), (2, .int p2), (3, .int p3)] := hl
  have rp1 := rg_all p1
  have rp2 := rg_all p2
  have rp3 := rg_all p3
  obtain ⟨F, hFo⟩ : ∃ F : Nat → va_E, F = Fo := ⟨_, rfl⟩
  rw [← hFo] at hT pf0
  have hfr : (∀ b j : Nat, (tag b ≠ 46 ∨ j ≠ 0) → (tag b ≠ 46 ∨ j ≠ 1) → (tag b ≠ 46 ∨ j ≠ 2) → (tag b ≠ 46 ∨ j ≠ 22) → (tag b ≠ 46 ∨ j ≠ 23) → fld F b j = fld Fo b j) ∧ (∀ b j : Nat, tag b ≠ 37 → tag b ≠ 40 → elm F b j = elm Fo b j) := by
    rw [hFo]
    exact ⟨by intros; rfl, by intros; rfl⟩
  have K40 : ∀ (n : Nat) (z57786 : Int32) (z57787 : Int32) (z57788 : Int32) (F : Nat → va_E) (H : Heap) (locs : List Loc) (ls : Array Slot), (61 - z57787.toInt < (n : Int)) → (0 ≤ z57786.toInt ∧ z57786.toInt ≤ 0) → (0 ≤ z57787.toInt ∧ z57787.toInt ≤ 61) → (0 ≤ z57788.toInt ∧ z57788.toInt ≤ 0) → (0 ≤ p1.toInt ∧ p1.toInt ≤ 3) → (1 ≤ p2.toInt ∧ p2.toInt ≤ 6) → (0 ≤ p3.toInt ∧ p3.toInt ≤ 60) → TH G ttC A s tag L F H locs → ((∀ b j : Nat, (tag b ≠ 46 ∨ j ≠ 0) → (tag b ≠ 46 ∨ j ≠ 1) → (tag b ≠ 46 ∨ j ≠ 2) → (tag b ≠ 46 ∨ j ≠ 22) → (tag b ≠ 46 ∨ j ≠ 23) → fld F b j = fld Fo b j) ∧ (∀ b j : Nat, tag b ≠ 37 → tag b ≠ 40 → elm F b j = elm Fo b j)) → (fld F p0 3 = .ref x0) → (fld F p0 0 = .int z57788) → lv_has ls 6 [(0, .ref p0), (1, .int p1), (2, .int p2), (3, .int p3), (4, .int z57786), (5, .int z57787)] → W p l e { frames := 8, cells := 0, slots := 0, locals := 192 } s m args below meth c H locs 0 0 Q (F0 m 40 ls []) := by
    intro n
    induction n with
    | zero =>
      intro z57786 z57787 z57788 F H locs ls hn rz57786 rz57787 rz57788 r9s57783 r9s57784 r9s57785 hT hfr pf0 qz57788 hl
      exfalso
      omega
    | succ n ih40 =>
      intro z57786 z57787 z57788 F H locs ls hn rz57786 rz57787 rz57788 r9s57783 r9s57784 r9s57785 hT hfr pf0 qz57788 hl
      refine lv_iload hx hb dX13_falls_40 (lv_at hl 5 rfl) ?_
      refine lv_iload_n hx hb dX13_falls_42 rfl (lv_at hl 3 rfl) ?_
      refine lv_icmp_gt (tgt := 82) hx hb dX13_falls_43 (by decide) (fun c57789 => ?_) (fun c57789 => ?_)
      · have w57790 := cv_lt (rfl : p3.toInt = p3.toInt) (rfl : z57787.toInt = z57787.toInt) c57789
        refine lv_aload_n hx hb dX13_falls_82 rfl (lv_at hl 0 rfl) ?_
        refine lv_bipush (v := (-2)) hx hb dX13_falls_83 (by decide) ?_
        refine t_cVi (n := 1) (C := RX13) (T := TX13) (N := 37) (As := [.int (-2)]) (rest := []) X hT (km93_X13_good l G tag L F hT.2.2.2 p0 (-2) m0 g0) m0 g0 rfl rfl qw_687 qw_688 qw_689 qw_5 qw_690 ⟨rfl, by decide +kernel, by decide +kernel, by decide +kernel⟩ ⟨Nat.le_of_ble_eq_true rfl, Nat.le_of_ble_eq_true rfl⟩ hl rfl rfl (Nat.le_of_ble_eq_true rfl) dX13_falls_85 ⟨Nat.le_of_ble_eq_true rfl, Nat.le_of_ble_eq_true rfl⟩ (fun z57791 F H locs hT hz57791 => ?_)
        obtain ⟨hz57791, yz57791⟩ := hz57791
        have qz57788 := (yz57791.1 _ 0 (Or.inr (by decide)) (Or.inr (by decide))).trans qz57788
        have pf0 := (yz57791.1 _ 3 (Or.inr (by decide)) (Or.inr (by decide))).trans pf0
        have hfr : (∀ b j : Nat, (tag b ≠ 46 ∨ j ≠ 0) → (tag b ≠ 46 ∨ j ≠ 1) → (tag b ≠ 46 ∨ j ≠ 2) → (tag b ≠ 46 ∨ j ≠ 22) → (tag b ≠ 46 ∨ j ≠ 23) → fld F b j = fld Fo b j) ∧ (∀ b j : Nat, tag b ≠ 37 → tag b ≠ 40 → elm F b j = elm Fo b j) := ⟨fun b j n46_0 n46_1 n46_2 n46_22 n46_23 => (yz57791.1 b j n46_1 n46_2).trans (hfr.1 b j n46_0 n46_1 n46_2 n46_22 n46_23), fun b j a37 a40 => (yz57791.2 b j ).trans (hfr.2 b j a37 a40)⟩
        exact t_iret hQ X hT (⟨rg_all _, hfr⟩) (Nat.le_of_ble_eq_true rfl) (Nat.le_of_ble_eq_true rfl) dX13_falls_88
      · have w57792 := cv_nlt (rfl : p3.toInt = p3.toInt) (rfl : z57787.toInt = z57787.toInt) c57789
        refine lv_aload_n hx hb dX13_falls_46 rfl (lv_at hl 0 rfl) ?_
        refine t_get (C := RX13) (T := TX13) (N := 37) X hT m0 g0 rfl rfl 17 (by decide) qw_113 inlX13 rfl dX13_falls_47 (fun v57793 hv57793 ov57793 => ?_)
        obtain ⟨b57794, rfl, mb57794, gb57794⟩ := okV_r ov57793
        have gb57794 : tag b57794 = 37 := tg_of gb57794
        refine lv_iload_n hx hb dX13_falls_50 rfl (lv_at hl 1 rfl) ?_
        refine lv_iload_n hx hb dX13_falls_51 rfl (lv_at hl 2 rfl) ?_
        refine lv_iconst (v := 5) hx hb dX13_falls_52 (by decide) ?_
        refine t_cSi (n := 3) (As := [.int p1, .int p2, .int 5]) (rest := [.ref b57794]) X hT (km49_X13_part l G tag L F hT.2.2.2 p1 p2 5 (by omega) (by omega) (by decide)) qw_661 qw_662 qw_5 qw_663 ⟨by decide +kernel, by decide +kernel, by decide +kernel⟩ ⟨Nat.le_of_ble_eq_true rfl, Nat.le_of_ble_eq_true rfl⟩ hl rfl rfl (Nat.le_of_ble_eq_true rfl) dX13_falls_53 ⟨Nat.le_of_ble_eq_true rfl, Nat.le_of_ble_eq_true rfl⟩ (fun z57795 F9 H locs hT hz57795 => ?_)
        obtain ⟨fz57795, hz57795, xz57795_0⟩ := hz57795
        rw [fz57795] at hT
        have k57796 : (5 : Int32).toInt = 5 := by decide
        refine t_ild X hT mb57794 gb57794 rfl (by omega) dX13_falls_56 (fun z57797 vz57797 rz57797 => ?_)
        have oz57797 := rz57797
        have rz57797 := rg_all z57797
        refine lv_iconst (v := 1) hx hb dX13_falls_57 (by decide) ?_
        refine lv_icmp_ne (tgt := 68) hx hb dX13_falls_58 (by decide) (fun c57798 => ?_) (fun c57798 => ?_)
        · have w57799 := cv_ne (rfl : z57797.toInt = z57797.toInt) (by decide : (1 : Int32).toInt = 1) c57798
          refine lv_aload_n hx hb dX13_falls_68 rfl (lv_at hl 0 rfl) ?_
          refine lv_aload_n hx hb dX13_falls_69 rfl (lv_at hl 0 rfl) ?_
          refine t_get (C := RX13) (T := TX13) (N := 37) X hT m0 g0 rfl rfl 17 (by decide) qw_113 inlX13 rfl dX13_falls_70 (fun v57800 hv57800 ov57800 => ?_)
          obtain rfl : v57800 = .ref b57794 := hv57800.symm.trans hv57793
          refine t_cVv (n := 1) (C := RX13) (T := TX13) (N := 37) (As := [.ref b57794]) (rest := []) X hT (km181_X13_goesBy l G tag L F hT.2.2.2 p0 b57794 x0 m0 g0 mb57794 gb57794 mx0 gx0 pf0) m0 g0 rfl rfl qw_1160 qw_1161 qw_1162 qw_5 qw_1163 ⟨rfl, by decide +kernel, by decide +kernel, by decide +kernel⟩ ⟨Nat.le_of_ble_eq_true rfl, Nat.le_of_ble_eq_true rfl⟩ hl rfl rfl (Nat.le_of_ble_eq_true rfl) dX13_falls_73 ⟨Nat.le_of_ble_eq_true rfl, Nat.le_of_ble_eq_true rfl⟩ (fun F H locs hT hz57801 => ?_)
          have yz57801 := hz57801
          have qz57788 := (yz57801.1 _ 0 (Or.inr (by decide)) (Or.inr (by decide))).trans qz57788
          have pf0 := (yz57801.1 _ 3 (Or.inr (by decide)) (Or.inr (by decide))).trans pf0
          have hv57793 := (yz57801.1 _ 17 (Or.inr (by decide)) (Or.inr (by decide))).trans hv57793
          have hfr : (∀ b j : Nat, (tag b ≠ 46 ∨ j ≠ 0) → (tag b ≠ 46 ∨ j ≠ 1) → (tag b ≠ 46 ∨ j ≠ 2) → (tag b ≠ 46 ∨ j ≠ 22) → (tag b ≠ 46 ∨ j ≠ 23) → fld F b j = fld Fo b j) ∧ (∀ b j : Nat, tag b ≠ 37 → tag b ≠ 40 → elm F b j = elm Fo b j) := ⟨fun b j n46_0 n46_1 n46_2 n46_22 n46_23 => (yz57801.1 b j n46_22 n46_23).trans (hfr.1 b j n46_0 n46_1 n46_2 n46_22 n46_23), fun b j a37 a40 => (yz57801.2 b j a37).trans (hfr.2 b j a37 a40)⟩
          obtain ⟨z57802, ez57802⟩ : ∃ y : Int32, y = z57787 + 1 := ⟨_, rfl⟩
          have hz57802 : z57802.toInt = z57787.toInt + 1 := ar_add ez57802 rfl (by decide : (1 : Int32).toInt = 1) (by omega) (by omega)
          refine lv_iinc (v := z57802) (lv' := [(5, .int z57802), (0, .ref p0), (1, .int p1), (2, .int p2), (3, .int p3), (4, .int z57786)]) hx hb dX13_falls_76 hl (k := 5) rfl (by rw [ez57802]; rfl) (by decide) rfl (fun ls hl => ?_)
          refine lv_goto (tgt := 40) hx hb dX13_falls_79 (by decide) ?_
          exact ih40 z57786 z57802 z57788 _ _ _ _ (by omega) (by omega) (by omega) (by omega) (by omega) (by omega) (by omega) hT hfr pf0 qz57788 (lv_sub hl [1, 2, 3, 4, 5, 0] rfl)
        · have w57803 := cv_eq (rfl : z57797.toInt = z57797.toInt) (by decide : (1 : Int32).toInt = 1) c57798
          refine lv_aload_n hx hb dX13_falls_61 rfl (lv_at hl 0 rfl) ?_
          refine lv_iload hx hb dX13_falls_62 (lv_at hl 5 rfl) ?_
          refine t_cVi (n := 1) (C := RX13) (T := TX13) (N := 37) (As := [.int z57787]) (rest := []) X hT (km93_X13_good l G tag L F hT.2.2.2 p0 z57787 m0 g0) m0 g0 rfl rfl qw_687 qw_688 qw_689 qw_5 qw_690 ⟨rfl, by decide +kernel, by decide +kernel, by decide +kernel⟩ ⟨Nat.le_of_ble_eq_true rfl, Nat.le_of_ble_eq_true rfl⟩ hl rfl rfl (Nat.le_of_ble_eq_true rfl) dX13_falls_64 ⟨Nat.le_of_ble_eq_true rfl, Nat.le_of_ble_eq_true rfl⟩ (fun z57804 F H locs hT hz57804 => ?_)
          obtain ⟨hz57804, yz57804⟩ := hz57804
          have qz57788 := (yz57804.1 _ 0 (Or.inr (by decide)) (Or.inr (by decide))).trans qz57788
          have pf0 := (yz57804.1 _ 3 (Or.inr (by decide)) (Or.inr (by decide))).trans pf0
          have hv57793 := (yz57804.1 _ 17 (Or.inr (by decide)) (Or.inr (by decide))).trans hv57793
          have vz57797 := (yz57804.2 _ _ ).trans vz57797
          have hfr : (∀ b j : Nat, (tag b ≠ 46 ∨ j ≠ 0) → (tag b ≠ 46 ∨ j ≠ 1) → (tag b ≠ 46 ∨ j ≠ 2) → (tag b ≠ 46 ∨ j ≠ 22) → (tag b ≠ 46 ∨ j ≠ 23) → fld F b j = fld Fo b j) ∧ (∀ b j : Nat, tag b ≠ 37 → tag b ≠ 40 → elm F b j = elm Fo b j) := ⟨fun b j n46_0 n46_1 n46_2 n46_22 n46_23 => (yz57804.1 b j n46_1 n46_2).trans (hfr.1 b j n46_0 n46_1 n46_2 n46_22 n46_23), fun b j a37 a40 => (yz57804.2 b j ).trans (hfr.2 b j a37 a40)⟩
          exact t_iret hQ X hT (⟨rg_all _, hfr⟩) (Nat.le_of_ble_eq_true rfl) (Nat.le_of_ble_eq_true rfl) dX13_falls_67
  refine lv_aload_n hx hb dX13_falls_0 rfl (lv_at hl 0 rfl) ?_
  refine lv_iconst (v := 0) hx hb dX13_falls_1 (by decide) ?_
  refine t_put (C := RX13) (T := TX13) (N := 37) (v := .int 0) X hT m0 g0 rfl tyX13 tyX13_ok nmX13 rfl 0 (by decide) qw_140 inlX13 rfl (by first | rfl | decide) (by first | rfl | decide) rfl (⟨_, rfl, (show (-2147483648) ≤ (0 : Int32).toInt from (by decide)), (show (0 : Int32).toInt ≤ 2147483647 from (by decide))⟩) dX13_falls_2 (fun F H locs hT v57805 h1v57805 h2v57805 => ?_)
  have pf0 := (h1v57805 _ _ (Or.inr (by decide))).trans pf0
  have hfr : (∀ b j : Nat, (tag b ≠ 46 ∨ j ≠ 0) → (tag b ≠ 46 ∨ j ≠ 1) → (tag b ≠ 46 ∨ j ≠ 2) → (tag b ≠ 46 ∨ j ≠ 22) → (tag b ≠ 46 ∨ j ≠ 23) → fld F b j = fld Fo b j) ∧ (∀ b j : Nat, tag b ≠ 37 → tag b ≠ 40 → elm F b j = elm Fo b j) := ⟨fun b j n46_0 n46_1 n46_2 n46_22 n46_23 => (h1v57805 b j (fr_ne g0 n46_0)).trans (hfr.1 b j n46_0 n46_1 n46_2 n46_22 n46_23), fun b j a37 a40 => (h2v57805 b j).trans (hfr.2 b j a37 a40)⟩
  refine lv_aload_n hx hb dX13_falls_5 rfl (lv_at hl 0 rfl) ?_
  refine lv_aload_n hx hb dX13_falls_6 rfl (lv_at hl 0 rfl) ?_
  refine lv_iload_n hx hb dX13_falls_7 rfl (lv_at hl 1 rfl) ?_
  refine lv_iload_n hx hb dX13_falls_8 rfl (lv_at hl 2 rfl) ?_
  refine t_cVi (n := 2) (C := RX13) (T := TX13) (N := 37) (As := [.int p1, .int p2]) (rest := [.ref p0]) X hT (km119_X13_isSkin l G tag L F hT.2.2.2 p0 p1 p2 x0 m0 g0 mx0 gx0 pf0) m0 g0 rfl rfl qw_836 qw_837 qw_838 qw_5 qw_839 ⟨rfl, by decide +kernel, by decide +kernel, by decide +kernel⟩ ⟨Nat.le_of_ble_eq_true rfl, Nat.le_of_ble_eq_true rfl⟩ hl rfl rfl (Nat.le_of_ble_eq_true rfl) dX13_falls_9 ⟨Nat.le_of_ble_eq_true rfl, Nat.le_of_ble_eq_true rfl⟩ (fun z57806 F9 H locs hT hz57806 => ?_)
  obtain ⟨fz57806, hz57806⟩ := hz57806
  rw [fz57806] at hT
  obtain ⟨hz57806, iz57806⟩ := hz57806
  refine lv_iload_n hx hb dX13_falls_12 rfl (lv_at hl 3 rfl) ?_
  refine lv_bipush (v := 60) hx hb dX13_falls_13 (by decide) ?_
  rcases z01 (z := z57806) (by omega) with c57807 | c57807
  · have w57808 := cv_eq (rfl : z57806.toInt = z57806.toInt) (by decide : (0 : Int32).toInt = 0) c57807
    subst c57807
    refine t_cVi (n := 3) (C := RX13) (T := TX13) (N := 37) (As := [.int 0, .int p3, .int 60]) (rest := []) X hT (km174_X13_refusesIn l G tag L F hT.2.2.2 p0 0 p3 60 x0 m0 g0 (by decide) mx0 gx0 pf0) m0 g0 rfl rfl qw_1144 qw_1145 qw_1146 qw_5 qw_1147 ⟨rfl, by decide +kernel, by decide +kernel, by decide +kernel⟩ ⟨Nat.le_of_ble_eq_true rfl, Nat.le_of_ble_eq_true rfl⟩ hl rfl rfl (Nat.le_of_ble_eq_true rfl) dX13_falls_15 ⟨Nat.le_of_ble_eq_true rfl, Nat.le_of_ble_eq_true rfl⟩ (fun z57809 F9 H locs hT hz57809 => ?_)
    obtain ⟨fz57809, hz57809, xz57809_0⟩ := hz57809
    rw [fz57809] at hT
    have k57810 : (0 : Int32).toInt = 0 := by decide
    have k57811 : (60 : Int32).toInt = 60 := by decide
    refine lv_istore (lv' := [(4, .int z57809), (0, .ref p0), (1, .int p1), (2, .int p2), (3, .int p3)]) hx hb dX13_falls_18 hl (by decide) rfl (fun ls hl => ?_)
    refine lv_iload hx hb dX13_falls_20 (lv_at hl 0 rfl) ?_
    refine lv_if_le (tgt := 32) hx hb dX13_falls_22 (by decide) (fun c57812 => ?_) (fun c57812 => ?_)
    · have w57813 := cv_le (rfl : z57809.toInt = z57809.toInt) (by decide : (0 : Int32).toInt = 0) c57812
      exfalso
      omega
    · have w57814 := cv_nle (rfl : z57809.toInt = z57809.toInt) (by decide : (0 : Int32).toInt = 0) c57812
      refine lv_aload_n hx hb dX13_falls_25 rfl (lv_at hl 1 rfl) ?_
      refine lv_iload hx hb dX13_falls_26 (lv_at hl 0 rfl) ?_
      refine t_cVi (n := 1) (C := RX13) (T := TX13) (N := 37) (As := [.int z57809]) (rest := []) X hT (km88_X13_refused l G tag L F hT.2.2.2 p0 z57809 m0 g0) m0 g0 rfl rfl qw_484 qw_485 qw_486 qw_5 qw_487 ⟨rfl, by decide +kernel, by decide +kernel, by decide +kernel⟩ ⟨Nat.le_of_ble_eq_true rfl, Nat.le_of_ble_eq_true rfl⟩ hl rfl rfl (Nat.le_of_ble_eq_true rfl) dX13_falls_28 ⟨Nat.le_of_ble_eq_true rfl, Nat.le_of_ble_eq_true rfl⟩ (fun z57815 F H locs hT hz57815 => ?_)
      obtain ⟨hz57815, yz57815⟩ := hz57815
      have pf0 := (yz57815.1 _ 3 (Or.inr (by decide)) (Or.inr (by decide))).trans pf0
      have v57805 := (yz57815.1 _ 0 (Or.inr (by decide)) (Or.inr (by decide))).trans v57805
      have hfr : (∀ b j : Nat, (tag b ≠ 46 ∨ j ≠ 0) → (tag b ≠ 46 ∨ j ≠ 1) → (tag b ≠ 46 ∨ j ≠ 2) → (tag b ≠ 46 ∨ j ≠ 22) → (tag b ≠ 46 ∨ j ≠ 23) → fld F b j = fld Fo b j) ∧ (∀ b j : Nat, tag b ≠ 37 → tag b ≠ 40 → elm F b j = elm Fo b j) := ⟨fun b j n46_0 n46_1 n46_2 n46_22 n46_23 => (yz57815.1 b j n46_1 n46_2).trans (hfr.1 b j n46_0 n46_1 n46_2 n46_22 n46_23), fun b j a37 a40 => (yz57815.2 b j ).trans (hfr.2 b j a37 a40)⟩
      exact t_iret hQ X hT (⟨rg_all _, hfr⟩) (Nat.le_of_ble_eq_true rfl) (Nat.le_of_ble_eq_true rfl) dX13_falls_31
  · have w57816 := cv_eq (rfl : z57806.toInt = z57806.toInt) (by decide : (1 : Int32).toInt = 1) c57807
    have w57817 := (fun h => (iz57806 h).1) (by omega)
    have w57818 := (fun h => (iz57806 h).2) (by omega)
    subst c57807
    refine t_cVi (n := 3) (C := RX13) (T := TX13) (N := 37) (As := [.int 1, .int p3, .int 60]) (rest := []) X hT (km175_X13_refusesIn l G tag L F hT.2.2.2 p0 1 p3 60 x0 m0 g0 (by decide) mx0 gx0 pf0) m0 g0 rfl rfl qw_1144 qw_1145 qw_1146 qw_5 qw_1147 ⟨rfl, by decide +kernel, by decide +kernel, by decide +kernel⟩ ⟨Nat.le_of_ble_eq_true rfl, Nat.le_of_ble_eq_true rfl⟩ hl rfl rfl (Nat.le_of_ble_eq_true rfl) dX13_falls_15 ⟨Nat.le_of_ble_eq_true rfl, Nat.le_of_ble_eq_true rfl⟩ (fun z57819 F9 H locs hT hz57819 => ?_)
    obtain ⟨fz57819, hz57819, xz57819_0⟩ := hz57819
    rw [fz57819] at hT
    have k57820 : (1 : Int32).toInt = 1 := by decide
    have k57821 : (60 : Int32).toInt = 60 := by decide
    refine lv_istore (lv' := [(4, .int z57819), (0, .ref p0), (1, .int p1), (2, .int p2), (3, .int p3)]) hx hb dX13_falls_18 hl (by decide) rfl (fun ls hl => ?_)
    refine lv_iload hx hb dX13_falls_20 (lv_at hl 0 rfl) ?_
    refine lv_if_le (tgt := 32) hx hb dX13_falls_22 (by decide) (fun c57822 => ?_) (fun c57822 => ?_)
    · have w57823 := cv_le (rfl : z57819.toInt = z57819.toInt) (by decide : (0 : Int32).toInt = 0) c57822
      have w57824 := xz57819_0 (by omega)
      refine lv_aload_n hx hb dX13_falls_32 rfl (lv_at hl 1 rfl) ?_
      refine lv_iconst (v := 0) hx hb dX13_falls_33 (by decide) ?_
      refine t_cVv (n := 1) (C := RX13) (T := TX13) (N := 37) (As := [.int 0]) (rest := []) X hT (km182_X13_inYears l G tag L F hT.2.2.2 p0 0 x0 m0 g0 (by decide) mx0 gx0 pf0) m0 g0 rfl rfl qw_1148 qw_1149 qw_1150 qw_5 qw_1151 ⟨rfl, by decide +kernel, by decide +kernel, by decide +kernel⟩ ⟨Nat.le_of_ble_eq_true rfl, Nat.le_of_ble_eq_true rfl⟩ hl rfl rfl (Nat.le_of_ble_eq_true rfl) dX13_falls_34 ⟨Nat.le_of_ble_eq_true rfl, Nat.le_of_ble_eq_true rfl⟩ (fun F H locs hT hz57825 => ?_)
      have yz57825 := hz57825
      have pf0 := (yz57825.1 _ 3 (Or.inr (by decide)) (Or.inr (by decide))).trans pf0
      have v57805 := (yz57825.1 _ 0 (Or.inr (by decide)) (Or.inr (by decide))).trans v57805
      have hfr : (∀ b j : Nat, (tag b ≠ 46 ∨ j ≠ 0) → (tag b ≠ 46 ∨ j ≠ 1) → (tag b ≠ 46 ∨ j ≠ 2) → (tag b ≠ 46 ∨ j ≠ 22) → (tag b ≠ 46 ∨ j ≠ 23) → fld F b j = fld Fo b j) ∧ (∀ b j : Nat, tag b ≠ 37 → tag b ≠ 40 → elm F b j = elm Fo b j) := ⟨fun b j n46_0 n46_1 n46_2 n46_22 n46_23 => (yz57825.1 b j n46_22 n46_23).trans (hfr.1 b j n46_0 n46_1 n46_2 n46_22 n46_23), fun b j a37 a40 => (yz57825.2 b j a37 a40).trans (hfr.2 b j a37 a40)⟩
      refine lv_iconst (v := 0) hx hb dX13_falls_37 (by decide) ?_
      refine lv_istore (lv' := [(5, .int 0), (4, .int z57819), (0, .ref p0), (1, .int p1), (2, .int p2), (3, .int p3)]) hx hb dX13_falls_38 hl (by decide) rfl (fun ls hl => ?_)
      have k57826 : (0 : Int32).toInt = 0 := by decide
      have k57827 : (0 : Int32).toInt = 0 := by decide
      exact K40 62 z57819 0 0 _ _ _ _ (by omega) (by omega) (by decide) (by decide) (by omega) (by omega) (by omega) hT hfr pf0 v57805 (lv_sub hl [2, 3, 4, 5, 1, 0] rfl)
    · have w57828 := cv_nle (rfl : z57819.toInt = z57819.toInt) (by decide : (0 : Int32).toInt = 0) c57822
      refine lv_aload_n hx hb dX13_falls_25 rfl (lv_at hl 1 rfl) ?_
      refine lv_iload hx hb dX13_falls_26 (lv_at hl 0 rfl) ?_
      refine t_cVi (n := 1) (C := RX13) (T := TX13) (N := 37) (As := [.int z57819]) (rest := []) X hT (km88_X13_refused l G tag L F hT.2.2.2 p0 z57819 m0 g0) m0 g0 rfl rfl qw_484 qw_485 qw_486 qw_5 qw_487 ⟨rfl, by decide +kernel, by decide +kernel, by decide +kernel⟩ ⟨Nat.le_of_ble_eq_true rfl, Nat.le_of_ble_eq_true rfl⟩ hl rfl rfl (Nat.le_of_ble_eq_true rfl) dX13_falls_28 ⟨Nat.le_of_ble_eq_true rfl, Nat.le_of_ble_eq_true rfl⟩ (fun z57829 F H locs hT hz57829 => ?_)
      obtain ⟨hz57829, yz57829⟩ := hz57829
      have pf0 := (yz57829.1 _ 3 (Or.inr (by decide)) (Or.inr (by decide))).trans pf0
      have v57805 := (yz57829.1 _ 0 (Or.inr (by decide)) (Or.inr (by decide))).trans v57805
      have hfr : (∀ b j : Nat, (tag b ≠ 46 ∨ j ≠ 0) → (tag b ≠ 46 ∨ j ≠ 1) → (tag b ≠ 46 ∨ j ≠ 2) → (tag b ≠ 46 ∨ j ≠ 22) → (tag b ≠ 46 ∨ j ≠ 23) → fld F b j = fld Fo b j) ∧ (∀ b j : Nat, tag b ≠ 37 → tag b ≠ 40 → elm F b j = elm Fo b j) := ⟨fun b j n46_0 n46_1 n46_2 n46_22 n46_23 => (yz57829.1 b j n46_1 n46_2).trans (hfr.1 b j n46_0 n46_1 n46_2 n46_22 n46_23), fun b j a37 a40 => (yz57829.2 b j ).trans (hfr.2 b j a37 a40)⟩
      exact t_iret hQ X hT (⟨rg_all _, hfr⟩) (Nat.le_of_ble_eq_true rfl) (Nat.le_of_ble_eq_true rfl) dX13_falls_31
set_option maxHeartbeats 4000000 in
set_option maxRecDepth 100000 in
theorem km197_X13_falls (l : Launch) (G : KG) (tag : Nat → Nat) (L : List Nat) (Fo : Nat → va_E) (ho : okT G ttC tag L Fo) (p0 : Nat) (p1 : Int32) (p2 : Int32) (p3 : Int32) (m0 : p0 ∈ L) (g0 : tag p0 = 46) (pf0 : fld Fo p0 3 = .null) : TMi l yX13_falls cX13_falls 6 (some .int) { frames := 8, cells := 0, slots := 0, locals := 192 } G ttC tag L Fo [.ref p0, .int p1, .int p2, .int p3] (fun r F1 => ((-2147483648) ≤ r.toInt ∧ r.toInt ≤ 2147483647) ∧ ((∀ b j : Nat, (tag b ≠ 46 ∨ j ≠ 0) → (tag b ≠ 46 ∨ j ≠ 1) → (tag b ≠ 46 ∨ j ≠ 2) → (tag b ≠ 46 ∨ j ≠ 22) → (tag b ≠ 46 ∨ j ≠ 23) → fld F1 b j = fld Fo b j) ∧ (∀ b j : Nat, tag b ≠ 37 → tag b ≠ 40 → elm F1 b j = elm Fo b j))) := by
  refine t_bodyi (y := yX13_falls) (cd := cX13_falls) (mL := 6) (rt := (some .int)) (rm := { frames := 8, cells := 0, slots := 0, locals := 192 }) (av := [.ref p0, .int p1, .int p2, .int p3]) (by decide) (Nat.le_of_ble_eq_true rfl) ho ?_
  intro p e s m args below meth c ls A Q hQ X hT hl
  have hx := X.1.1
  have hb := X.1.2.1
  have hl : lv_has ls 6 [(0, .ref p0), (1, .int p1), (2, .int p2), (3, .int p3)] := hl
  have rp1 := rg_all p1
  have rp2 := rg_all p2
  have rp3 := rg_all p3
  obtain ⟨F, hFo⟩ : ∃ F : Nat → va_E, F = Fo := ⟨_, rfl⟩
  rw [← hFo] at hT pf0
  have hfr : (∀ b j : Nat, (tag b ≠ 46 ∨ j ≠ 0) → (tag b ≠ 46 ∨ j ≠ 1) → (tag b ≠ 46 ∨ j ≠ 2) → (tag b ≠ 46 ∨ j ≠ 22) → (tag b ≠ 46 ∨ j ≠ 23) → fld F b j = fld Fo b j) ∧ (∀ b j : Nat, tag b ≠ 37 → tag b ≠ 40 → elm F b j = elm Fo b j) := by
    rw [hFo]
    exact ⟨by intros; rfl, by intros; rfl⟩
  refine lv_aload_n hx hb dX13_falls_0 rfl (lv_at hl 0 rfl) ?_
  refine lv_iconst (v := 0) hx hb dX13_falls_1 (by decide) ?_
  refine t_put (C := RX13) (T := TX13) (N := 37) (v := .int 0) X hT m0 g0 rfl tyX13 tyX13_ok nmX13 rfl 0 (by decide) qw_140 inlX13 rfl (by first | rfl | decide) (by first | rfl | decide) rfl (⟨_, rfl, (show (-2147483648) ≤ (0 : Int32).toInt from (by decide)), (show (0 : Int32).toInt ≤ 2147483647 from (by decide))⟩) dX13_falls_2 (fun F H locs hT v57951 h1v57951 h2v57951 => ?_)
  have pf0 := (h1v57951 _ _ (Or.inr (by decide))).trans pf0
  have hfr : (∀ b j : Nat, (tag b ≠ 46 ∨ j ≠ 0) → (tag b ≠ 46 ∨ j ≠ 1) → (tag b ≠ 46 ∨ j ≠ 2) → (tag b ≠ 46 ∨ j ≠ 22) → (tag b ≠ 46 ∨ j ≠ 23) → fld F b j = fld Fo b j) ∧ (∀ b j : Nat, tag b ≠ 37 → tag b ≠ 40 → elm F b j = elm Fo b j) := ⟨fun b j n46_0 n46_1 n46_2 n46_22 n46_23 => (h1v57951 b j (fr_ne g0 n46_0)).trans (hfr.1 b j n46_0 n46_1 n46_2 n46_22 n46_23), fun b j a37 a40 => (h2v57951 b j).trans (hfr.2 b j a37 a40)⟩
  refine lv_aload_n hx hb dX13_falls_5 rfl (lv_at hl 0 rfl) ?_
  refine lv_aload_n hx hb dX13_falls_6 rfl (lv_at hl 0 rfl) ?_
  refine lv_iload_n hx hb dX13_falls_7 rfl (lv_at hl 1 rfl) ?_
  refine lv_iload_n hx hb dX13_falls_8 rfl (lv_at hl 2 rfl) ?_
  refine t_cVi (n := 2) (C := RX13) (T := TX13) (N := 37) (As := [.int p1, .int p2]) (rest := [.ref p0]) X hT (km121_X13_isSkin l G tag L F hT.2.2.2 p0 p1 p2 m0 g0 pf0) m0 g0 rfl rfl qw_836 qw_837 qw_838 qw_5 qw_839 ⟨rfl, by decide +kernel, by decide +kernel, by decide +kernel⟩ ⟨Nat.le_of_ble_eq_true rfl, Nat.le_of_ble_eq_true rfl⟩ hl rfl rfl (Nat.le_of_ble_eq_true rfl) dX13_falls_9 ⟨Nat.le_of_ble_eq_true rfl, Nat.le_of_ble_eq_true rfl⟩ (fun z57952 F9 H locs hT hz57952 => ?_)
  obtain ⟨fz57952, hz57952⟩ := hz57952
  rw [fz57952] at hT
  refine lv_iload_n hx hb dX13_falls_12 rfl (lv_at hl 3 rfl) ?_
  refine lv_bipush (v := 60) hx hb dX13_falls_13 (by decide) ?_
  rcases z01 (z := z57952) (by omega) with c57953 | c57953
  · have w57954 := cv_eq (rfl : z57952.toInt = z57952.toInt) (by decide : (0 : Int32).toInt = 0) c57953
    subst c57953
    refine t_cVi (n := 3) (C := RX13) (T := TX13) (N := 37) (As := [.int 0, .int p3, .int 60]) (rest := []) X hT (km184_X13_refusesIn l G tag L F hT.2.2.2 p0 0 p3 60 m0 g0 (by decide) pf0) m0 g0 rfl rfl qw_1144 qw_1145 qw_1146 qw_5 qw_1147 ⟨rfl, by decide +kernel, by decide +kernel, by decide +kernel⟩ ⟨Nat.le_of_ble_eq_true rfl, Nat.le_of_ble_eq_true rfl⟩ hl rfl rfl (Nat.le_of_ble_eq_true rfl) dX13_falls_15 ⟨Nat.le_of_ble_eq_true rfl, Nat.le_of_ble_eq_true rfl⟩ (fun z57955 F9 H locs hT hz57955 => ?_)
    obtain ⟨fz57955, hz57955⟩ := hz57955
    rw [fz57955] at hT
    refine lv_istore (lv' := [(4, .int z57955), (0, .ref p0), (1, .int p1), (2, .int p2), (3, .int p3)]) hx hb dX13_falls_18 hl (by decide) rfl (fun ls hl => ?_)
    refine lv_iload hx hb dX13_falls_20 (lv_at hl 0 rfl) ?_
    refine lv_if_le (tgt := 32) hx hb dX13_falls_22 (by decide) (fun c57956 => ?_) (fun c57956 => ?_)
    · have w57957 := cv_le (rfl : z57955.toInt = z57955.toInt) (by decide : (0 : Int32).toInt = 0) c57956
      exfalso
      omega
    · have w57958 := cv_nle (rfl : z57955.toInt = z57955.toInt) (by decide : (0 : Int32).toInt = 0) c57956
      refine lv_aload_n hx hb dX13_falls_25 rfl (lv_at hl 1 rfl) ?_
      refine lv_iload hx hb dX13_falls_26 (lv_at hl 0 rfl) ?_
      refine t_cVi (n := 1) (C := RX13) (T := TX13) (N := 37) (As := [.int z57955]) (rest := []) X hT (km88_X13_refused l G tag L F hT.2.2.2 p0 z57955 m0 g0) m0 g0 rfl rfl qw_484 qw_485 qw_486 qw_5 qw_487 ⟨rfl, by decide +kernel, by decide +kernel, by decide +kernel⟩ ⟨Nat.le_of_ble_eq_true rfl, Nat.le_of_ble_eq_true rfl⟩ hl rfl rfl (Nat.le_of_ble_eq_true rfl) dX13_falls_28 ⟨Nat.le_of_ble_eq_true rfl, Nat.le_of_ble_eq_true rfl⟩ (fun z57959 F H locs hT hz57959 => ?_)
      obtain ⟨hz57959, yz57959⟩ := hz57959
      have pf0 := (yz57959.1 _ 3 (Or.inr (by decide)) (Or.inr (by decide))).trans pf0
      have v57951 := (yz57959.1 _ 0 (Or.inr (by decide)) (Or.inr (by decide))).trans v57951
      have hfr : (∀ b j : Nat, (tag b ≠ 46 ∨ j ≠ 0) → (tag b ≠ 46 ∨ j ≠ 1) → (tag b ≠ 46 ∨ j ≠ 2) → (tag b ≠ 46 ∨ j ≠ 22) → (tag b ≠ 46 ∨ j ≠ 23) → fld F b j = fld Fo b j) ∧ (∀ b j : Nat, tag b ≠ 37 → tag b ≠ 40 → elm F b j = elm Fo b j) := ⟨fun b j n46_0 n46_1 n46_2 n46_22 n46_23 => (yz57959.1 b j n46_1 n46_2).trans (hfr.1 b j n46_0 n46_1 n46_2 n46_22 n46_23), fun b j a37 a40 => (yz57959.2 b j ).trans (hfr.2 b j a37 a40)⟩
      exact t_iret hQ X hT (⟨rg_all _, hfr⟩) (Nat.le_of_ble_eq_true rfl) (Nat.le_of_ble_eq_true rfl) dX13_falls_31
  · have w57960 := cv_eq (rfl : z57952.toInt = z57952.toInt) (by decide : (1 : Int32).toInt = 1) c57953
    have k57961 : (1 : Int32).toInt = 1 := by decide
    exfalso
    omega
theorem kp_X13_falls (l : Launch) (G : KG) (tag : Nat → Nat) (L : List Nat) (Fo : Nat → va_E) (ho : okT G ttC tag L Fo) (p0 : Nat) (p1 : Int32) (p2 : Int32) (p3 : Int32) (m0 : p0 ∈ L) (g0 : tag p0 = 46) : TMi l yX13_falls cX13_falls 6 (some .int) { frames := 8, cells := 0, slots := 0, locals := 192 } G ttC tag L Fo [.ref p0, .int p1, .int p2, .int p3] (fun r F1 => ((-2147483648) ≤ r.toInt ∧ r.toInt ≤ 2147483647) ∧ ((∀ b j : Nat, (tag b ≠ 46 ∨ j ≠ 0) → (tag b ≠ 46 ∨ j ≠ 1) → (tag b ≠ 46 ∨ j ≠ 2) → (tag b ≠ 46 ∨ j ≠ 22) → (tag b ≠ 46 ∨ j ≠ 23) → fld F1 b j = fld Fo b j) ∧ (∀ b j : Nat, tag b ≠ 37 → tag b ≠ 40 → elm F1 b j = elm Fo b j))) := by
  rcases t_fldn ho m0 g0 rfl 3 rfl with h9 | ⟨b9, h9, m9, t9⟩
  · exact km197_X13_falls l G tag L Fo ho p0 p1 p2 p3  m0 g0 h9 
  · exact km196_X13_falls l G tag L Fo ho p0 p1 p2 p3 b9  m0 g0 m9 (tg_of t9) h9 
set_option maxHeartbeats 4000000 in
set_option maxRecDepth 100000 in
theorem km199_X13_room (l : Launch) (G : KG) (tag : Nat → Nat) (L : List Nat) (Fo : Nat → va_E) (ho : okT G ttC tag L Fo) (p0 : Nat) (p1 : Int32) (x0 : Nat) (x1 : Nat) (m0 : p0 ∈ L) (g0 : tag p0 = 46) (mx0 : x0 ∈ L) (gx0 : tag x0 = 45) (pf0 : fld Fo p0 3 = .ref x0) (mx1 : x1 ∈ L) (gx1 : tag x1 = 37) (pf1 : fld Fo p0 17 = .ref x1) : TMi l yX13_room cX13_room 3 (some .int) { frames := 5, cells := 0, slots := 0, locals := 125 } G ttC tag L Fo [.ref p0, .int p1] (fun r F1 => ((-2147483648) ≤ r.toInt ∧ r.toInt ≤ 2147483647) ∧ ((∀ b j : Nat, (tag b ≠ 46 ∨ j ≠ 0) → (tag b ≠ 46 ∨ j ≠ 1) → (tag b ≠ 46 ∨ j ≠ 2) → (tag b ≠ 46 ∨ j ≠ 22) → (tag b ≠ 46 ∨ j ≠ 23) → fld F1 b j = fld Fo b j) ∧ (∀ b j : Nat, tag b ≠ 37 → elm F1 b j = elm Fo b j))) := by
  refine t_bodyi (y := yX13_room) (cd := cX13_room) (mL := 3) (rt := (some .int)) (rm := { frames := 5, cells := 0, slots := 0, locals := 125 }) (av := [.ref p0, .int p1]) (by decide) (Nat.le_of_ble_eq_true rfl) ho ?_
  intro p e s m args below meth c ls A Q hQ X hT hl
  have hx := X.1.1
  have hb := X.1.2.1
  have hl : lv_has ls 3 [(0, .ref p0), (1, .int p1)] := hl
  have rp1 := rg_all p1
  obtain ⟨F, hFo⟩ : ∃ F : Nat → va_E, F = Fo := ⟨_, rfl⟩
  rw [← hFo] at hT pf0 pf1
  have hfr : (∀ b j : Nat, (tag b ≠ 46 ∨ j ≠ 0) → (tag b ≠ 46 ∨ j ≠ 1) → (tag b ≠ 46 ∨ j ≠ 2) → (tag b ≠ 46 ∨ j ≠ 22) → (tag b ≠ 46 ∨ j ≠ 23) → fld F b j = fld Fo b j) ∧ (∀ b j : Nat, tag b ≠ 37 → elm F b j = elm Fo b j) := by
    rw [hFo]
    exact ⟨by intros; rfl, by intros; rfl⟩
  have K25 : ∀ (n : Nat) (z59111 : Int32) (z59112 : Int32) (z59113 : Int32) (F : Nat → va_E) (H : Heap) (locs : List Loc) (ls : Array Slot), (6 - z59113.toInt < (n : Int)) → (0 ≤ z59112.toInt ∧ z59112.toInt ≤ 0) → (0 ≤ z59113.toInt ∧ z59113.toInt ≤ 6) → (0 ≤ p1.toInt ∧ p1.toInt ≤ 3) → TH G ttC A s tag L F H locs → ((∀ b j : Nat, (tag b ≠ 46 ∨ j ≠ 0) → (tag b ≠ 46 ∨ j ≠ 1) → (tag b ≠ 46 ∨ j ≠ 2) → (tag b ≠ 46 ∨ j ≠ 22) → (tag b ≠ 46 ∨ j ≠ 23) → fld F b j = fld Fo b j) ∧ (∀ b j : Nat, tag b ≠ 37 → elm F b j = elm Fo b j)) → (fld F p0 3 = .ref x0) → (fld F p0 17 = .ref x1) → (fld F p0 0 = .int z59112) → (elm F x1 p1.toNatClampNeg = z59113) → lv_has ls 3 [(0, .ref p0), (1, .int p1), (2, .int z59111)] → W p l e { frames := 5, cells := 0, slots := 0, locals := 125 } s m args below meth c H locs 0 0 Q (F0 m 25 ls []) := by
    intro n
    induction n with
    | zero =>
      intro z59111 z59112 z59113 F H locs ls hn rz59112 rz59113 r9s59110 hT hfr pf0 pf1 qz59112 qz59113 hl
      have rz59111 := rg_all z59111
      exfalso
      omega
    | succ n ih25 =>
      intro z59111 z59112 z59113 F H locs ls hn rz59112 rz59113 r9s59110 hT hfr pf0 pf1 qz59112 qz59113 hl
      have rz59111 := rg_all z59111
      refine lv_aload_n hx hb dX13_room_25 rfl (lv_at hl 0 rfl) ?_
      refine lv_aload_n hx hb dX13_room_26 rfl (lv_at hl 0 rfl) ?_
      refine t_get (C := RX13) (T := TX13) (N := 37) X hT m0 g0 rfl rfl 17 (by decide) qw_113 inlX13 rfl dX13_room_27 (fun v59114 hv59114 ov59114 => ?_)
      obtain rfl : v59114 = .ref x1 := hv59114.symm.trans pf1
      refine lv_iload_n hx hb dX13_room_30 rfl (lv_at hl 1 rfl) ?_
      refine t_cVi (n := 2) (C := RX13) (T := TX13) (N := 37) (As := [.ref x1, .int p1]) (rest := []) X hT (km146_X13_findsDoor l G tag L F hT.2.2.2 p0 x1 p1 x0 z59113 m0 g0 mx1 gx1 (by omega) mx0 gx0 pf0 (by omega) qz59113) m0 g0 rfl rfl qw_934 qw_935 qw_936 qw_5 qw_937 ⟨rfl, by decide +kernel, by decide +kernel, by decide +kernel⟩ ⟨Nat.le_of_ble_eq_true rfl, Nat.le_of_ble_eq_true rfl⟩ hl rfl rfl (Nat.le_of_ble_eq_true rfl) dX13_room_31 ⟨Nat.le_of_ble_eq_true rfl, Nat.le_of_ble_eq_true rfl⟩ (fun z59115 F H locs hT hz59115 => ?_)
      obtain ⟨hz59115, yz59115, xz59115_0⟩ := hz59115
      have qz59112 := (yz59115.1 _ 0 (Or.inr (by decide)) (Or.inr (by decide))).trans qz59112
      have qz59113 := (yz59115.2 _ _ ).trans qz59113
      have pf0 := (yz59115.1 _ 3 (Or.inr (by decide)) (Or.inr (by decide))).trans pf0
      have pf1 := (yz59115.1 _ 17 (Or.inr (by decide)) (Or.inr (by decide))).trans pf1
      have hfr : (∀ b j : Nat, (tag b ≠ 46 ∨ j ≠ 0) → (tag b ≠ 46 ∨ j ≠ 1) → (tag b ≠ 46 ∨ j ≠ 2) → (tag b ≠ 46 ∨ j ≠ 22) → (tag b ≠ 46 ∨ j ≠ 23) → fld F b j = fld Fo b j) ∧ (∀ b j : Nat, tag b ≠ 37 → elm F b j = elm Fo b j) := ⟨fun b j n46_0 n46_1 n46_2 n46_22 n46_23 => (yz59115.1 b j n46_22 n46_23).trans (hfr.1 b j n46_0 n46_1 n46_2 n46_22 n46_23), fun b j a37 => (yz59115.2 b j ).trans (hfr.2 b j a37)⟩
      refine lv_if_eq (tgt := 70) hx hb dX13_room_34 (by decide) (fun c59116 => ?_) (fun c59116 => ?_)
      · have w59117 := cv_eq (rfl : z59115.toInt = z59115.toInt) (by decide : (0 : Int32).toInt = 0) c59116
        refine lv_aload_n hx hb dX13_room_70 rfl (lv_at hl 0 rfl) ?_
        refine lv_iload_n hx hb dX13_room_71 rfl (lv_at hl 2 rfl) ?_
        refine t_cVi (n := 1) (C := RX13) (T := TX13) (N := 37) (As := [.int z59111]) (rest := []) X hT (km93_X13_good l G tag L F hT.2.2.2 p0 z59111 m0 g0) m0 g0 rfl rfl qw_687 qw_688 qw_689 qw_5 qw_690 ⟨rfl, by decide +kernel, by decide +kernel, by decide +kernel⟩ ⟨Nat.le_of_ble_eq_true rfl, Nat.le_of_ble_eq_true rfl⟩ hl rfl rfl (Nat.le_of_ble_eq_true rfl) dX13_room_72 ⟨Nat.le_of_ble_eq_true rfl, Nat.le_of_ble_eq_true rfl⟩ (fun z59118 F H locs hT hz59118 => ?_)
        obtain ⟨hz59118, yz59118⟩ := hz59118
        have qz59112 := (yz59118.1 _ 0 (Or.inr (by decide)) (Or.inr (by decide))).trans qz59112
        have qz59113 := (yz59118.2 _ _ ).trans qz59113
        have pf0 := (yz59118.1 _ 3 (Or.inr (by decide)) (Or.inr (by decide))).trans pf0
        have pf1 := (yz59118.1 _ 17 (Or.inr (by decide)) (Or.inr (by decide))).trans pf1
        have hfr : (∀ b j : Nat, (tag b ≠ 46 ∨ j ≠ 0) → (tag b ≠ 46 ∨ j ≠ 1) → (tag b ≠ 46 ∨ j ≠ 2) → (tag b ≠ 46 ∨ j ≠ 22) → (tag b ≠ 46 ∨ j ≠ 23) → fld F b j = fld Fo b j) ∧ (∀ b j : Nat, tag b ≠ 37 → elm F b j = elm Fo b j) := ⟨fun b j n46_0 n46_1 n46_2 n46_22 n46_23 => (yz59118.1 b j n46_1 n46_2).trans (hfr.1 b j n46_0 n46_1 n46_2 n46_22 n46_23), fun b j a37 => (yz59118.2 b j ).trans (hfr.2 b j a37)⟩
        exact t_iret hQ X hT (⟨rg_all _, hfr⟩) (Nat.le_of_ble_eq_true rfl) (Nat.le_of_ble_eq_true rfl) dX13_room_75
      · have w59119 := cv_ne (rfl : z59115.toInt = z59115.toInt) (by decide : (0 : Int32).toInt = 0) c59116
        have w59120 := xz59115_0 (by omega)
        refine lv_aload_n hx hb dX13_room_37 rfl (lv_at hl 0 rfl) ?_
        refine t_get (C := RX13) (T := TX13) (N := 37) X hT m0 g0 rfl rfl 17 (by decide) qw_113 inlX13 rfl dX13_room_38 (fun v59121 hv59121 ov59121 => ?_)
        obtain rfl : v59121 = .ref x1 := hv59121.symm.trans pf1
        refine lv_iload_n hx hb dX13_room_41 rfl (lv_at hl 1 rfl) ?_
        refine lv_aload_n hx hb dX13_room_42 rfl (lv_at hl 0 rfl) ?_
        refine t_get (C := RX13) (T := TX13) (N := 37) X hT m0 g0 rfl rfl 3 (by decide) qw_481 inlX13 rfl dX13_room_43 (fun v59122 hv59122 ov59122 => ?_)
        obtain rfl : v59122 = .ref x0 := hv59122.symm.trans pf0
        refine t_getN (C := RX12) (T := TX12) (N := 31) X hT mx0 gx0 rfl rfl 22 (by decide) (List.mem_of_getElem? (i := 26) rfl) inlX12 rfl dX13_room_46 (fun v59123 hv59123 ov59123 => ?_)
        obtain ⟨b59124, rfl, mb59124, gb59124⟩ := okV_r ov59123
        have gb59124 : tag b59124 = 31 := tg_of gb59124
        refine lv_iload_n hx hb dX13_room_49 rfl (lv_at hl 1 rfl) ?_
        refine t_ild X hT mb59124 gb59124 rfl (by omega) dX13_room_50 (fun z59125 vz59125 rz59125 => ?_)
        have rz59125 : 0 ≤ z59125.toInt ∧ z59125.toInt ≤ 3 := rz59125
        refine lv_aload_n hx hb dX13_room_51 rfl (lv_at hl 0 rfl) ?_
        refine t_get (C := RX13) (T := TX13) (N := 37) X hT m0 g0 rfl rfl 22 (by decide) qw_932 inlX13 rfl dX13_room_52 (fun v59126 hv59126 ov59126 => ?_)
        obtain ⟨z59127, rfl, rz59127⟩ := okV_i ov59126
        refine lv_aload_n hx hb dX13_room_55 rfl (lv_at hl 0 rfl) ?_
        refine t_get (C := RX13) (T := TX13) (N := 37) X hT m0 g0 rfl rfl 23 (by decide) qw_933 inlX13 rfl dX13_room_56 (fun v59128 hv59128 ov59128 => ?_)
        obtain ⟨z59129, rfl, rz59129⟩ := okV_i ov59128
        refine lv_iconst (v := 0) hx hb dX13_room_59 (by decide) ?_
        refine lv_iconst (v := 0) hx hb dX13_room_60 (by decide) ?_
        refine t_cSv (n := 7) (As := [.ref x1, .int p1, .int z59125, .int z59127, .int z59129, .int 0, .int 0]) (rest := []) X hT (km50_X13_adds l G tag L F hT.2.2.2 x1 p1 z59125 z59127 z59129 0 0 z59113 mx1 gx1 (by omega) (by omega) (by omega) qz59113) qw_658 qw_659 qw_5 qw_660 ⟨by decide +kernel, by decide +kernel, by decide +kernel⟩ ⟨Nat.le_of_ble_eq_true rfl, Nat.le_of_ble_eq_true rfl⟩ hl rfl rfl (Nat.le_of_ble_eq_true rfl) dX13_room_61 ⟨Nat.le_of_ble_eq_true rfl, Nat.le_of_ble_eq_true rfl⟩ (fun F H locs hT hz59130 => ?_)
        obtain ⟨yz59130, xz59130_0⟩ := hz59130
        have qz59112 := (yz59130.1 _ 0 ).trans qz59112
        have pf0 := (yz59130.1 _ 3 ).trans pf0
        have pf1 := (yz59130.1 _ 17 ).trans pf1
        have hv59123 := (yz59130.1 _ 22 ).trans hv59123
        have vz59125 := (yz59130.2 _ _ (by rw [gb59124]; decide)).trans vz59125
        have hv59126 := (yz59130.1 _ 22 ).trans hv59126
        have hv59128 := (yz59130.1 _ 23 ).trans hv59128
        have hfr : (∀ b j : Nat, (tag b ≠ 46 ∨ j ≠ 0) → (tag b ≠ 46 ∨ j ≠ 1) → (tag b ≠ 46 ∨ j ≠ 2) → (tag b ≠ 46 ∨ j ≠ 22) → (tag b ≠ 46 ∨ j ≠ 23) → fld F b j = fld Fo b j) ∧ (∀ b j : Nat, tag b ≠ 37 → elm F b j = elm Fo b j) := ⟨fun b j n46_0 n46_1 n46_2 n46_22 n46_23 => (yz59130.1 b j ).trans (hfr.1 b j n46_0 n46_1 n46_2 n46_22 n46_23), fun b j a37 => (yz59130.2 b j a37).trans (hfr.2 b j a37)⟩
        obtain ⟨z59131, qz59131, hz59131⟩ := xz59130_0
        have rz59131 : 1 ≤ z59131.toInt ∧ z59131.toInt ≤ 6 := by omega
        obtain ⟨z59132, ez59132⟩ : ∃ y : Int32, y = z59111 + 1 := ⟨_, rfl⟩
        have rz59132 := rg_all z59132
        refine lv_iinc (v := z59132) (lv' := [(2, .int z59132), (0, .ref p0), (1, .int p1)]) hx hb dX13_room_64 hl (k := 2) rfl (by rw [ez59132]; rfl) (by decide) rfl (fun ls hl => ?_)
        refine lv_goto (tgt := 25) hx hb dX13_room_67 (by decide) ?_
        exact ih25 z59132 z59112 z59131 _ _ _ _ (by omega) (by omega) (by omega) (by omega) hT hfr pf0 pf1 qz59112 qz59131 (lv_sub hl [1, 2, 0] rfl)
  refine lv_aload_n hx hb dX13_room_0 rfl (lv_at hl 0 rfl) ?_
  refine lv_iconst (v := 0) hx hb dX13_room_1 (by decide) ?_
  refine t_put (C := RX13) (T := TX13) (N := 37) (v := .int 0) X hT m0 g0 rfl tyX13 tyX13_ok nmX13 rfl 0 (by decide) qw_140 inlX13 rfl (by first | rfl | decide) (by first | rfl | decide) rfl (⟨_, rfl, (show (-2147483648) ≤ (0 : Int32).toInt from (by decide)), (show (0 : Int32).toInt ≤ 2147483647 from (by decide))⟩) dX13_room_2 (fun F H locs hT v59133 h1v59133 h2v59133 => ?_)
  have pf0 := (h1v59133 _ _ (Or.inr (by decide))).trans pf0
  have pf1 := (h1v59133 _ _ (Or.inr (by decide))).trans pf1
  have hfr : (∀ b j : Nat, (tag b ≠ 46 ∨ j ≠ 0) → (tag b ≠ 46 ∨ j ≠ 1) → (tag b ≠ 46 ∨ j ≠ 2) → (tag b ≠ 46 ∨ j ≠ 22) → (tag b ≠ 46 ∨ j ≠ 23) → fld F b j = fld Fo b j) ∧ (∀ b j : Nat, tag b ≠ 37 → elm F b j = elm Fo b j) := ⟨fun b j n46_0 n46_1 n46_2 n46_22 n46_23 => (h1v59133 b j (fr_ne g0 n46_0)).trans (hfr.1 b j n46_0 n46_1 n46_2 n46_22 n46_23), fun b j a37 => (h2v59133 b j).trans (hfr.2 b j a37)⟩
  refine lv_aload_n hx hb dX13_room_5 rfl (lv_at hl 0 rfl) ?_
  refine lv_iload_n hx hb dX13_room_6 rfl (lv_at hl 1 rfl) ?_
  refine t_cVi (n := 1) (C := RX13) (T := TX13) (N := 37) (As := [.int p1]) (rest := []) X hT (km107_X13_isHouse l G tag L F hT.2.2.2 p0 p1 x0 m0 g0 mx0 gx0 pf0) m0 g0 rfl rfl qw_796 qw_797 qw_798 qw_5 qw_799 ⟨rfl, by decide +kernel, by decide +kernel, by decide +kernel⟩ ⟨Nat.le_of_ble_eq_true rfl, Nat.le_of_ble_eq_true rfl⟩ hl rfl rfl (Nat.le_of_ble_eq_true rfl) dX13_room_7 ⟨Nat.le_of_ble_eq_true rfl, Nat.le_of_ble_eq_true rfl⟩ (fun z59134 F9 H locs hT hz59134 => ?_)
  obtain ⟨fz59134, hz59134⟩ := hz59134
  rw [fz59134] at hT
  obtain ⟨hz59134, iz59134⟩ := hz59134
  refine lv_if_ne (tgt := 19) hx hb dX13_room_10 (by decide) (fun c59135 => ?_) (fun c59135 => ?_)
  · have w59136 := cv_ne (rfl : z59134.toInt = z59134.toInt) (by decide : (0 : Int32).toInt = 0) c59135
    have w59137 := (fun h => (iz59134 h)) (by omega)
    refine lv_aload_n hx hb dX13_room_19 rfl (lv_at hl 0 rfl) ?_
    refine t_cVv (n := 0) (C := RX13) (T := TX13) (N := 37) (As := []) (rest := []) X hT (km176_X13_copies l G tag L F hT.2.2.2 p0 m0 g0) m0 g0 rfl rfl qw_1152 qw_1153 qw_1154 qw_5 qw_1155 ⟨rfl, by decide +kernel, by decide +kernel, by decide +kernel⟩ ⟨Nat.le_of_ble_eq_true rfl, Nat.le_of_ble_eq_true rfl⟩ hl rfl rfl (Nat.le_of_ble_eq_true rfl) dX13_room_20 ⟨Nat.le_of_ble_eq_true rfl, Nat.le_of_ble_eq_true rfl⟩ (fun F H locs hT hz59138 => ?_)
    have yz59138 := hz59138
    have pf0 := (yz59138.1 _ 3 ).trans pf0
    have pf1 := (yz59138.1 _ 17 ).trans pf1
    have v59133 := (yz59138.1 _ 0 ).trans v59133
    have hfr : (∀ b j : Nat, (tag b ≠ 46 ∨ j ≠ 0) → (tag b ≠ 46 ∨ j ≠ 1) → (tag b ≠ 46 ∨ j ≠ 2) → (tag b ≠ 46 ∨ j ≠ 22) → (tag b ≠ 46 ∨ j ≠ 23) → fld F b j = fld Fo b j) ∧ (∀ b j : Nat, tag b ≠ 37 → elm F b j = elm Fo b j) := ⟨fun b j n46_0 n46_1 n46_2 n46_22 n46_23 => (yz59138.1 b j ).trans (hfr.1 b j n46_0 n46_1 n46_2 n46_22 n46_23), fun b j a37 => (yz59138.2 b j a37).trans (hfr.2 b j a37)⟩
    refine lv_iconst (v := 0) hx hb dX13_room_23 (by decide) ?_
    refine lv_istore_n (lv' := [(2, .int 0), (0, .ref p0), (1, .int p1)]) hx hb dX13_room_24 rfl hl (by decide) rfl (fun ls hl => ?_)
    obtain ⟨z59139, qz59139, rz59139⟩ := t_elm hT mx1 gx1 rfl (i := p1) (by omega)
    have rz59139 := row_ml (by omega) rz59139
    have rz59139 : 0 ≤ z59139.toInt ∧ z59139.toInt ≤ 6 := rz59139
    have k59140 : (0 : Int32).toInt = 0 := by decide
    have k59141 : (0 : Int32).toInt = 0 := by decide
    exact K25 7 0 0 z59139 _ _ _ _ (by omega) (by decide) (by omega) (by omega) hT hfr pf0 pf1 v59133 qz59139 (lv_sub hl [1, 2, 0] rfl)
  · have w59142 := cv_eq (rfl : z59134.toInt = z59134.toInt) (by decide : (0 : Int32).toInt = 0) c59135
    refine lv_aload_n hx hb dX13_room_13 rfl (lv_at hl 0 rfl) ?_
    refine lv_iconst (v := 1) hx hb dX13_room_14 (by decide) ?_
    refine t_cVi (n := 1) (C := RX13) (T := TX13) (N := 37) (As := [.int 1]) (rest := []) X hT (km88_X13_refused l G tag L F hT.2.2.2 p0 1 m0 g0) m0 g0 rfl rfl qw_484 qw_485 qw_486 qw_5 qw_487 ⟨rfl, by decide +kernel, by decide +kernel, by decide +kernel⟩ ⟨Nat.le_of_ble_eq_true rfl, Nat.le_of_ble_eq_true rfl⟩ hl rfl rfl (Nat.le_of_ble_eq_true rfl) dX13_room_15 ⟨Nat.le_of_ble_eq_true rfl, Nat.le_of_ble_eq_true rfl⟩ (fun z59143 F H locs hT hz59143 => ?_)
    obtain ⟨hz59143, yz59143⟩ := hz59143
    have pf0 := (yz59143.1 _ 3 (Or.inr (by decide)) (Or.inr (by decide))).trans pf0
    have pf1 := (yz59143.1 _ 17 (Or.inr (by decide)) (Or.inr (by decide))).trans pf1
    have v59133 := (yz59143.1 _ 0 (Or.inr (by decide)) (Or.inr (by decide))).trans v59133
    have hfr : (∀ b j : Nat, (tag b ≠ 46 ∨ j ≠ 0) → (tag b ≠ 46 ∨ j ≠ 1) → (tag b ≠ 46 ∨ j ≠ 2) → (tag b ≠ 46 ∨ j ≠ 22) → (tag b ≠ 46 ∨ j ≠ 23) → fld F b j = fld Fo b j) ∧ (∀ b j : Nat, tag b ≠ 37 → elm F b j = elm Fo b j) := ⟨fun b j n46_0 n46_1 n46_2 n46_22 n46_23 => (yz59143.1 b j n46_1 n46_2).trans (hfr.1 b j n46_0 n46_1 n46_2 n46_22 n46_23), fun b j a37 => (yz59143.2 b j ).trans (hfr.2 b j a37)⟩
    exact t_iret hQ X hT (⟨rg_all _, hfr⟩) (Nat.le_of_ble_eq_true rfl) (Nat.le_of_ble_eq_true rfl) dX13_room_18
set_option maxHeartbeats 4000000 in
set_option maxRecDepth 100000 in
theorem km200_X13_room (l : Launch) (G : KG) (tag : Nat → Nat) (L : List Nat) (Fo : Nat → va_E) (ho : okT G ttC tag L Fo) (p0 : Nat) (p1 : Int32) (x1 : Nat) (m0 : p0 ∈ L) (g0 : tag p0 = 46) (pf0 : fld Fo p0 3 = .null) (mx1 : x1 ∈ L) (gx1 : tag x1 = 37) (pf1 : fld Fo p0 17 = .ref x1) : TMi l yX13_room cX13_room 3 (some .int) { frames := 5, cells := 0, slots := 0, locals := 125 } G ttC tag L Fo [.ref p0, .int p1] (fun r F1 => ((-2147483648) ≤ r.toInt ∧ r.toInt ≤ 2147483647) ∧ ((∀ b j : Nat, (tag b ≠ 46 ∨ j ≠ 0) → (tag b ≠ 46 ∨ j ≠ 1) → (tag b ≠ 46 ∨ j ≠ 2) → (tag b ≠ 46 ∨ j ≠ 22) → (tag b ≠ 46 ∨ j ≠ 23) → fld F1 b j = fld Fo b j) ∧ (∀ b j : Nat, tag b ≠ 37 → elm F1 b j = elm Fo b j))) := by
  refine t_bodyi (y := yX13_room) (cd := cX13_room) (mL := 3) (rt := (some .int)) (rm := { frames := 5, cells := 0, slots := 0, locals := 125 }) (av := [.ref p0, .int p1]) (by decide) (Nat.le_of_ble_eq_true rfl) ho ?_
  intro p e s m args below meth c ls A Q hQ X hT hl
  have hx := X.1.1
  have hb := X.1.2.1
  have hl : lv_has ls 3 [(0, .ref p0), (1, .int p1)] := hl
  have rp1 := rg_all p1
  obtain ⟨F, hFo⟩ : ∃ F : Nat → va_E, F = Fo := ⟨_, rfl⟩
  rw [← hFo] at hT pf0 pf1
  have hfr : (∀ b j : Nat, (tag b ≠ 46 ∨ j ≠ 0) → (tag b ≠ 46 ∨ j ≠ 1) → (tag b ≠ 46 ∨ j ≠ 2) → (tag b ≠ 46 ∨ j ≠ 22) → (tag b ≠ 46 ∨ j ≠ 23) → fld F b j = fld Fo b j) ∧ (∀ b j : Nat, tag b ≠ 37 → elm F b j = elm Fo b j) := by
    rw [hFo]
    exact ⟨by intros; rfl, by intros; rfl⟩
  refine lv_aload_n hx hb dX13_room_0 rfl (lv_at hl 0 rfl) ?_
  refine lv_iconst (v := 0) hx hb dX13_room_1 (by decide) ?_
  refine t_put (C := RX13) (T := TX13) (N := 37) (v := .int 0) X hT m0 g0 rfl tyX13 tyX13_ok nmX13 rfl 0 (by decide) qw_140 inlX13 rfl (by first | rfl | decide) (by first | rfl | decide) rfl (⟨_, rfl, (show (-2147483648) ≤ (0 : Int32).toInt from (by decide)), (show (0 : Int32).toInt ≤ 2147483647 from (by decide))⟩) dX13_room_2 (fun F H locs hT v59210 h1v59210 h2v59210 => ?_)
  have pf0 := (h1v59210 _ _ (Or.inr (by decide))).trans pf0
  have pf1 := (h1v59210 _ _ (Or.inr (by decide))).trans pf1
  have hfr : (∀ b j : Nat, (tag b ≠ 46 ∨ j ≠ 0) → (tag b ≠ 46 ∨ j ≠ 1) → (tag b ≠ 46 ∨ j ≠ 2) → (tag b ≠ 46 ∨ j ≠ 22) → (tag b ≠ 46 ∨ j ≠ 23) → fld F b j = fld Fo b j) ∧ (∀ b j : Nat, tag b ≠ 37 → elm F b j = elm Fo b j) := ⟨fun b j n46_0 n46_1 n46_2 n46_22 n46_23 => (h1v59210 b j (fr_ne g0 n46_0)).trans (hfr.1 b j n46_0 n46_1 n46_2 n46_22 n46_23), fun b j a37 => (h2v59210 b j).trans (hfr.2 b j a37)⟩
  refine lv_aload_n hx hb dX13_room_5 rfl (lv_at hl 0 rfl) ?_
  refine lv_iload_n hx hb dX13_room_6 rfl (lv_at hl 1 rfl) ?_
  refine t_cVi (n := 1) (C := RX13) (T := TX13) (N := 37) (As := [.int p1]) (rest := []) X hT (km116_X13_isHouse l G tag L F hT.2.2.2 p0 p1 m0 g0 pf0) m0 g0 rfl rfl qw_796 qw_797 qw_798 qw_5 qw_799 ⟨rfl, by decide +kernel, by decide +kernel, by decide +kernel⟩ ⟨Nat.le_of_ble_eq_true rfl, Nat.le_of_ble_eq_true rfl⟩ hl rfl rfl (Nat.le_of_ble_eq_true rfl) dX13_room_7 ⟨Nat.le_of_ble_eq_true rfl, Nat.le_of_ble_eq_true rfl⟩ (fun z59211 F9 H locs hT hz59211 => ?_)
  obtain ⟨fz59211, hz59211⟩ := hz59211
  rw [fz59211] at hT
  refine lv_if_ne (tgt := 19) hx hb dX13_room_10 (by decide) (fun c59212 => ?_) (fun c59212 => ?_)
  · have w59213 := cv_ne (rfl : z59211.toInt = z59211.toInt) (by decide : (0 : Int32).toInt = 0) c59212
    exfalso
    omega
  · have w59214 := cv_eq (rfl : z59211.toInt = z59211.toInt) (by decide : (0 : Int32).toInt = 0) c59212
    refine lv_aload_n hx hb dX13_room_13 rfl (lv_at hl 0 rfl) ?_
    refine lv_iconst (v := 1) hx hb dX13_room_14 (by decide) ?_
    refine t_cVi (n := 1) (C := RX13) (T := TX13) (N := 37) (As := [.int 1]) (rest := []) X hT (km88_X13_refused l G tag L F hT.2.2.2 p0 1 m0 g0) m0 g0 rfl rfl qw_484 qw_485 qw_486 qw_5 qw_487 ⟨rfl, by decide +kernel, by decide +kernel, by decide +kernel⟩ ⟨Nat.le_of_ble_eq_true rfl, Nat.le_of_ble_eq_true rfl⟩ hl rfl rfl (Nat.le_of_ble_eq_true rfl) dX13_room_15 ⟨Nat.le_of_ble_eq_true rfl, Nat.le_of_ble_eq_true rfl⟩ (fun z59215 F H locs hT hz59215 => ?_)
    obtain ⟨hz59215, yz59215⟩ := hz59215
    have pf0 := (yz59215.1 _ 3 (Or.inr (by decide)) (Or.inr (by decide))).trans pf0
    have pf1 := (yz59215.1 _ 17 (Or.inr (by decide)) (Or.inr (by decide))).trans pf1
    have v59210 := (yz59215.1 _ 0 (Or.inr (by decide)) (Or.inr (by decide))).trans v59210
    have hfr : (∀ b j : Nat, (tag b ≠ 46 ∨ j ≠ 0) → (tag b ≠ 46 ∨ j ≠ 1) → (tag b ≠ 46 ∨ j ≠ 2) → (tag b ≠ 46 ∨ j ≠ 22) → (tag b ≠ 46 ∨ j ≠ 23) → fld F b j = fld Fo b j) ∧ (∀ b j : Nat, tag b ≠ 37 → elm F b j = elm Fo b j) := ⟨fun b j n46_0 n46_1 n46_2 n46_22 n46_23 => (yz59215.1 b j n46_1 n46_2).trans (hfr.1 b j n46_0 n46_1 n46_2 n46_22 n46_23), fun b j a37 => (yz59215.2 b j ).trans (hfr.2 b j a37)⟩
    exact t_iret hQ X hT (⟨rg_all _, hfr⟩) (Nat.le_of_ble_eq_true rfl) (Nat.le_of_ble_eq_true rfl) dX13_room_18
theorem kp_X13_room (l : Launch) (G : KG) (tag : Nat → Nat) (L : List Nat) (Fo : Nat → va_E) (ho : okT G ttC tag L Fo) (p0 : Nat) (p1 : Int32) (m0 : p0 ∈ L) (g0 : tag p0 = 46) : TMi l yX13_room cX13_room 3 (some .int) { frames := 5, cells := 0, slots := 0, locals := 125 } G ttC tag L Fo [.ref p0, .int p1] (fun r F1 => ((-2147483648) ≤ r.toInt ∧ r.toInt ≤ 2147483647) ∧ ((∀ b j : Nat, (tag b ≠ 46 ∨ j ≠ 0) → (tag b ≠ 46 ∨ j ≠ 1) → (tag b ≠ 46 ∨ j ≠ 2) → (tag b ≠ 46 ∨ j ≠ 22) → (tag b ≠ 46 ∨ j ≠ 23) → fld F1 b j = fld Fo b j) ∧ (∀ b j : Nat, tag b ≠ 37 → elm F1 b j = elm Fo b j))) := by
  obtain ⟨e1, qe1, me1, ge1⟩ := t_fldo ho m0 g0 rfl 17 rfl
  rcases t_fldn ho m0 g0 rfl 3 rfl with h9 | ⟨b9, h9, m9, t9⟩
  · exact km200_X13_room l G tag L Fo ho p0 p1 e1 m0 g0 h9 me1 (tg_of ge1) qe1
  · exact km199_X13_room l G tag L Fo ho p0 p1 b9 e1 m0 g0 m9 (tg_of t9) h9 me1 (tg_of ge1) qe1
set_option maxHeartbeats 4000000 in
set_option maxRecDepth 100000 in
theorem km202_X13_swaps (l : Launch) (G : KG) (tag : Nat → Nat) (L : List Nat) (Fo : Nat → va_E) (ho : okT G ttC tag L Fo) (p0 : Nat) (p1 : Int32) (p2 : Int32) (m0 : p0 ∈ L) (g0 : tag p0 = 40) (h1 : 0 ≤ p1.toInt ∧ p1.toInt ≤ 3) (h2 : 0 ≤ p2.toInt ∧ p2.toInt ≤ 3) : TMv l yX13_swaps cX13_swaps 4 { frames := 0, cells := 0, slots := 0, locals := 0 } G ttC tag L Fo [.ref p0, .int p1, .int p2] (fun F1 => ((∀ b j : Nat, fld F1 b j = fld Fo b j) ∧ (∀ b j : Nat, tag b ≠ 40 → elm F1 b j = elm Fo b j)) ∧ (SWP Fo F1 p0 p1.toNatClampNeg p2.toNatClampNeg)) := by
  refine t_bodyv (y := yX13_swaps) (cd := cX13_swaps) (mL := 4) (rm := { frames := 0, cells := 0, slots := 0, locals := 0 }) (av := [.ref p0, .int p1, .int p2]) (by decide) (Nat.le_of_ble_eq_true rfl) ho ?_
  intro p e s m args below meth c ls A Q hQ X hT hl
  have hx := X.1.1
  have hb := X.1.2.1
  have hl : lv_has ls 4 [(0, .ref p0), (1, .int p1), (2, .int p2)] := hl
  obtain ⟨F, hFo⟩ : ∃ F : Nat → va_E, F = Fo := ⟨_, rfl⟩
  rw [← hFo] at hT
  have hfr : (∀ b j : Nat, fld F b j = fld Fo b j) ∧ (∀ b j : Nat, tag b ≠ 40 → elm F b j = elm Fo b j) := by
    rw [hFo]
    exact ⟨by intros; rfl, by intros; rfl⟩
  have hgh : ∀ k : Nat, elm F p0 k = elm Fo p0 k := fun k => by rw [hFo]
  refine lv_aload_n hx hb dX13_swaps_0 rfl (lv_at hl 0 rfl) ?_
  refine lv_iload_n hx hb dX13_swaps_1 rfl (lv_at hl 1 rfl) ?_
  refine t_ild X hT m0 g0 rfl (by omega) dX13_swaps_2 (fun z59359 vz59359 rz59359 => ?_)
  have gz59359 := vz59359.symm.trans (hgh _)
  have rz59359 : 0 ≤ z59359.toInt ∧ z59359.toInt ≤ 3 := rz59359
  refine lv_istore_n (lv' := [(3, .int z59359), (0, .ref p0), (1, .int p1), (2, .int p2)]) hx hb dX13_swaps_3 rfl hl (by decide) rfl (fun ls hl => ?_)
  refine lv_aload_n hx hb dX13_swaps_4 rfl (lv_at hl 1 rfl) ?_
  refine lv_iload_n hx hb dX13_swaps_5 rfl (lv_at hl 2 rfl) ?_
  refine lv_aload_n hx hb dX13_swaps_6 rfl (lv_at hl 1 rfl) ?_
  refine lv_iload_n hx hb dX13_swaps_7 rfl (lv_at hl 3 rfl) ?_
  refine t_ild X hT m0 g0 rfl (by omega) dX13_swaps_8 (fun z59360 vz59360 rz59360 => ?_)
  have gz59360 := vz59360.symm.trans (hgh _)
  have rz59360 : 0 ≤ z59360.toInt ∧ z59360.toInt ≤ 3 := rz59360
  refine t_ist X hT m0 g0 rfl (by omega) (show 0 ≤ (z59360 : Int32).toInt ∧ (z59360 : Int32).toInt ≤ 3 from (by omega)) dX13_swaps_9 (fun F H locs hT v59361 h1v59361 h2v59361 => ?_)
  have hgh : ∀ k : Nat, elm F p0 k = if k = p1.toNatClampNeg then z59360 else elm Fo p0 k := fun k => by
    by_cases h9 : k = p1.toNatClampNeg
    · rw [if_pos h9, h9]; exact v59361
    · rw [if_neg h9]; exact (h1v59361 _ _ (Or.inr h9)).trans (hgh k)
  have hfr : (∀ b j : Nat, fld F b j = fld Fo b j) ∧ (∀ b j : Nat, tag b ≠ 40 → elm F b j = elm Fo b j) := ⟨fun b j  => (h2v59361 b j).trans (hfr.1 b j ), fun b j a40 => (h1v59361 b j (Or.inl (at_ne g0 a40))).trans (hfr.2 b j a40)⟩
  refine lv_aload_n hx hb dX13_swaps_10 rfl (lv_at hl 1 rfl) ?_
  refine lv_iload_n hx hb dX13_swaps_11 rfl (lv_at hl 3 rfl) ?_
  refine lv_iload_n hx hb dX13_swaps_12 rfl (lv_at hl 0 rfl) ?_
  refine t_ist X hT m0 g0 rfl (by omega) (show 0 ≤ (z59359 : Int32).toInt ∧ (z59359 : Int32).toInt ≤ 3 from (by omega)) dX13_swaps_13 (fun F H locs hT v59362 h1v59362 h2v59362 => ?_)
  have hgh : ∀ k : Nat, elm F p0 k = if k = p2.toNatClampNeg then z59359 else (if k = p1.toNatClampNeg then z59360 else elm Fo p0 k) := fun k => by
    by_cases h9 : k = p2.toNatClampNeg
    · rw [if_pos h9, h9]; exact v59362
    · rw [if_neg h9]; exact (h1v59362 _ _ (Or.inr h9)).trans (hgh k)
  have hfr : (∀ b j : Nat, fld F b j = fld Fo b j) ∧ (∀ b j : Nat, tag b ≠ 40 → elm F b j = elm Fo b j) := ⟨fun b j  => (h2v59362 b j).trans (hfr.1 b j ), fun b j a40 => (h1v59362 b j (Or.inl (at_ne g0 a40))).trans (hfr.2 b j a40)⟩
  exact t_vret hQ X hT ⟨hfr, (fun k => by rw [hgh k, gz59359, gz59360])⟩ (Nat.le_of_ble_eq_true rfl) (Nat.le_of_ble_eq_true rfl) dX13_swaps_14
set_option maxHeartbeats 4000000 in
set_option maxRecDepth 100000 in
theorem km203_X13_turns (l : Launch) (G : KG) (tag : Nat → Nat) (L : List Nat) (Fo : Nat → va_E) (ho : okT G ttC tag L Fo) (p0 : Nat) (p1 : Int32) (lx : Int) (m0 : p0 ∈ L) (g0 : tag p0 = 40) (h1 : 0 ≤ p1.toInt ∧ p1.toInt ≤ 4) (xh0 : CAR Fo p0 4 lx) : TMi l yX13_turns cX13_turns 6 (some .boolean) { frames := 1, cells := 0, slots := 0, locals := 23 } G ttC tag L Fo [.ref p0, .int p1] (fun r F1 => (0 ≤ r.toInt ∧ r.toInt ≤ 1) ∧ ((∀ b j : Nat, fld F1 b j = fld Fo b j) ∧ (∀ b j : Nat, tag b ≠ 40 → elm F1 b j = elm Fo b j)) ∧ (r.toInt ≠ 0 → ∃ lx9 : Int, CAR F1 p0 4 lx9 ∧ lx < lx9)) := by
  refine t_bodyi (y := yX13_turns) (cd := cX13_turns) (mL := 6) (rt := (some .boolean)) (rm := { frames := 1, cells := 0, slots := 0, locals := 23 }) (av := [.ref p0, .int p1]) (by decide) (Nat.le_of_ble_eq_true rfl) ho ?_
  intro p e s m args below meth c ls A Q hQ X hT hl
  have hx := X.1.1
  have hb := X.1.2.1
  have hl : lv_has ls 6 [(0, .ref p0), (1, .int p1)] := hl
  obtain ⟨F, hFo⟩ : ∃ F : Nat → va_E, F = Fo := ⟨_, rfl⟩
  rw [← hFo] at hT
  have hfr : (∀ b j : Nat, fld F b j = fld Fo b j) ∧ (∀ b j : Nat, tag b ≠ 40 → elm F b j = elm Fo b j) := by
    rw [hFo]
    exact ⟨by intros; rfl, by intros; rfl⟩
  have K66 : ∀ (n : Nat) (z59741 : Int32) (z59742 : Int32) (z59743 : Int32) (z59744 : Int32) (F : Nat → va_E) (H : Heap) (locs : List Loc) (ls : Array Slot), (3 - z59743.toInt < (n : Int)) → (0 ≤ z59741.toInt ∧ z59741.toInt ≤ 2) → (1 ≤ z59742.toInt ∧ z59742.toInt ≤ 3) → (1 ≤ z59743.toInt ∧ z59743.toInt ≤ 3) → ((-1) ≤ z59744.toInt ∧ z59744.toInt ≤ 3) → TH G ttC A s tag L F H locs → ((∀ b j : Nat, fld F b j = fld Fo b j) ∧ (∀ b j : Nat, tag b ≠ 40 → elm F b j = elm Fo b j)) → (DJ F p0 4) → (∀ k : Nat, k < z59741.toNatClampNeg → elm F p0 k = elm Fo p0 k) → ((elm Fo p0 z59741.toNatClampNeg).toInt < (elm F p0 z59741.toNatClampNeg).toInt) → (z59741.toInt + 1 ≤ z59743.toInt) → lv_has ls 6 [(0, .ref p0), (1, .int p1), (2, .int z59741), (3, .int z59742), (4, .int z59743), (5, .int z59744)] → W p l e { frames := 1, cells := 0, slots := 0, locals := 23 } s m args below meth c H locs 0 0 Q (F0 m 66 ls []) := by
    intro n
    induction n with
    | zero =>
      intro z59741 z59742 z59743 z59744 F H locs ls hn rz59741 rz59742 rz59743 rz59744 hT hfr ex66_0 ex66_1 ex66_2 ex66_3 hl
      exfalso
      omega
    | succ n ih66 =>
      intro z59741 z59742 z59743 z59744 F H locs ls hn rz59741 rz59742 rz59743 rz59744 hT hfr ex66_0 ex66_1 ex66_2 ex66_3 hl
      refine lv_iload hx hb dX13_turns_66 (lv_at hl 4 rfl) ?_
      refine lv_iload hx hb dX13_turns_68 (lv_at hl 5 rfl) ?_
      refine lv_icmp_ge (tgt := 90) hx hb dX13_turns_70 (by decide) (fun c59745 => ?_) (fun c59745 => ?_)
      · have w59746 := cv_le (rfl : z59744.toInt = z59744.toInt) (rfl : z59743.toInt = z59743.toInt) c59745
        refine lv_iconst (v := 1) hx hb dX13_turns_90 (by decide) ?_
        have k59747 : (1 : Int32).toInt = 1 := by decide
        exact t_zret hQ X hT (by decide) (⟨(by decide), hfr, (fun _ => tj_end (N := 4) (i := z59741) xh0 (t_rng hT m0 g0 rfl (by decide) (by decide)) ex66_0 ex66_1 ex66_2 (by omega) (by omega))⟩) (Nat.le_of_ble_eq_true rfl) (Nat.le_of_ble_eq_true rfl) dX13_turns_91
      · have w59748 := cv_nle (rfl : z59744.toInt = z59744.toInt) (rfl : z59743.toInt = z59743.toInt) c59745
        refine lv_aload_n hx hb dX13_turns_73 rfl (lv_at hl 0 rfl) ?_
        refine lv_iload hx hb dX13_turns_74 (lv_at hl 4 rfl) ?_
        refine lv_iload hx hb dX13_turns_76 (lv_at hl 5 rfl) ?_
        refine t_cSv (n := 3) (As := [.ref p0, .int z59743, .int z59744]) (rest := []) X hT (km202_X13_swaps l G tag L F hT.2.2.2 p0 z59743 z59744 m0 g0 (by omega) (by omega)) qw_1265 qw_1266 qw_5 qw_1267 ⟨by decide +kernel, by decide +kernel, by decide +kernel⟩ ⟨Nat.le_of_ble_eq_true rfl, Nat.le_of_ble_eq_true rfl⟩ hl rfl rfl (Nat.le_of_ble_eq_true rfl) dX13_turns_78 ⟨Nat.le_of_ble_eq_true rfl, Nat.le_of_ble_eq_true rfl⟩ (fun F H locs hT hz59749 => ?_)
        obtain ⟨yz59749, xz59749_0⟩ := hz59749
        have hfr : (∀ b j : Nat, fld F b j = fld Fo b j) ∧ (∀ b j : Nat, tag b ≠ 40 → elm F b j = elm Fo b j) := ⟨fun b j  => (yz59749.1 b j ).trans (hfr.1 b j ), fun b j a40 => (yz59749.2 b j a40).trans (hfr.2 b j a40)⟩
        have htj := tj_lp (N := 4) (i := z59741) ex66_0 ex66_1 ex66_2 xz59749_0 (by omega) (by omega) (by omega) (by omega)
        obtain ⟨z59750, ez59750⟩ : ∃ y : Int32, y = z59743 + 1 := ⟨_, rfl⟩
        have hz59750 : z59750.toInt = z59743.toInt + 1 := ar_add ez59750 rfl (by decide : (1 : Int32).toInt = 1) (by omega) (by omega)
        refine lv_iinc (v := z59750) (lv' := [(4, .int z59750), (0, .ref p0), (1, .int p1), (2, .int z59741), (3, .int z59742), (5, .int z59744)]) hx hb dX13_turns_81 hl (k := 4) rfl (by rw [ez59750]; rfl) (by decide) rfl (fun ls hl => ?_)
        obtain ⟨z59751, ez59751⟩ : ∃ y : Int32, y = z59744 + (-1) := ⟨_, rfl⟩
        have hz59751 : z59751.toInt = z59744.toInt + (-1) := ar_add ez59751 rfl (by decide : ((-1) : Int32).toInt = (-1)) (by omega) (by omega)
        refine lv_iinc (v := z59751) (lv' := [(5, .int z59751), (4, .int z59750), (0, .ref p0), (1, .int p1), (2, .int z59741), (3, .int z59742)]) hx hb dX13_turns_84 hl (k := 5) rfl (by rw [ez59751]; rfl) (by decide) rfl (fun ls hl => ?_)
        refine lv_goto (tgt := 66) hx hb dX13_turns_87 (by decide) ?_
        exact ih66 z59741 z59742 z59750 z59751 _ _ _ _ (by omega) (by omega) (by omega) (by omega) (by omega) hT hfr htj.1 htj.2.1 htj.2.2 (by omega) (lv_sub hl [2, 3, 4, 5, 1, 0] rfl)
  have K35 : ∀ (n : Nat) (z59752 : Int32) (z59753 : Int32) (F : Nat → va_E) (H : Heap) (locs : List Loc) (ls : Array Slot), (z59753.toInt - 0 < (n : Int)) → (0 ≤ z59752.toInt ∧ z59752.toInt ≤ 2) → ((-1) ≤ z59753.toInt ∧ z59753.toInt ≤ 3) → TH G ttC A s tag L F H locs → ((∀ b j : Nat, fld F b j = fld Fo b j) ∧ (∀ b j : Nat, tag b ≠ 40 → elm F b j = elm Fo b j)) → (∀ k : Nat, elm F p0 k = elm Fo p0 k) → (z59752.toInt + 1 ≤ z59753.toInt) → ((elm Fo p0 z59752.toNatClampNeg).toInt ≤ (elm Fo p0 (z59752.toNatClampNeg + 1)).toInt) → lv_has ls 6 [(0, .ref p0), (1, .int p1), (2, .int z59752), (3, .int z59753)] → W p l e { frames := 1, cells := 0, slots := 0, locals := 23 } s m args below meth c H locs 0 0 Q (F0 m 35 ls []) := by
    intro n
    induction n with
    | zero =>
      intro z59752 z59753 F H locs ls hn rz59752 rz59753 hT hfr ex35_0 ex35_1 ex35_2 hl
      exfalso
      omega
    | succ n ih35 =>
      intro z59752 z59753 F H locs ls hn rz59752 rz59753 hT hfr ex35_0 ex35_1 ex35_2 hl
      have w59754 : 1 ≤ z59753.toInt ∧ z59753.toInt ≤ 3 := by omega
      refine lv_aload_n hx hb dX13_turns_35 rfl (lv_at hl 0 rfl) ?_
      refine lv_iload_n hx hb dX13_turns_36 rfl (lv_at hl 3 rfl) ?_
      refine t_ild X hT m0 g0 rfl (by omega) dX13_turns_37 (fun z59755 vz59755 rz59755 => ?_)
      have rz59755 : 0 ≤ z59755.toInt ∧ z59755.toInt ≤ 3 := rz59755
      refine lv_aload_n hx hb dX13_turns_38 rfl (lv_at hl 0 rfl) ?_
      refine lv_iload_n hx hb dX13_turns_39 rfl (lv_at hl 2 rfl) ?_
      refine t_ild X hT m0 g0 rfl (by omega) dX13_turns_40 (fun z59756 vz59756 rz59756 => ?_)
      have rz59756 : 0 ≤ z59756.toInt ∧ z59756.toInt ≤ 3 := rz59756
      refine lv_icmp_ge (tgt := 50) hx hb dX13_turns_41 (by decide) (fun c59757 => ?_) (fun c59757 => ?_)
      · have w59758 := cv_le (rfl : z59756.toInt = z59756.toInt) (rfl : z59755.toInt = z59755.toInt) c59757
        refine lv_aload_n hx hb dX13_turns_50 rfl (lv_at hl 0 rfl) ?_
        refine lv_iload_n hx hb dX13_turns_51 rfl (lv_at hl 2 rfl) ?_
        refine lv_iload_n hx hb dX13_turns_52 rfl (lv_at hl 3 rfl) ?_
        refine t_cSv (n := 3) (As := [.ref p0, .int z59752, .int z59753]) (rest := []) X hT (km202_X13_swaps l G tag L F hT.2.2.2 p0 z59752 z59753 m0 g0 (by omega) (by omega)) qw_1265 qw_1266 qw_5 qw_1267 ⟨by decide +kernel, by decide +kernel, by decide +kernel⟩ ⟨Nat.le_of_ble_eq_true rfl, Nat.le_of_ble_eq_true rfl⟩ hl rfl rfl (Nat.le_of_ble_eq_true rfl) dX13_turns_53 ⟨Nat.le_of_ble_eq_true rfl, Nat.le_of_ble_eq_true rfl⟩ (fun F H locs hT hz59759 => ?_)
        obtain ⟨yz59759, xz59759_0⟩ := hz59759
        have hfr : (∀ b j : Nat, fld F b j = fld Fo b j) ∧ (∀ b j : Nat, tag b ≠ 40 → elm F b j = elm Fo b j) := ⟨fun b j  => (yz59759.1 b j ).trans (hfr.1 b j ), fun b j a40 => (yz59759.2 b j a40).trans (hfr.2 b j a40)⟩
        have htj := tj_in (N := 4) ex35_0 xh0 xz59759_0 (by omega) (by omega) (by omega) vz59756 vz59755 (by omega)
        refine lv_iload_n hx hb dX13_turns_56 rfl (lv_at hl 2 rfl) ?_
        refine lv_iconst (v := 1) hx hb dX13_turns_57 (by decide) ?_
        refine lv_iadd hx hb dX13_turns_58 ?_
        refine lv_topi (fun z59760 ez59760 => ?_)
        have hz59760 : z59760.toInt = z59752.toInt + 1 := ar_add ez59760 (rfl : z59752.toInt = z59752.toInt) (by decide : (1 : Int32).toInt = 1) (by omega) (by omega)
        have rz59760 : 1 ≤ z59760.toInt ∧ z59760.toInt ≤ 3 := by omega
        refine lv_istore (lv' := [(4, .int z59760), (0, .ref p0), (1, .int p1), (2, .int z59752), (3, .int z59753)]) hx hb dX13_turns_59 hl (by decide) rfl (fun ls hl => ?_)
        refine lv_iload_n hx hb dX13_turns_61 rfl (lv_at hl 2 rfl) ?_
        refine lv_iconst (v := 1) hx hb dX13_turns_62 (by decide) ?_
        refine lv_isub hx hb dX13_turns_63 ?_
        refine lv_topi (fun z59761 ez59761 => ?_)
        have hz59761 : z59761.toInt = p1.toInt - 1 := ar_sub ez59761 (rfl : p1.toInt = p1.toInt) (by decide : (1 : Int32).toInt = 1) (by omega) (by omega)
        have rz59761 : (-1) ≤ z59761.toInt ∧ z59761.toInt ≤ 3 := by omega
        refine lv_istore (lv' := [(5, .int z59761), (4, .int z59760), (0, .ref p0), (1, .int p1), (2, .int z59752), (3, .int z59753)]) hx hb dX13_turns_64 hl (by decide) rfl (fun ls hl => ?_)
        exact K66 3 z59752 z59753 z59760 z59761 _ _ _ _ (by omega) (by omega) (by omega) (by omega) (by omega) hT hfr htj.1 htj.2.1 htj.2.2 (by omega) (lv_sub hl [2, 3, 4, 5, 1, 0] rfl)
      · have w59762 := cv_nle (rfl : z59756.toInt = z59756.toInt) (rfl : z59755.toInt = z59755.toInt) c59757
        obtain ⟨z59763, ez59763⟩ : ∃ y : Int32, y = z59753 + (-1) := ⟨_, rfl⟩
        have hz59763 : z59763.toInt = z59753.toInt + (-1) := ar_add ez59763 rfl (by decide : ((-1) : Int32).toInt = (-1)) (by omega) (by omega)
        refine lv_iinc (v := z59763) (lv' := [(3, .int z59763), (0, .ref p0), (1, .int p1), (2, .int z59752)]) hx hb dX13_turns_44 hl (k := 3) rfl (by rw [ez59763]; rfl) (by decide) rfl (fun ls hl => ?_)
        refine lv_goto (tgt := 35) hx hb dX13_turns_47 (by decide) ?_
        exact ih35 z59752 z59763 _ _ _ _ (by omega) (by omega) (by omega) hT hfr (by first | exact ex35_0 | exact ex4_0 | exact fun k => by rw [hFo]) (by have h9 := tj_step ex35_0 vz59756 vz59755 (by omega) ex35_2 (by omega) (by omega); omega) ex35_2 (lv_sub hl [1, 2, 3, 0] rfl)
  have K4 : ∀ (n : Nat) (z59764 : Int32) (F : Nat → va_E) (H : Heap) (locs : List Loc) (ls : Array Slot), (z59764.toInt - (-1) < (n : Int)) → ((-2) ≤ z59764.toInt ∧ z59764.toInt ≤ 2) → TH G ttC A s tag L F H locs → ((∀ b j : Nat, fld F b j = fld Fo b j) ∧ (∀ b j : Nat, tag b ≠ 40 → elm F b j = elm Fo b j)) → (∀ k : Nat, elm F p0 k = elm Fo p0 k) → (z59764.toInt ≤ p1.toInt - 2) → lv_has ls 6 [(0, .ref p0), (1, .int p1), (2, .int z59764)] → W p l e { frames := 1, cells := 0, slots := 0, locals := 23 } s m args below meth c H locs 0 0 Q (F0 m 4 ls []) := by
    intro n
    induction n with
    | zero =>
      intro z59764 F H locs ls hn rz59764 hT hfr ex4_0 ex4_1 hl
      refine lv_iload_n hx hb dX13_turns_4 rfl (lv_at hl 2 rfl) ?_
      refine lv_if_lt (tgt := 25) hx hb dX13_turns_5 (by decide) (fun c59765 => ?_) (fun c59765 => ?_)
      · have w59766 := cv_lt (rfl : z59764.toInt = z59764.toInt) (by decide : (0 : Int32).toInt = 0) c59765
        refine lv_iload_n hx hb dX13_turns_25 rfl (lv_at hl 2 rfl) ?_
        refine lv_if_ge (tgt := 31) hx hb dX13_turns_26 (by decide) (fun c59767 => ?_) (fun c59767 => ?_)
        · have w59768 := cv_le (by decide : (0 : Int32).toInt = 0) (rfl : z59764.toInt = z59764.toInt) c59767
          exfalso
          omega
        · have w59769 := cv_nle (by decide : (0 : Int32).toInt = 0) (rfl : z59764.toInt = z59764.toInt) c59767
          refine lv_iconst (v := 0) hx hb dX13_turns_29 (by decide) ?_
          have k59770 : (0 : Int32).toInt = 0 := by decide
          exact t_zret hQ X hT (by decide) (⟨(by decide), hfr, (fun h9 => absurd (by decide) h9)⟩) (Nat.le_of_ble_eq_true rfl) (Nat.le_of_ble_eq_true rfl) dX13_turns_30
      · have w59771 := cv_nlt (rfl : z59764.toInt = z59764.toInt) (by decide : (0 : Int32).toInt = 0) c59765
        exfalso
        omega
    | succ n ih4 =>
      intro z59764 F H locs ls hn rz59764 hT hfr ex4_0 ex4_1 hl
      refine lv_iload_n hx hb dX13_turns_4 rfl (lv_at hl 2 rfl) ?_
      refine lv_if_lt (tgt := 25) hx hb dX13_turns_5 (by decide) (fun c59772 => ?_) (fun c59772 => ?_)
      · have w59773 := cv_lt (rfl : z59764.toInt = z59764.toInt) (by decide : (0 : Int32).toInt = 0) c59772
        refine lv_iload_n hx hb dX13_turns_25 rfl (lv_at hl 2 rfl) ?_
        refine lv_if_ge (tgt := 31) hx hb dX13_turns_26 (by decide) (fun c59774 => ?_) (fun c59774 => ?_)
        · have w59775 := cv_le (by decide : (0 : Int32).toInt = 0) (rfl : z59764.toInt = z59764.toInt) c59774
          exfalso
          omega
        · have w59776 := cv_nle (by decide : (0 : Int32).toInt = 0) (rfl : z59764.toInt = z59764.toInt) c59774
          refine lv_iconst (v := 0) hx hb dX13_turns_29 (by decide) ?_
          have k59777 : (0 : Int32).toInt = 0 := by decide
          exact t_zret hQ X hT (by decide) (⟨(by decide), hfr, (fun h9 => absurd (by decide) h9)⟩) (Nat.le_of_ble_eq_true rfl) (Nat.le_of_ble_eq_true rfl) dX13_turns_30
      · have w59778 := cv_nlt (rfl : z59764.toInt = z59764.toInt) (by decide : (0 : Int32).toInt = 0) c59772
        refine lv_aload_n hx hb dX13_turns_8 rfl (lv_at hl 0 rfl) ?_
        refine lv_iload_n hx hb dX13_turns_9 rfl (lv_at hl 2 rfl) ?_
        refine t_ild X hT m0 g0 rfl (by omega) dX13_turns_10 (fun z59779 vz59779 rz59779 => ?_)
        have rz59779 : 0 ≤ z59779.toInt ∧ z59779.toInt ≤ 3 := rz59779
        refine lv_aload_n hx hb dX13_turns_11 rfl (lv_at hl 0 rfl) ?_
        refine lv_iload_n hx hb dX13_turns_12 rfl (lv_at hl 2 rfl) ?_
        refine lv_iconst (v := 1) hx hb dX13_turns_13 (by decide) ?_
        refine lv_iadd hx hb dX13_turns_14 ?_
        refine lv_topi (fun z59780 ez59780 => ?_)
        have hz59780 : z59780.toInt = z59764.toInt + 1 := ar_add ez59780 (rfl : z59764.toInt = z59764.toInt) (by decide : (1 : Int32).toInt = 1) (by omega) (by omega)
        have rz59780 : 1 ≤ z59780.toInt ∧ z59780.toInt ≤ 3 := by omega
        refine t_ild X hT m0 g0 rfl (by omega) dX13_turns_15 (fun z59781 vz59781 rz59781 => ?_)
        have rz59781 : 0 ≤ z59781.toInt ∧ z59781.toInt ≤ 3 := rz59781
        refine lv_icmp_le (tgt := 25) hx hb dX13_turns_16 (by decide) (fun c59782 => ?_) (fun c59782 => ?_)
        · have w59783 := cv_le (rfl : z59779.toInt = z59779.toInt) (rfl : z59781.toInt = z59781.toInt) c59782
          refine lv_iload_n hx hb dX13_turns_25 rfl (lv_at hl 2 rfl) ?_
          refine lv_if_ge (tgt := 31) hx hb dX13_turns_26 (by decide) (fun c59784 => ?_) (fun c59784 => ?_)
          · have w59785 := cv_le (by decide : (0 : Int32).toInt = 0) (rfl : z59764.toInt = z59764.toInt) c59784
            refine lv_iload_n hx hb dX13_turns_31 rfl (lv_at hl 1 rfl) ?_
            refine lv_iconst (v := 1) hx hb dX13_turns_32 (by decide) ?_
            refine lv_isub hx hb dX13_turns_33 ?_
            refine lv_topi (fun z59786 ez59786 => ?_)
            have hz59786 : z59786.toInt = p1.toInt - 1 := ar_sub ez59786 (rfl : p1.toInt = p1.toInt) (by decide : (1 : Int32).toInt = 1) (by omega) (by omega)
            have rz59786 : (-1) ≤ z59786.toInt ∧ z59786.toInt ≤ 3 := by omega
            refine lv_istore_n (lv' := [(3, .int z59786), (0, .ref p0), (1, .int p1), (2, .int z59764)]) hx hb dX13_turns_34 rfl hl (by decide) rfl (fun ls hl => ?_)
            exact K35 4 z59764 z59786 _ _ _ _ (by omega) (by omega) (by omega) hT hfr (by first | exact ex35_0 | exact ex4_0 | exact fun k => by rw [hFo]) (by omega) (tj_le ex4_0 vz59779 vz59781 (by omega) (by omega) (by omega)) (lv_sub hl [1, 2, 3, 0] rfl)
          · have w59787 := cv_nle (by decide : (0 : Int32).toInt = 0) (rfl : z59764.toInt = z59764.toInt) c59784
            exfalso
            omega
        · have w59788 := cv_nle (rfl : z59779.toInt = z59779.toInt) (rfl : z59781.toInt = z59781.toInt) c59782
          obtain ⟨z59789, ez59789⟩ : ∃ y : Int32, y = z59764 + (-1) := ⟨_, rfl⟩
          have hz59789 : z59789.toInt = z59764.toInt + (-1) := ar_add ez59789 rfl (by decide : ((-1) : Int32).toInt = (-1)) (by omega) (by omega)
          refine lv_iinc (v := z59789) (lv' := [(2, .int z59789), (0, .ref p0), (1, .int p1)]) hx hb dX13_turns_19 hl (k := 2) rfl (by rw [ez59789]; rfl) (by decide) rfl (fun ls hl => ?_)
          refine lv_goto (tgt := 4) hx hb dX13_turns_22 (by decide) ?_
          exact ih4 z59789 _ _ _ _ (by omega) (by omega) hT hfr (by first | exact ex35_0 | exact ex4_0 | exact fun k => by rw [hFo]) (by omega) (lv_sub hl [1, 2, 0] rfl)
  refine lv_iload_n hx hb dX13_turns_0 rfl (lv_at hl 1 rfl) ?_
  refine lv_iconst (v := 2) hx hb dX13_turns_1 (by decide) ?_
  refine lv_isub hx hb dX13_turns_2 ?_
  refine lv_topi (fun z59790 ez59790 => ?_)
  have hz59790 : z59790.toInt = p1.toInt - 2 := ar_sub ez59790 (rfl : p1.toInt = p1.toInt) (by decide : (2 : Int32).toInt = 2) (by omega) (by omega)
  have rz59790 : (-2) ≤ z59790.toInt ∧ z59790.toInt ≤ 2 := by omega
  refine lv_istore_n (lv' := [(2, .int z59790), (0, .ref p0), (1, .int p1)]) hx hb dX13_turns_3 rfl hl (by decide) rfl (fun ls hl => ?_)
  exact K4 4 z59790 _ _ _ _ (by omega) (by omega) hT hfr (by first | exact ex35_0 | exact ex4_0 | exact fun k => by rw [hFo]) (by omega) (lv_sub hl [1, 2, 0] rfl)
