set_option maxHeartbeats 4000000 in
set_option maxRecDepth 100000 in
theorem km194_X13_meet (l : Launch) (G : KG) (tag : Nat → Nat) (L : List Nat) (Fo : Nat → va_E) (ho : okT G ttC tag L Fo) (p0 : Nat) (p1 : Int32) (p2 : Int32) (p3 : Int32) (m0 : p0 ∈ L) (g0 : tag p0 = 46) (pf0 : fld Fo p0 3 = .null) : TMi l yX13_meet cX13_meet 6 (some .int) { frames := 8, cells := 0, slots := 0, locals := 192 } G ttC tag L Fo [.ref p0, .int p1, .int p2, .int p3] (fun r F1 => ((-2147483648) ≤ r.toInt ∧ r.toInt ≤ 2147483647) ∧ ((∀ b j : Nat, (tag b ≠ 46 ∨ j ≠ 0) → (tag b ≠ 46 ∨ j ≠ 1) → (tag b ≠ 46 ∨ j ≠ 2) → (tag b ≠ 46 ∨ j ≠ 22) → (tag b ≠ 46 ∨ j ≠ 23) → fld F1 b j = fld Fo b j) ∧ (∀ b j : Nat, tag b ≠ 37 → tag b ≠ 40 → elm F1 b j = elm Fo b j))) := by
  refine t_bodyi (y := yX13_meet) (cd := cX13_meet) (mL := 6) (rt := (some .int)) (rm := { frames := 8, cells := 0, slots := 0, locals := 192 }) (av := [.ref p0, .int p1, .int p2, .int p3]) (by decide) (Nat.le_of_ble_eq_true rfl) ho ?_
  intro p e s m args below meth c ls A Q hQ X hT hl
  have hx := X.1.1
  have hb := X.1.2.1
  have hl : lv_has ls 6 [(0, .ref p0), (1, .int p1), (2, .int p2), (3, .int p3)] := hl
  have rp1 := rg_all p1
  have rp2 := rg_all p2
  have rp3 := rg_all p3
  obtain ⟨F, hFo⟩ : ∃ F : Nat → va_E, F = Fo := ⟨_, rfl⟩
  rw [← hFo] at hT pf0
  have hfr : (∀ b j : Nat, (tag b ≠ 46 ∨ j ≠ 0) → (tag b ≠ 46 ∨ j ≠ 1) → (tag b ≠ 46 ∨ j ≠ 2) → (tag b ≠ 46 ∨ j ≠ 22) → (tag b ≠ 46 ∨ j ≠ 23) → fld F b j = fld Fo b j) ∧ (∀ b j : Nat, tag b ≠ 37 → tag b ≠ 40 → elm F b j = elm Fo b j) := by
    rw [hFo]
    exact ⟨by intros; rfl, by intros; rfl⟩
  refine lv_aload_n hx hb dX13_meet_0 rfl (lv_at hl 0 rfl) ?_
  refine lv_iconst (v := 0) hx hb dX13_meet_1 (by decide) ?_
  refine t_put (C := RX13) (T := TX13) (N := 37) (v := .int 0) X hT m0 g0 rfl tyX13 tyX13_ok nmX13 rfl 0 (by decide) qw_140 inlX13 rfl (by first | rfl | decide) (by first | rfl | decide) rfl (⟨_, rfl, (show (-2147483648) ≤ (0 : Int32).toInt from (by decide)), (show (0 : Int32).toInt ≤ 2147483647 from (by decide))⟩) dX13_meet_2 (fun F H locs hT v57170 h1v57170 h2v57170 => ?_)
  have pf0 := (h1v57170 _ _ (Or.inr (by decide))).trans pf0
  have hfr : (∀ b j : Nat, (tag b ≠ 46 ∨ j ≠ 0) → (tag b ≠ 46 ∨ j ≠ 1) → (tag b ≠ 46 ∨ j ≠ 2) → (tag b ≠ 46 ∨ j ≠ 22) → (tag b ≠ 46 ∨ j ≠ 23) → fld F b j = fld Fo b j) ∧ (∀ b j : Nat, tag b ≠ 37 → tag b ≠ 40 → elm F b j = elm Fo b j) := ⟨fun b j n46_0 n46_1 n46_2 n46_22 n46_23 => (h1v57170 b j (fr_ne g0 n46_0)).trans (hfr.1 b j n46_0 n46_1 n46_2 n46_22 n46_23), fun b j a37 a40 => (h2v57170 b j).trans (hfr.2 b j a37 a40)⟩
  refine lv_aload_n hx hb dX13_meet_5 rfl (lv_at hl 0 rfl) ?_
  refine lv_aload_n hx hb dX13_meet_6 rfl (lv_at hl 0 rfl) ?_
  refine lv_iload_n hx hb dX13_meet_7 rfl (lv_at hl 1 rfl) ?_
  refine t_cVi (n := 1) (C := RX13) (T := TX13) (N := 37) (As := [.int p1]) (rest := [.ref p0]) X hT (km116_X13_isHouse l G tag L F hT.2.2.2 p0 p1 m0 g0 pf0) m0 g0 rfl rfl qw_796 qw_797 qw_798 qw_5 qw_799 ⟨rfl, by decide +kernel, by decide +kernel, by decide +kernel⟩ ⟨Nat.le_of_ble_eq_true rfl, Nat.le_of_ble_eq_true rfl⟩ hl rfl rfl (Nat.le_of_ble_eq_true rfl) dX13_meet_8 ⟨Nat.le_of_ble_eq_true rfl, Nat.le_of_ble_eq_true rfl⟩ (fun z57171 F9 H locs hT hz57171 => ?_)
  obtain ⟨fz57171, hz57171⟩ := hz57171
  rw [fz57171] at hT
  refine lv_if_eq (tgt := 31) hx hb dX13_meet_11 (by decide) (fun c57172 => ?_) (fun c57172 => ?_)
  · have w57173 := cv_eq (rfl : z57171.toInt = z57171.toInt) (by decide : (0 : Int32).toInt = 0) c57172
    refine lv_iconst (v := 0) hx hb dX13_meet_31 (by decide) ?_
    refine lv_iload_n hx hb dX13_meet_32 rfl (lv_at hl 3 rfl) ?_
    refine lv_bipush (v := 60) hx hb dX13_meet_33 (by decide) ?_
    refine t_cVi (n := 3) (C := RX13) (T := TX13) (N := 37) (As := [.int 0, .int p3, .int 60]) (rest := []) X hT (km184_X13_refusesIn l G tag L F hT.2.2.2 p0 0 p3 60 m0 g0 (by decide) pf0) m0 g0 rfl rfl qw_1144 qw_1145 qw_1146 qw_5 qw_1147 ⟨rfl, by decide +kernel, by decide +kernel, by decide +kernel⟩ ⟨Nat.le_of_ble_eq_true rfl, Nat.le_of_ble_eq_true rfl⟩ hl rfl rfl (Nat.le_of_ble_eq_true rfl) dX13_meet_35 ⟨Nat.le_of_ble_eq_true rfl, Nat.le_of_ble_eq_true rfl⟩ (fun z57174 F9 H locs hT hz57174 => ?_)
    obtain ⟨fz57174, hz57174⟩ := hz57174
    rw [fz57174] at hT
    refine lv_istore (lv' := [(4, .int z57174), (0, .ref p0), (1, .int p1), (2, .int p2), (3, .int p3)]) hx hb dX13_meet_38 hl (by decide) rfl (fun ls hl => ?_)
    refine lv_iload hx hb dX13_meet_40 (lv_at hl 0 rfl) ?_
    refine lv_if_le (tgt := 52) hx hb dX13_meet_42 (by decide) (fun c57175 => ?_) (fun c57175 => ?_)
    · have w57176 := cv_le (rfl : z57174.toInt = z57174.toInt) (by decide : (0 : Int32).toInt = 0) c57175
      exfalso
      omega
    · have w57177 := cv_nle (rfl : z57174.toInt = z57174.toInt) (by decide : (0 : Int32).toInt = 0) c57175
      refine lv_aload_n hx hb dX13_meet_45 rfl (lv_at hl 1 rfl) ?_
      refine lv_iload hx hb dX13_meet_46 (lv_at hl 0 rfl) ?_
      refine t_cVi (n := 1) (C := RX13) (T := TX13) (N := 37) (As := [.int z57174]) (rest := []) X hT (km88_X13_refused l G tag L F hT.2.2.2 p0 z57174 m0 g0) m0 g0 rfl rfl qw_484 qw_485 qw_486 qw_5 qw_487 ⟨rfl, by decide +kernel, by decide +kernel, by decide +kernel⟩ ⟨Nat.le_of_ble_eq_true rfl, Nat.le_of_ble_eq_true rfl⟩ hl rfl rfl (Nat.le_of_ble_eq_true rfl) dX13_meet_48 ⟨Nat.le_of_ble_eq_true rfl, Nat.le_of_ble_eq_true rfl⟩ (fun z57178 F H locs hT hz57178 => ?_)
      obtain ⟨hz57178, yz57178⟩ := hz57178
      have pf0 := (yz57178.1 _ 3 (Or.inr (by decide)) (Or.inr (by decide))).trans pf0
      have v57170 := (yz57178.1 _ 0 (Or.inr (by decide)) (Or.inr (by decide))).trans v57170
      have hfr : (∀ b j : Nat, (tag b ≠ 46 ∨ j ≠ 0) → (tag b ≠ 46 ∨ j ≠ 1) → (tag b ≠ 46 ∨ j ≠ 2) → (tag b ≠ 46 ∨ j ≠ 22) → (tag b ≠ 46 ∨ j ≠ 23) → fld F b j = fld Fo b j) ∧ (∀ b j : Nat, tag b ≠ 37 → tag b ≠ 40 → elm F b j = elm Fo b j) := ⟨fun b j n46_0 n46_1 n46_2 n46_22 n46_23 => (yz57178.1 b j n46_1 n46_2).trans (hfr.1 b j n46_0 n46_1 n46_2 n46_22 n46_23), fun b j a37 a40 => (yz57178.2 b j ).trans (hfr.2 b j a37 a40)⟩
      exact t_iret hQ X hT (⟨rg_all _, hfr⟩) (Nat.le_of_ble_eq_true rfl) (Nat.le_of_ble_eq_true rfl) dX13_meet_51
  · have w57179 := cv_ne (rfl : z57171.toInt = z57171.toInt) (by decide : (0 : Int32).toInt = 0) c57172
    exfalso
    omega
theorem kp_X13_meet (l : Launch) (G : KG) (tag : Nat → Nat) (L : List Nat) (Fo : Nat → va_E) (ho : okT G ttC tag L Fo) (p0 : Nat) (p1 : Int32) (p2 : Int32) (p3 : Int32) (m0 : p0 ∈ L) (g0 : tag p0 = 46) : TMi l yX13_meet cX13_meet 6 (some .int) { frames := 8, cells := 0, slots := 0, locals := 192 } G ttC tag L Fo [.ref p0, .int p1, .int p2, .int p3] (fun r F1 => ((-2147483648) ≤ r.toInt ∧ r.toInt ≤ 2147483647) ∧ ((∀ b j : Nat, (tag b ≠ 46 ∨ j ≠ 0) → (tag b ≠ 46 ∨ j ≠ 1) → (tag b ≠ 46 ∨ j ≠ 2) → (tag b ≠ 46 ∨ j ≠ 22) → (tag b ≠ 46 ∨ j ≠ 23) → fld F1 b j = fld Fo b j) ∧ (∀ b j : Nat, tag b ≠ 37 → tag b ≠ 40 → elm F1 b j = elm Fo b j))) := by
  rcases t_fldn ho m0 g0 rfl 3 rfl with h9 | ⟨b9, h9, m9, t9⟩
  · exact km194_X13_meet l G tag L Fo ho p0 p1 p2 p3  m0 g0 h9 
  · exact km193_X13_meet l G tag L Fo ho p0 p1 p2 p3 b9  m0 g0 m9 (tg_of t9) h9 
set_option maxHeartbeats 4000000 in
set_option maxRecDepth 100000 in
theorem km196_X13_falls (l : Launch) (G : KG) (tag : Nat → Nat) (L : List Nat) (Fo : Nat → va_E) (ho : okT G ttC tag L Fo) (p0 : Nat) (p1 : Int32) (p2 : Int32) (p3 : Int32) (x0 : Nat) (m0 : p0 ∈ L) (g0 : tag p0 = 46) (mx0 : x0 ∈ L) (gx0 : tag x0 = 45) (pf0 : fld Fo p0 3 = .ref x0) : TMi l yX13_falls cX13_falls 6 (some .int) { frames := 8, cells := 0, slots := 0, locals := 192 } G ttC tag L Fo [.ref p0, .int p1, .int p2, .int p3] (fun r F1 => ((-2147483648) ≤ r.toInt ∧ r.toInt ≤ 2147483647) ∧ ((∀ b j : Nat, (tag b ≠ 46 ∨ j ≠ 0) → (tag b ≠ 46 ∨ j ≠ 1) → (tag b ≠ 46 ∨ j ≠ 2) → (tag b ≠ 46 ∨ j ≠ 22) → (tag b ≠ 46 ∨ j ≠ 23) → fld F1 b j = fld Fo b j) ∧ (∀ b j : Nat, tag b ≠ 37 → tag b ≠ 40 → elm F1 b j = elm Fo b j))) := by
  refine t_bodyi (y := yX13_falls) (cd := cX13_falls) (mL := 6) (rt := (some .int)) (rm := { frames := 8, cells := 0, slots := 0, locals := 192 }) (av := [.ref p0, .int p1, .int p2, .int p3]) (by decide) (Nat.le_of_ble_eq_true rfl) ho ?_
  intro p e s m args below meth c ls A Q hQ X hT hl
  have hx := X.1.1
  have hb := X.1.2.1
  have hl : lv_has ls 6 [(0, .ref p0), (1, .int p1), (2, .int p2), (3, .int p3)] := hl
  have rp1 := rg_all p1
  have rp2 := rg_all p2
  have rp3 := rg_all p3
  obtain ⟨F, hFo⟩ : ∃ F : Nat → va_E, F = Fo := ⟨_, rfl⟩
  rw [← hFo] at hT pf0
  have hfr : (∀ b j : Nat, (tag b ≠ 46 ∨ j ≠ 0) → (tag b ≠ 46 ∨ j ≠ 1) → (tag b ≠ 46 ∨ j ≠ 2) → (tag b ≠ 46 ∨ j ≠ 22) → (tag b ≠ 46 ∨ j ≠ 23) → fld F b j = fld Fo b j) ∧ (∀ b j : Nat, tag b ≠ 37 → tag b ≠ 40 → elm F b j = elm Fo b j) := by
    rw [hFo]
    exact ⟨by intros; rfl, by intros; rfl⟩
  have K40 : ∀ (n : Nat) (z57963 : Int32) (z57964 : Int32) (z57965 : Int32) (F : Nat → va_E) (H : Heap) (locs : List Loc) (ls : Array Slot), (61 - z57964.toInt < (n : Int)) → (0 ≤ z57963.toInt ∧ z57963.toInt ≤ 0) → (0 ≤ z57964.toInt ∧ z57964.toInt ≤ 61) → (0 ≤ z57965.toInt ∧ z57965.toInt ≤ 0) → (0 ≤ p1.toInt ∧ p1.toInt ≤ 3) → (1 ≤ p2.toInt ∧ p2.toInt ≤ 6) → (0 ≤ p3.toInt ∧ p3.toInt ≤ 60) → TH G ttC A s tag L F H locs → ((∀ b j : Nat, (tag b ≠ 46 ∨ j ≠ 0) → (tag b ≠ 46 ∨ j ≠ 1) → (tag b ≠ 46 ∨ j ≠ 2) → (tag b ≠ 46 ∨ j ≠ 22) → (tag b ≠ 46 ∨ j ≠ 23) → fld F b j = fld Fo b j) ∧ (∀ b j : Nat, tag b ≠ 37 → tag b ≠ 40 → elm F b j = elm Fo b j)) → (fld F p0 3 = .ref x0) → (fld F p0 0 = .int z57965) → lv_has ls 6 [(0, .ref p0), (1, .int p1), (2, .int p2), (3, .int p3), (4, .int z57963), (5, .int z57964)] → W p l e { frames := 8, cells := 0, slots := 0, locals := 192 } s m args below meth c H locs 0 0 Q (F0 m 40 ls []) := by
    intro n
    induction n with
    | zero =>
      intro z57963 z57964 z57965 F H locs ls hn rz57963 rz57964 rz57965 r9s57960 r9s57961 r9s57962 hT hfr pf0 qz57965 hl
      exfalso
      omega
    | succ n ih40 =>
      intro z57963 z57964 z57965 F H locs ls hn rz57963 rz57964 rz57965 r9s57960 r9s57961 r9s57962 hT hfr pf0 qz57965 hl
      refine lv_iload hx hb dX13_falls_40 (lv_at hl 5 rfl) ?_
      refine lv_iload_n hx hb dX13_falls_42 rfl (lv_at hl 3 rfl) ?_
      refine lv_icmp_gt (tgt := 82) hx hb dX13_falls_43 (by decide) (fun c57966 => ?_) (fun c57966 => ?_)
      · have w57967 := cv_lt (rfl : p3.toInt = p3.toInt) (rfl : z57964.toInt = z57964.toInt) c57966
        refine lv_aload_n hx hb dX13_falls_82 rfl (lv_at hl 0 rfl) ?_
        refine lv_bipush (v := (-2)) hx hb dX13_falls_83 (by decide) ?_
        refine t_cVi (n := 1) (C := RX13) (T := TX13) (N := 37) (As := [.int (-2)]) (rest := []) X hT (km93_X13_good l G tag L F hT.2.2.2 p0 (-2) m0 g0) m0 g0 rfl rfl qw_687 qw_688 qw_689 qw_5 qw_690 ⟨rfl, by decide +kernel, by decide +kernel, by decide +kernel⟩ ⟨Nat.le_of_ble_eq_true rfl, Nat.le_of_ble_eq_true rfl⟩ hl rfl rfl (Nat.le_of_ble_eq_true rfl) dX13_falls_85 ⟨Nat.le_of_ble_eq_true rfl, Nat.le_of_ble_eq_true rfl⟩ (fun z57968 F H locs hT hz57968 => ?_)
        obtain ⟨hz57968, yz57968⟩ := hz57968
        have qz57965 := (yz57968.1 _ 0 (Or.inr (by decide)) (Or.inr (by decide))).trans qz57965
        have pf0 := (yz57968.1 _ 3 (Or.inr (by decide)) (Or.inr (by decide))).trans pf0
        have hfr : (∀ b j : Nat, (tag b ≠ 46 ∨ j ≠ 0) → (tag b ≠ 46 ∨ j ≠ 1) → (tag b ≠ 46 ∨ j ≠ 2) → (tag b ≠ 46 ∨ j ≠ 22) → (tag b ≠ 46 ∨ j ≠ 23) → fld F b j = fld Fo b j) ∧ (∀ b j : Nat, tag b ≠ 37 → tag b ≠ 40 → elm F b j = elm Fo b j) := ⟨fun b j n46_0 n46_1 n46_2 n46_22 n46_23 => (yz57968.1 b j n46_1 n46_2).trans (hfr.1 b j n46_0 n46_1 n46_2 n46_22 n46_23), fun b j a37 a40 => (yz57968.2 b j ).trans (hfr.2 b j a37 a40)⟩
        exact t_iret hQ X hT (⟨rg_all _, hfr⟩) (Nat.le_of_ble_eq_true rfl) (Nat.le_of_ble_eq_true rfl) dX13_falls_88
      · have w57969 := cv_nlt (rfl : p3.toInt = p3.toInt) (rfl : z57964.toInt = z57964.toInt) c57966
        refine lv_aload_n hx hb dX13_falls_46 rfl (lv_at hl 0 rfl) ?_
        refine t_get (C := RX13) (T := TX13) (N := 37) X hT m0 g0 rfl rfl 17 (by decide) qw_113 inlX13 rfl dX13_falls_47 (fun v57970 hv57970 ov57970 => ?_)
        obtain ⟨b57971, rfl, mb57971, gb57971⟩ := okV_r ov57970
        have gb57971 : tag b57971 = 37 := tg_of gb57971
        refine lv_iload_n hx hb dX13_falls_50 rfl (lv_at hl 1 rfl) ?_
        refine lv_iload_n hx hb dX13_falls_51 rfl (lv_at hl 2 rfl) ?_
        refine lv_iconst (v := 5) hx hb dX13_falls_52 (by decide) ?_
        refine t_cSi (n := 3) (As := [.int p1, .int p2, .int 5]) (rest := [.ref b57971]) X hT (km49_X13_part l G tag L F hT.2.2.2 p1 p2 5 (by omega) (by omega) (by decide)) qw_661 qw_662 qw_5 qw_663 ⟨by decide +kernel, by decide +kernel, by decide +kernel⟩ ⟨Nat.le_of_ble_eq_true rfl, Nat.le_of_ble_eq_true rfl⟩ hl rfl rfl (Nat.le_of_ble_eq_true rfl) dX13_falls_53 ⟨Nat.le_of_ble_eq_true rfl, Nat.le_of_ble_eq_true rfl⟩ (fun z57972 F9 H locs hT hz57972 => ?_)
        obtain ⟨fz57972, hz57972, xz57972_0⟩ := hz57972
        rw [fz57972] at hT
        have k57973 : (5 : Int32).toInt = 5 := by decide
        refine t_ild X hT mb57971 gb57971 rfl (by omega) dX13_falls_56 (fun z57974 vz57974 rz57974 => ?_)
        have oz57974 := rz57974
        have rz57974 := rg_all z57974
        refine lv_iconst (v := 1) hx hb dX13_falls_57 (by decide) ?_
        refine lv_icmp_ne (tgt := 68) hx hb dX13_falls_58 (by decide) (fun c57975 => ?_) (fun c57975 => ?_)
        · have w57976 := cv_ne (rfl : z57974.toInt = z57974.toInt) (by decide : (1 : Int32).toInt = 1) c57975
          refine lv_aload_n hx hb dX13_falls_68 rfl (lv_at hl 0 rfl) ?_
          refine lv_aload_n hx hb dX13_falls_69 rfl (lv_at hl 0 rfl) ?_
          refine t_get (C := RX13) (T := TX13) (N := 37) X hT m0 g0 rfl rfl 17 (by decide) qw_113 inlX13 rfl dX13_falls_70 (fun v57977 hv57977 ov57977 => ?_)
          obtain rfl : v57977 = .ref b57971 := hv57977.symm.trans hv57970
          refine t_cVv (n := 1) (C := RX13) (T := TX13) (N := 37) (As := [.ref b57971]) (rest := []) X hT (km181_X13_goesBy l G tag L F hT.2.2.2 p0 b57971 x0 m0 g0 mb57971 gb57971 mx0 gx0 pf0) m0 g0 rfl rfl qw_1160 qw_1161 qw_1162 qw_5 qw_1163 ⟨rfl, by decide +kernel, by decide +kernel, by decide +kernel⟩ ⟨Nat.le_of_ble_eq_true rfl, Nat.le_of_ble_eq_true rfl⟩ hl rfl rfl (Nat.le_of_ble_eq_true rfl) dX13_falls_73 ⟨Nat.le_of_ble_eq_true rfl, Nat.le_of_ble_eq_true rfl⟩ (fun F H locs hT hz57978 => ?_)
          have yz57978 := hz57978
          have qz57965 := (yz57978.1 _ 0 (Or.inr (by decide)) (Or.inr (by decide))).trans qz57965
          have pf0 := (yz57978.1 _ 3 (Or.inr (by decide)) (Or.inr (by decide))).trans pf0
          have hv57970 := (yz57978.1 _ 17 (Or.inr (by decide)) (Or.inr (by decide))).trans hv57970
          have hfr : (∀ b j : Nat, (tag b ≠ 46 ∨ j ≠ 0) → (tag b ≠ 46 ∨ j ≠ 1) → (tag b ≠ 46 ∨ j ≠ 2) → (tag b ≠ 46 ∨ j ≠ 22) → (tag b ≠ 46 ∨ j ≠ 23) → fld F b j = fld Fo b j) ∧ (∀ b j : Nat, tag b ≠ 37 → tag b ≠ 40 → elm F b j = elm Fo b j) := ⟨fun b j n46_0 n46_1 n46_2 n46_22 n46_23 => (yz57978.1 b j n46_22 n46_23).trans (hfr.1 b j n46_0 n46_1 n46_2 n46_22 n46_23), fun b j a37 a40 => (yz57978.2 b j a37).trans (hfr.2 b j a37 a40)⟩
          obtain ⟨z57979, ez57979⟩ : ∃ y : Int32, y = z57964 + 1 := ⟨_, rfl⟩
          have hz57979 : z57979.toInt = z57964.toInt + 1 := ar_add ez57979 rfl (by decide : (1 : Int32).toInt = 1) (by omega) (by omega)
          refine lv_iinc (v := z57979) (lv' := [(5, .int z57979), (0, .ref p0), (1, .int p1), (2, .int p2), (3, .int p3), (4, .int z57963)]) hx hb dX13_falls_76 hl (k := 5) rfl (by rw [ez57979]; rfl) (by decide) rfl (fun ls hl => ?_)
          refine lv_goto (tgt := 40) hx hb dX13_falls_79 (by decide) ?_
          exact ih40 z57963 z57979 z57965 _ _ _ _ (by omega) (by omega) (by omega) (by omega) (by omega) (by omega) (by omega) hT hfr pf0 qz57965 (lv_sub hl [1, 2, 3, 4, 5, 0] rfl)
        · have w57980 := cv_eq (rfl : z57974.toInt = z57974.toInt) (by decide : (1 : Int32).toInt = 1) c57975
          refine lv_aload_n hx hb dX13_falls_61 rfl (lv_at hl 0 rfl) ?_
          refine lv_iload hx hb dX13_falls_62 (lv_at hl 5 rfl) ?_
          refine t_cVi (n := 1) (C := RX13) (T := TX13) (N := 37) (As := [.int z57964]) (rest := []) X hT (km93_X13_good l G tag L F hT.2.2.2 p0 z57964 m0 g0) m0 g0 rfl rfl qw_687 qw_688 qw_689 qw_5 qw_690 ⟨rfl, by decide +kernel, by decide +kernel, by decide +kernel⟩ ⟨Nat.le_of_ble_eq_true rfl, Nat.le_of_ble_eq_true rfl⟩ hl rfl rfl (Nat.le_of_ble_eq_true rfl) dX13_falls_64 ⟨Nat.le_of_ble_eq_true rfl, Nat.le_of_ble_eq_true rfl⟩ (fun z57981 F H locs hT hz57981 => ?_)
          obtain ⟨hz57981, yz57981⟩ := hz57981
          have qz57965 := (yz57981.1 _ 0 (Or.inr (by decide)) (Or.inr (by decide))).trans qz57965
          have pf0 := (yz57981.1 _ 3 (Or.inr (by decide)) (Or.inr (by decide))).trans pf0
          have hv57970 := (yz57981.1 _ 17 (Or.inr (by decide)) (Or.inr (by decide))).trans hv57970
          have vz57974 := (yz57981.2 _ _ ).trans vz57974
          have hfr : (∀ b j : Nat, (tag b ≠ 46 ∨ j ≠ 0) → (tag b ≠ 46 ∨ j ≠ 1) → (tag b ≠ 46 ∨ j ≠ 2) → (tag b ≠ 46 ∨ j ≠ 22) → (tag b ≠ 46 ∨ j ≠ 23) → fld F b j = fld Fo b j) ∧ (∀ b j : Nat, tag b ≠ 37 → tag b ≠ 40 → elm F b j = elm Fo b j) := ⟨fun b j n46_0 n46_1 n46_2 n46_22 n46_23 => (yz57981.1 b j n46_1 n46_2).trans (hfr.1 b j n46_0 n46_1 n46_2 n46_22 n46_23), fun b j a37 a40 => (yz57981.2 b j ).trans (hfr.2 b j a37 a40)⟩
          exact t_iret hQ X hT (⟨rg_all _, hfr⟩) (Nat.le_of_ble_eq_true rfl) (Nat.le_of_ble_eq_true rfl) dX13_falls_67
  refine lv_aload_n hx hb dX13_falls_0 rfl (lv_at hl 0 rfl) ?_
  refine lv_iconst (v := 0) hx hb dX13_falls_1 (by decide) ?_
  refine t_put (C := RX13) (T := TX13) (N := 37) (v := .int 0) X hT m0 g0 rfl tyX13 tyX13_ok nmX13 rfl 0 (by decide) qw_140 inlX13 rfl (by first | rfl | decide) (by first | rfl | decide) rfl (⟨_, rfl, (show (-2147483648) ≤ (0 : Int32).toInt from (by decide)), (show (0 : Int32).toInt ≤ 2147483647 from (by decide))⟩) dX13_falls_2 (fun F H locs hT v57982 h1v57982 h2v57982 => ?_)
  have pf0 := (h1v57982 _ _ (Or.inr (by decide))).trans pf0
  have hfr : (∀ b j : Nat, (tag b ≠ 46 ∨ j ≠ 0) → (tag b ≠ 46 ∨ j ≠ 1) → (tag b ≠ 46 ∨ j ≠ 2) → (tag b ≠ 46 ∨ j ≠ 22) → (tag b ≠ 46 ∨ j ≠ 23) → fld F b j = fld Fo b j) ∧ (∀ b j : Nat, tag b ≠ 37 → tag b ≠ 40 → elm F b j = elm Fo b j) := ⟨fun b j n46_0 n46_1 n46_2 n46_22 n46_23 => (h1v57982 b j (fr_ne g0 n46_0)).trans (hfr.1 b j n46_0 n46_1 n46_2 n46_22 n46_23), fun b j a37 a40 => (h2v57982 b j).trans (hfr.2 b j a37 a40)⟩
  refine lv_aload_n hx hb dX13_falls_5 rfl (lv_at hl 0 rfl) ?_
  refine lv_aload_n hx hb dX13_falls_6 rfl (lv_at hl 0 rfl) ?_
  refine lv_iload_n hx hb dX13_falls_7 rfl (lv_at hl 1 rfl) ?_
  refine lv_iload_n hx hb dX13_falls_8 rfl (lv_at hl 2 rfl) ?_
  refine t_cVi (n := 2) (C := RX13) (T := TX13) (N := 37) (As := [.int p1, .int p2]) (rest := [.ref p0]) X hT (km119_X13_isSkin l G tag L F hT.2.2.2 p0 p1 p2 x0 m0 g0 mx0 gx0 pf0) m0 g0 rfl rfl qw_836 qw_837 qw_838 qw_5 qw_839 ⟨rfl, by decide +kernel, by decide +kernel, by decide +kernel⟩ ⟨Nat.le_of_ble_eq_true rfl, Nat.le_of_ble_eq_true rfl⟩ hl rfl rfl (Nat.le_of_ble_eq_true rfl) dX13_falls_9 ⟨Nat.le_of_ble_eq_true rfl, Nat.le_of_ble_eq_true rfl⟩ (fun z57983 F9 H locs hT hz57983 => ?_)
  obtain ⟨fz57983, hz57983⟩ := hz57983
  rw [fz57983] at hT
  obtain ⟨hz57983, iz57983⟩ := hz57983
  refine lv_iload_n hx hb dX13_falls_12 rfl (lv_at hl 3 rfl) ?_
  refine lv_bipush (v := 60) hx hb dX13_falls_13 (by decide) ?_
  rcases z01 (z := z57983) (by omega) with c57984 | c57984
  · have w57985 := cv_eq (rfl : z57983.toInt = z57983.toInt) (by decide : (0 : Int32).toInt = 0) c57984
    subst c57984
    refine t_cVi (n := 3) (C := RX13) (T := TX13) (N := 37) (As := [.int 0, .int p3, .int 60]) (rest := []) X hT (km174_X13_refusesIn l G tag L F hT.2.2.2 p0 0 p3 60 x0 m0 g0 (by decide) mx0 gx0 pf0) m0 g0 rfl rfl qw_1144 qw_1145 qw_1146 qw_5 qw_1147 ⟨rfl, by decide +kernel, by decide +kernel, by decide +kernel⟩ ⟨Nat.le_of_ble_eq_true rfl, Nat.le_of_ble_eq_true rfl⟩ hl rfl rfl (Nat.le_of_ble_eq_true rfl) dX13_falls_15 ⟨Nat.le_of_ble_eq_true rfl, Nat.le_of_ble_eq_true rfl⟩ (fun z57986 F9 H locs hT hz57986 => ?_)
    obtain ⟨fz57986, hz57986, xz57986_0⟩ := hz57986
    rw [fz57986] at hT
    have k57987 : (0 : Int32).toInt = 0 := by decide
    have k57988 : (60 : Int32).toInt = 60 := by decide
    refine lv_istore (lv' := [(4, .int z57986), (0, .ref p0), (1, .int p1), (2, .int p2), (3, .int p3)]) hx hb dX13_falls_18 hl (by decide) rfl (fun ls hl => ?_)
    refine lv_iload hx hb dX13_falls_20 (lv_at hl 0 rfl) ?_
    refine lv_if_le (tgt := 32) hx hb dX13_falls_22 (by decide) (fun c57989 => ?_) (fun c57989 => ?_)
    · have w57990 := cv_le (rfl : z57986.toInt = z57986.toInt) (by decide : (0 : Int32).toInt = 0) c57989
      exfalso
      omega
    · have w57991 := cv_nle (rfl : z57986.toInt = z57986.toInt) (by decide : (0 : Int32).toInt = 0) c57989
      refine lv_aload_n hx hb dX13_falls_25 rfl (lv_at hl 1 rfl) ?_
      refine lv_iload hx hb dX13_falls_26 (lv_at hl 0 rfl) ?_
      refine t_cVi (n := 1) (C := RX13) (T := TX13) (N := 37) (As := [.int z57986]) (rest := []) X hT (km88_X13_refused l G tag L F hT.2.2.2 p0 z57986 m0 g0) m0 g0 rfl rfl qw_484 qw_485 qw_486 qw_5 qw_487 ⟨rfl, by decide +kernel, by decide +kernel, by decide +kernel⟩ ⟨Nat.le_of_ble_eq_true rfl, Nat.le_of_ble_eq_true rfl⟩ hl rfl rfl (Nat.le_of_ble_eq_true rfl) dX13_falls_28 ⟨Nat.le_of_ble_eq_true rfl, Nat.le_of_ble_eq_true rfl⟩ (fun z57992 F H locs hT hz57992 => ?_)
      obtain ⟨hz57992, yz57992⟩ := hz57992
      have pf0 := (yz57992.1 _ 3 (Or.inr (by decide)) (Or.inr (by decide))).trans pf0
      have v57982 := (yz57992.1 _ 0 (Or.inr (by decide)) (Or.inr (by decide))).trans v57982
      have hfr : (∀ b j : Nat, (tag b ≠ 46 ∨ j ≠ 0) → (tag b ≠ 46 ∨ j ≠ 1) → (tag b ≠ 46 ∨ j ≠ 2) → (tag b ≠ 46 ∨ j ≠ 22) → (tag b ≠ 46 ∨ j ≠ 23) → fld F b j = fld Fo b j) ∧ (∀ b j : Nat, tag b ≠ 37 → tag b ≠ 40 → elm F b j = elm Fo b j) := ⟨fun b j n46_0 n46_1 n46_2 n46_22 n46_23 => (yz57992.1 b j n46_1 n46_2).trans (hfr.1 b j n46_0 n46_1 n46_2 n46_22 n46_23), fun b j a37 a40 => (yz57992.2 b j ).trans (hfr.2 b j a37 a40)⟩
      exact t_iret hQ X hT (⟨rg_all _, hfr⟩) (Nat.le_of_ble_eq_true rfl) (Nat.le_of_ble_eq_true rfl) dX13_falls_31
  · have w57993 := cv_eq (rfl : z57983.toInt = z57983.toInt) (by decide : (1 : Int32).toInt = 1) c57984
    have w57994 := (fun h => (iz57983 h).1) (by omega)
    have w57995 := (fun h => (iz57983 h).2) (by omega)
    subst c57984
    refine t_cVi (n := 3) (C := RX13) (T := TX13) (N := 37) (As := [.int 1, .int p3, .int 60]) (rest := []) X hT (km175_X13_refusesIn l G tag L F hT.2.2.2 p0 1 p3 60 x0 m0 g0 (by decide) mx0 gx0 pf0) m0 g0 rfl rfl qw_1144 qw_1145 qw_1146 qw_5 qw_1147 ⟨rfl, by decide +kernel, by decide +kernel, by decide +kernel⟩ ⟨Nat.le_of_ble_eq_true rfl, Nat.le_of_ble_eq_true rfl⟩ hl rfl rfl (Nat.le_of_ble_eq_true rfl) dX13_falls_15 ⟨Nat.le_of_ble_eq_true rfl, Nat.le_of_ble_eq_true rfl⟩ (fun z57996 F9 H locs hT hz57996 => ?_)
    obtain ⟨fz57996, hz57996, xz57996_0⟩ := hz57996
    rw [fz57996] at hT
    have k57997 : (1 : Int32).toInt = 1 := by decide
    have k57998 : (60 : Int32).toInt = 60 := by decide
    refine lv_istore (lv' := [(4, .int z57996), (0, .ref p0), (1, .int p1), (2, .int p2), (3, .int p3)]) hx hb dX13_falls_18 hl (by decide) rfl (fun ls hl => ?_)
    refine lv_iload hx hb dX13_falls_20 (lv_at hl 0 rfl) ?_
    refine lv_if_le (tgt := 32) hx hb dX13_falls_22 (by decide) (fun c57999 => ?_) (fun c57999 => ?_)
    · have w58000 := cv_le (rfl : z57996.toInt = z57996.toInt) (by decide : (0 : Int32).toInt = 0) c57999
      have w58001 := xz57996_0 (by omega)
      refine lv_aload_n hx hb dX13_falls_32 rfl (lv_at hl 1 rfl) ?_
      refine lv_iconst (v := 0) hx hb dX13_falls_33 (by decide) ?_
      refine t_cVv (n := 1) (C := RX13) (T := TX13) (N := 37) (As := [.int 0]) (rest := []) X hT (km182_X13_inYears l G tag L F hT.2.2.2 p0 0 x0 m0 g0 (by decide) mx0 gx0 pf0) m0 g0 rfl rfl qw_1148 qw_1149 qw_1150 qw_5 qw_1151 ⟨rfl, by decide +kernel, by decide +kernel, by decide +kernel⟩ ⟨Nat.le_of_ble_eq_true rfl, Nat.le_of_ble_eq_true rfl⟩ hl rfl rfl (Nat.le_of_ble_eq_true rfl) dX13_falls_34 ⟨Nat.le_of_ble_eq_true rfl, Nat.le_of_ble_eq_true rfl⟩ (fun F H locs hT hz58002 => ?_)
      have yz58002 := hz58002
      have pf0 := (yz58002.1 _ 3 (Or.inr (by decide)) (Or.inr (by decide))).trans pf0
      have v57982 := (yz58002.1 _ 0 (Or.inr (by decide)) (Or.inr (by decide))).trans v57982
      have hfr : (∀ b j : Nat, (tag b ≠ 46 ∨ j ≠ 0) → (tag b ≠ 46 ∨ j ≠ 1) → (tag b ≠ 46 ∨ j ≠ 2) → (tag b ≠ 46 ∨ j ≠ 22) → (tag b ≠ 46 ∨ j ≠ 23) → fld F b j = fld Fo b j) ∧ (∀ b j : Nat, tag b ≠ 37 → tag b ≠ 40 → elm F b j = elm Fo b j) := ⟨fun b j n46_0 n46_1 n46_2 n46_22 n46_23 => (yz58002.1 b j n46_22 n46_23).trans (hfr.1 b j n46_0 n46_1 n46_2 n46_22 n46_23), fun b j a37 a40 => (yz58002.2 b j a37 a40).trans (hfr.2 b j a37 a40)⟩
      refine lv_iconst (v := 0) hx hb dX13_falls_37 (by decide) ?_
      refine lv_istore (lv' := [(5, .int 0), (4, .int z57996), (0, .ref p0), (1, .int p1), (2, .int p2), (3, .int p3)]) hx hb dX13_falls_38 hl (by decide) rfl (fun ls hl => ?_)
      have k58003 : (0 : Int32).toInt = 0 := by decide
      have k58004 : (0 : Int32).toInt = 0 := by decide
      exact K40 62 z57996 0 0 _ _ _ _ (by omega) (by omega) (by decide) (by decide) (by omega) (by omega) (by omega) hT hfr pf0 v57982 (lv_sub hl [2, 3, 4, 5, 1, 0] rfl)
    · have w58005 := cv_nle (rfl : z57996.toInt = z57996.toInt) (by decide : (0 : Int32).toInt = 0) c57999
      refine lv_aload_n hx hb dX13_falls_25 rfl (lv_at hl 1 rfl) ?_
      refine lv_iload hx hb dX13_falls_26 (lv_at hl 0 rfl) ?_
      refine t_cVi (n := 1) (C := RX13) (T := TX13) (N := 37) (As := [.int z57996]) (rest := []) X hT (km88_X13_refused l G tag L F hT.2.2.2 p0 z57996 m0 g0) m0 g0 rfl rfl qw_484 qw_485 qw_486 qw_5 qw_487 ⟨rfl, by decide +kernel, by decide +kernel, by decide +kernel⟩ ⟨Nat.le_of_ble_eq_true rfl, Nat.le_of_ble_eq_true rfl⟩ hl rfl rfl (Nat.le_of_ble_eq_true rfl) dX13_falls_28 ⟨Nat.le_of_ble_eq_true rfl, Nat.le_of_ble_eq_true rfl⟩ (fun z58006 F H locs hT hz58006 => ?_)
      obtain ⟨hz58006, yz58006⟩ := hz58006
      have pf0 := (yz58006.1 _ 3 (Or.inr (by decide)) (Or.inr (by decide))).trans pf0
      have v57982 := (yz58006.1 _ 0 (Or.inr (by decide)) (Or.inr (by decide))).trans v57982
      have hfr : (∀ b j : Nat, (tag b ≠ 46 ∨ j ≠ 0) → (tag b ≠ 46 ∨ j ≠ 1) → (tag b ≠ 46 ∨ j ≠ 2) → (tag b ≠ 46 ∨ j ≠ 22) → (tag b ≠ 46 ∨ j ≠ 23) → fld F b j = fld Fo b j) ∧ (∀ b j : Nat, tag b ≠ 37 → tag b ≠ 40 → elm F b j = elm Fo b j) := ⟨fun b j n46_0 n46_1 n46_2 n46_22 n46_23 => (yz58006.1 b j n46_1 n46_2).trans (hfr.1 b j n46_0 n46_1 n46_2 n46_22 n46_23), fun b j a37 a40 => (yz58006.2 b j ).trans (hfr.2 b j a37 a40)⟩
      exact t_iret hQ X hT (⟨rg_all _, hfr⟩) (Nat.le_of_ble_eq_true rfl) (Nat.le_of_ble_eq_true rfl) dX13_falls_31
set_option maxHeartbeats 4000000 in
set_option maxRecDepth 100000 in
theorem km197_X13_falls (l : Launch) (G : KG) (tag : Nat → Nat) (L : List Nat) (Fo : Nat → va_E) (ho : okT G ttC tag L Fo) (p0 : Nat) (p1 : Int32) (p2 : Int32) (p3 : Int32) (m0 : p0 ∈ L) (g0 : tag p0 = 46) (pf0 : fld Fo p0 3 = .null) : TMi l yX13_falls cX13_falls 6 (some .int) { frames := 8, cells := 0, slots := 0, locals := 192 } G ttC tag L Fo [.ref p0, .int p1, .int p2, .int p3] (fun r F1 => ((-2147483648) ≤ r.toInt ∧ r.toInt ≤ 2147483647) ∧ ((∀ b j : Nat, (tag b ≠ 46 ∨ j ≠ 0) → (tag b ≠ 46 ∨ j ≠ 1) → (tag b ≠ 46 ∨ j ≠ 2) → (tag b ≠ 46 ∨ j ≠ 22) → (tag b ≠ 46 ∨ j ≠ 23) → fld F1 b j = fld Fo b j) ∧ (∀ b j : Nat, tag b ≠ 37 → tag b ≠ 40 → elm F1 b j = elm Fo b j))) := by
  refine t_bodyi (y := yX13_falls) (cd := cX13_falls) (mL := 6) (rt := (some .int)) (rm := { frames := 8, cells := 0, slots := 0, locals := 192 }) (av := [.ref p0, .int p1, .int p2, .int p3]) (by decide) (Nat.le_of_ble_eq_true rfl) ho ?_
  intro p e s m args below meth c ls A Q hQ X hT hl
  have hx := X.1.1
  have hb := X.1.2.1
  have hl : lv_has ls 6 [(0, .ref p0), (1, .int p1), (2, .int p2), (3, .int p3)] := hl
  have rp1 := rg_all p1
  have rp2 := rg_all p2
  have rp3 := rg_all p3
  obtain ⟨F, hFo⟩ : ∃ F : Nat → va_E, F = Fo := ⟨_, rfl⟩
  rw [← hFo] at hT pf0
  have hfr : (∀ b j : Nat, (tag b ≠ 46 ∨ j ≠ 0) → (tag b ≠ 46 ∨ j ≠ 1) → (tag b ≠ 46 ∨ j ≠ 2) → (tag b ≠ 46 ∨ j ≠ 22) → (tag b ≠ 46 ∨ j ≠ 23) → fld F b j = fld Fo b j) ∧ (∀ b j : Nat, tag b ≠ 37 → tag b ≠ 40 → elm F b j = elm Fo b j) := by
    rw [hFo]
    exact ⟨by intros; rfl, by intros; rfl⟩
  refine lv_aload_n hx hb dX13_falls_0 rfl (lv_at hl 0 rfl) ?_
  refine lv_iconst (v := 0) hx hb dX13_falls_1 (by decide) ?_
  refine t_put (C := RX13) (T := TX13) (N := 37) (v := .int 0) X hT m0 g0 rfl tyX13 tyX13_ok nmX13 rfl 0 (by decide) qw_140 inlX13 rfl (by first | rfl | decide) (by first | rfl | decide) rfl (⟨_, rfl, (show (-2147483648) ≤ (0 : Int32).toInt from (by decide)), (show (0 : Int32).toInt ≤ 2147483647 from (by decide))⟩) dX13_falls_2 (fun F H locs hT v58128 h1v58128 h2v58128 => ?_)
  have pf0 := (h1v58128 _ _ (Or.inr (by decide))).trans pf0
  have hfr : (∀ b j : Nat, (tag b ≠ 46 ∨ j ≠ 0) → (tag b ≠ 46 ∨ j ≠ 1) → (tag b ≠ 46 ∨ j ≠ 2) → (tag b ≠ 46 ∨ j ≠ 22) → (tag b ≠ 46 ∨ j ≠ 23) → fld F b j = fld Fo b j) ∧ (∀ b j : Nat, tag b ≠ 37 → tag b ≠ 40 → elm F b j = elm Fo b j) := ⟨fun b j n46_0 n46_1 n46_2 n46_22 n46_23 => (h1v58128 b j (fr_ne g0 n46_0)).trans (hfr.1 b j n46_0 n46_1 n46_2 n46_22 n46_23), fun b j a37 a40 => (h2v58128 b j).trans (hfr.2 b j a37 a40)⟩
  refine lv_aload_n hx hb dX13_falls_5 rfl (lv_at hl 0 rfl) ?_
  refine lv_aload_n hx hb dX13_falls_6 rfl (lv_at hl 0 rfl) ?_
  refine lv_iload_n hx hb dX13_falls_7 rfl (lv_at hl 1 rfl) ?_
  refine lv_iload_n hx hb dX13_falls_8 rfl (lv_at hl 2 rfl) ?_
  refine t_cVi (n := 2) (C := RX13) (T := TX13) (N := 37) (As := [.int p1, .int p2]) (rest := [.ref p0]) X hT (km121_X13_isSkin l G tag L F hT.2.2.2 p0 p1 p2 m0 g0 pf0) m0 g0 rfl rfl qw_836 qw_837 qw_838 qw_5 qw_839 ⟨rfl, by decide +kernel, by decide +kernel, by decide +kernel⟩ ⟨Nat.le_of_ble_eq_true rfl, Nat.le_of_ble_eq_true rfl⟩ hl rfl rfl (Nat.le_of_ble_eq_true rfl) dX13_falls_9 ⟨Nat.le_of_ble_eq_true rfl, Nat.le_of_ble_eq_true rfl⟩ (fun z58129 F9 H locs hT hz58129 => ?_)
  obtain ⟨fz58129, hz58129⟩ := hz58129
  rw [fz58129] at hT
  refine lv_iload_n hx hb dX13_falls_12 rfl (lv_at hl 3 rfl) ?_
  refine lv_bipush (v := 60) hx hb dX13_falls_13 (by decide) ?_
  rcases z01 (z := z58129) (by omega) with c58130 | c58130
  · have w58131 := cv_eq (rfl : z58129.toInt = z58129.toInt) (by decide : (0 : Int32).toInt = 0) c58130
    subst c58130
    refine t_cVi (n := 3) (C := RX13) (T := TX13) (N := 37) (As := [.int 0, .int p3, .int 60]) (rest := []) X hT (km184_X13_refusesIn l G tag L F hT.2.2.2 p0 0 p3 60 m0 g0 (by decide) pf0) m0 g0 rfl rfl qw_1144 qw_1145 qw_1146 qw_5 qw_1147 ⟨rfl, by decide +kernel, by decide +kernel, by decide +kernel⟩ ⟨Nat.le_of_ble_eq_true rfl, Nat.le_of_ble_eq_true rfl⟩ hl rfl rfl (Nat.le_of_ble_eq_true rfl) dX13_falls_15 ⟨Nat.le_of_ble_eq_true rfl, Nat.le_of_ble_eq_true rfl⟩ (fun z58132 F9 H locs hT hz58132 => ?_)
    obtain ⟨fz58132, hz58132⟩ := hz58132
    rw [fz58132] at hT
    refine lv_istore (lv' := [(4, .int z58132), (0, .ref p0), (1, .int p1), (2, .int p2), (3, .int p3)]) hx hb dX13_falls_18 hl (by decide) rfl (fun ls hl => ?_)
    refine lv_iload hx hb dX13_falls_20 (lv_at hl 0 rfl) ?_
    refine lv_if_le (tgt := 32) hx hb dX13_falls_22 (by decide) (fun c58133 => ?_) (fun c58133 => ?_)
    · have w58134 := cv_le (rfl : z58132.toInt = z58132.toInt) (by decide : (0 : Int32).toInt = 0) c58133
      exfalso
      omega
    · have w58135 := cv_nle (rfl : z58132.toInt = z58132.toInt) (by decide : (0 : Int32).toInt = 0) c58133
      refine lv_aload_n hx hb dX13_falls_25 rfl (lv_at hl 1 rfl) ?_
      refine lv_iload hx hb dX13_falls_26 (lv_at hl 0 rfl) ?_
      refine t_cVi (n := 1) (C := RX13) (T := TX13) (N := 37) (As := [.int z58132]) (rest := []) X hT (km88_X13_refused l G tag L F hT.2.2.2 p0 z58132 m0 g0) m0 g0 rfl rfl qw_484 qw_485 qw_486 qw_5 qw_487 ⟨rfl, by decide +kernel, by decide +kernel, by decide +kernel⟩ ⟨Nat.le_of_ble_eq_true rfl, Nat.le_of_ble_eq_true rfl⟩ hl rfl rfl (Nat.le_of_ble_eq_true rfl) dX13_falls_28 ⟨Nat.le_of_ble_eq_true rfl, Nat.le_of_ble_eq_true rfl⟩ (fun z58136 F H locs hT hz58136 => ?_)
      obtain ⟨hz58136, yz58136⟩ := hz58136
      have pf0 := (yz58136.1 _ 3 (Or.inr (by decide)) (Or.inr (by decide))).trans pf0
      have v58128 := (yz58136.1 _ 0 (Or.inr (by decide)) (Or.inr (by decide))).trans v58128
      have hfr : (∀ b j : Nat, (tag b ≠ 46 ∨ j ≠ 0) → (tag b ≠ 46 ∨ j ≠ 1) → (tag b ≠ 46 ∨ j ≠ 2) → (tag b ≠ 46 ∨ j ≠ 22) → (tag b ≠ 46 ∨ j ≠ 23) → fld F b j = fld Fo b j) ∧ (∀ b j : Nat, tag b ≠ 37 → tag b ≠ 40 → elm F b j = elm Fo b j) := ⟨fun b j n46_0 n46_1 n46_2 n46_22 n46_23 => (yz58136.1 b j n46_1 n46_2).trans (hfr.1 b j n46_0 n46_1 n46_2 n46_22 n46_23), fun b j a37 a40 => (yz58136.2 b j ).trans (hfr.2 b j a37 a40)⟩
      exact t_iret hQ X hT (⟨rg_all _, hfr⟩) (Nat.le_of_ble_eq_true rfl) (Nat.le_of_ble_eq_true rfl) dX13_falls_31
  · have w58137 := cv_eq (rfl : z58129.toInt = z58129.toInt) (by decide : (1 : Int32).toInt = 1) c58130
    have k58138 : (1 : Int32).toInt = 1 := by decide
    exfalso
    omega
theorem kp_X13_falls (l : Launch) (G : KG) (tag : Nat → Nat) (L : List Nat) (Fo : Nat → va_E) (ho : okT G ttC tag L Fo) (p0 : Nat) (p1 : Int32) (p2 : Int32) (p3 : Int32) (m0 : p0 ∈ L) (g0 : tag p0 = 46) : TMi l yX13_falls cX13_falls 6 (some .int) { frames := 8, cells := 0, slots := 0, locals := 192 } G ttC tag L Fo [.ref p0, .int p1, .int p2, .int p3] (fun r F1 => ((-2147483648) ≤ r.toInt ∧ r.toInt ≤ 2147483647) ∧ ((∀ b j : Nat, (tag b ≠ 46 ∨ j ≠ 0) → (tag b ≠ 46 ∨ j ≠ 1) → (tag b ≠ 46 ∨ j ≠ 2) → (tag b ≠ 46 ∨ j ≠ 22) → (tag b ≠ 46 ∨ j ≠ 23) → fld F1 b j = fld Fo b j) ∧ (∀ b j : Nat, tag b ≠ 37 → tag b ≠ 40 → elm F1 b j = elm Fo b j))) := by
  rcases t_fldn ho m0 g0 rfl 3 rfl with h9 | ⟨b9, h9, m9, t9⟩
  · exact km197_X13_falls l G tag L Fo ho p0 p1 p2 p3  m0 g0 h9 
  · exact km196_X13_falls l G tag L Fo ho p0 p1 p2 p3 b9  m0 g0 m9 (tg_of t9) h9 
set_option maxHeartbeats 4000000 in
set_option maxRecDepth 100000 in
theorem km199_X13_room (l : Launch) (G : KG) (tag : Nat → Nat) (L : List Nat) (Fo : Nat → va_E) (ho : okT G ttC tag L Fo) (p0 : Nat) (p1 : Int32) (x0 : Nat) (x1 : Nat) (m0 : p0 ∈ L) (g0 : tag p0 = 46) (mx0 : x0 ∈ L) (gx0 : tag x0 = 45) (pf0 : fld Fo p0 3 = .ref x0) (mx1 : x1 ∈ L) (gx1 : tag x1 = 37) (pf1 : fld Fo p0 17 = .ref x1) : TMi l yX13_room cX13_room 3 (some .int) { frames := 5, cells := 0, slots := 0, locals := 125 } G ttC tag L Fo [.ref p0, .int p1] (fun r F1 => ((-2147483648) ≤ r.toInt ∧ r.toInt ≤ 2147483647) ∧ ((∀ b j : Nat, (tag b ≠ 46 ∨ j ≠ 0) → (tag b ≠ 46 ∨ j ≠ 1) → (tag b ≠ 46 ∨ j ≠ 2) → (tag b ≠ 46 ∨ j ≠ 22) → (tag b ≠ 46 ∨ j ≠ 23) → fld F1 b j = fld Fo b j) ∧ (∀ b j : Nat, tag b ≠ 37 → elm F1 b j = elm Fo b j))) := by
  refine t_bodyi (y := yX13_room) (cd := cX13_room) (mL := 3) (rt := (some .int)) (rm := { frames := 5, cells := 0, slots := 0, locals := 125 }) (av := [.ref p0, .int p1]) (by decide) (Nat.le_of_ble_eq_true rfl) ho ?_
  intro p e s m args below meth c ls A Q hQ X hT hl
  have hx := X.1.1
  have hb := X.1.2.1
  have hl : lv_has ls 3 [(0, .ref p0), (1, .int p1)] := hl
  have rp1 := rg_all p1
  obtain ⟨F, hFo⟩ : ∃ F : Nat → va_E, F = Fo := ⟨_, rfl⟩
  rw [← hFo] at hT pf0 pf1
  have hfr : (∀ b j : Nat, (tag b ≠ 46 ∨ j ≠ 0) → (tag b ≠ 46 ∨ j ≠ 1) → (tag b ≠ 46 ∨ j ≠ 2) → (tag b ≠ 46 ∨ j ≠ 22) → (tag b ≠ 46 ∨ j ≠ 23) → fld F b j = fld Fo b j) ∧ (∀ b j : Nat, tag b ≠ 37 → elm F b j = elm Fo b j) := by
    rw [hFo]
    exact ⟨by intros; rfl, by intros; rfl⟩
  have K25 : ∀ (n : Nat) (z59288 : Int32) (z59289 : Int32) (z59290 : Int32) (F : Nat → va_E) (H : Heap) (locs : List Loc) (ls : Array Slot), (6 - z59290.toInt < (n : Int)) → (0 ≤ z59289.toInt ∧ z59289.toInt ≤ 0) → (0 ≤ z59290.toInt ∧ z59290.toInt ≤ 6) → (0 ≤ p1.toInt ∧ p1.toInt ≤ 3) → TH G ttC A s tag L F H locs → ((∀ b j : Nat, (tag b ≠ 46 ∨ j ≠ 0) → (tag b ≠ 46 ∨ j ≠ 1) → (tag b ≠ 46 ∨ j ≠ 2) → (tag b ≠ 46 ∨ j ≠ 22) → (tag b ≠ 46 ∨ j ≠ 23) → fld F b j = fld Fo b j) ∧ (∀ b j : Nat, tag b ≠ 37 → elm F b j = elm Fo b j)) → (fld F p0 3 = .ref x0) → (fld F p0 17 = .ref x1) → (fld F p0 0 = .int z59289) → (elm F x1 p1.toNatClampNeg = z59290) → lv_has ls 3 [(0, .ref p0), (1, .int p1), (2, .int z59288)] → W p l e { frames := 5, cells := 0, slots := 0, locals := 125 } s m args below meth c H locs 0 0 Q (F0 m 25 ls []) := by
    intro n
    induction n with
    | zero =>
      intro z59288 z59289 z59290 F H locs ls hn rz59289 rz59290 r9s59287 hT hfr pf0 pf1 qz59289 qz59290 hl
      have rz59288 := rg_all z59288
      exfalso
      omega
    | succ n ih25 =>
      intro z59288 z59289 z59290 F H locs ls hn rz59289 rz59290 r9s59287 hT hfr pf0 pf1 qz59289 qz59290 hl
      have rz59288 := rg_all z59288
      refine lv_aload_n hx hb dX13_room_25 rfl (lv_at hl 0 rfl) ?_
      refine lv_aload_n hx hb dX13_room_26 rfl (lv_at hl 0 rfl) ?_
      refine t_get (C := RX13) (T := TX13) (N := 37) X hT m0 g0 rfl rfl 17 (by decide) qw_113 inlX13 rfl dX13_room_27 (fun v59291 hv59291 ov59291 => ?_)
      obtain rfl : v59291 = .ref x1 := hv59291.symm.trans pf1
      refine lv_iload_n hx hb dX13_room_30 rfl (lv_at hl 1 rfl) ?_
      refine t_cVi (n := 2) (C := RX13) (T := TX13) (N := 37) (As := [.ref x1, .int p1]) (rest := []) X hT (km146_X13_findsDoor l G tag L F hT.2.2.2 p0 x1 p1 x0 z59290 m0 g0 mx1 gx1 (by omega) mx0 gx0 pf0 (by omega) qz59290) m0 g0 rfl rfl qw_934 qw_935 qw_936 qw_5 qw_937 ⟨rfl, by decide +kernel, by decide +kernel, by decide +kernel⟩ ⟨Nat.le_of_ble_eq_true rfl, Nat.le_of_ble_eq_true rfl⟩ hl rfl rfl (Nat.le_of_ble_eq_true rfl) dX13_room_31 ⟨Nat.le_of_ble_eq_true rfl, Nat.le_of_ble_eq_true rfl⟩ (fun z59292 F H locs hT hz59292 => ?_)
      obtain ⟨hz59292, yz59292, xz59292_0⟩ := hz59292
      have qz59289 := (yz59292.1 _ 0 (Or.inr (by decide)) (Or.inr (by decide))).trans qz59289
      have qz59290 := (yz59292.2 _ _ ).trans qz59290
      have pf0 := (yz59292.1 _ 3 (Or.inr (by decide)) (Or.inr (by decide))).trans pf0
      have pf1 := (yz59292.1 _ 17 (Or.inr (by decide)) (Or.inr (by decide))).trans pf1
      have hfr : (∀ b j : Nat, (tag b ≠ 46 ∨ j ≠ 0) → (tag b ≠ 46 ∨ j ≠ 1) → (tag b ≠ 46 ∨ j ≠ 2) → (tag b ≠ 46 ∨ j ≠ 22) → (tag b ≠ 46 ∨ j ≠ 23) → fld F b j = fld Fo b j) ∧ (∀ b j : Nat, tag b ≠ 37 → elm F b j = elm Fo b j) := ⟨fun b j n46_0 n46_1 n46_2 n46_22 n46_23 => (yz59292.1 b j n46_22 n46_23).trans (hfr.1 b j n46_0 n46_1 n46_2 n46_22 n46_23), fun b j a37 => (yz59292.2 b j ).trans (hfr.2 b j a37)⟩
      refine lv_if_eq (tgt := 70) hx hb dX13_room_34 (by decide) (fun c59293 => ?_) (fun c59293 => ?_)
      · have w59294 := cv_eq (rfl : z59292.toInt = z59292.toInt) (by decide : (0 : Int32).toInt = 0) c59293
        refine lv_aload_n hx hb dX13_room_70 rfl (lv_at hl 0 rfl) ?_
        refine lv_iload_n hx hb dX13_room_71 rfl (lv_at hl 2 rfl) ?_
        refine t_cVi (n := 1) (C := RX13) (T := TX13) (N := 37) (As := [.int z59288]) (rest := []) X hT (km93_X13_good l G tag L F hT.2.2.2 p0 z59288 m0 g0) m0 g0 rfl rfl qw_687 qw_688 qw_689 qw_5 qw_690 ⟨rfl, by decide +kernel, by decide +kernel, by decide +kernel⟩ ⟨Nat.le_of_ble_eq_true rfl, Nat.le_of_ble_eq_true rfl⟩ hl rfl rfl (Nat.le_of_ble_eq_true rfl) dX13_room_72 ⟨Nat.le_of_ble_eq_true rfl, Nat.le_of_ble_eq_true rfl⟩ (fun z59295 F H locs hT hz59295 => ?_)
        obtain ⟨hz59295, yz59295⟩ := hz59295
        have qz59289 := (yz59295.1 _ 0 (Or.inr (by decide)) (Or.inr (by decide))).trans qz59289
        have qz59290 := (yz59295.2 _ _ ).trans qz59290
        have pf0 := (yz59295.1 _ 3 (Or.inr (by decide)) (Or.inr (by decide))).trans pf0
        have pf1 := (yz59295.1 _ 17 (Or.inr (by decide)) (Or.inr (by decide))).trans pf1
        have hfr : (∀ b j : Nat, (tag b ≠ 46 ∨ j ≠ 0) → (tag b ≠ 46 ∨ j ≠ 1) → (tag b ≠ 46 ∨ j ≠ 2) → (tag b ≠ 46 ∨ j ≠ 22) → (tag b ≠ 46 ∨ j ≠ 23) → fld F b j = fld Fo b j) ∧ (∀ b j : Nat, tag b ≠ 37 → elm F b j = elm Fo b j) := ⟨fun b j n46_0 n46_1 n46_2 n46_22 n46_23 => (yz59295.1 b j n46_1 n46_2).trans (hfr.1 b j n46_0 n46_1 n46_2 n46_22 n46_23), fun b j a37 => (yz59295.2 b j ).trans (hfr.2 b j a37)⟩
        exact t_iret hQ X hT (⟨rg_all _, hfr⟩) (Nat.le_of_ble_eq_true rfl) (Nat.le_of_ble_eq_true rfl) dX13_room_75
      · have w59296 := cv_ne (rfl : z59292.toInt = z59292.toInt) (by decide : (0 : Int32).toInt = 0) c59293
        have w59297 := xz59292_0 (by omega)
        refine lv_aload_n hx hb dX13_room_37 rfl (lv_at hl 0 rfl) ?_
        refine t_get (C := RX13) (T := TX13) (N := 37) X hT m0 g0 rfl rfl 17 (by decide) qw_113 inlX13 rfl dX13_room_38 (fun v59298 hv59298 ov59298 => ?_)
        obtain rfl : v59298 = .ref x1 := hv59298.symm.trans pf1
        refine lv_iload_n hx hb dX13_room_41 rfl (lv_at hl 1 rfl) ?_
        refine lv_aload_n hx hb dX13_room_42 rfl (lv_at hl 0 rfl) ?_
        refine t_get (C := RX13) (T := TX13) (N := 37) X hT m0 g0 rfl rfl 3 (by decide) qw_481 inlX13 rfl dX13_room_43 (fun v59299 hv59299 ov59299 => ?_)
        obtain rfl : v59299 = .ref x0 := hv59299.symm.trans pf0
        refine t_getN (C := RX12) (T := TX12) (N := 31) X hT mx0 gx0 rfl rfl 22 (by decide) (List.mem_of_getElem? (i := 26) rfl) inlX12 rfl dX13_room_46 (fun v59300 hv59300 ov59300 => ?_)
        obtain ⟨b59301, rfl, mb59301, gb59301⟩ := okV_r ov59300
        have gb59301 : tag b59301 = 31 := tg_of gb59301
        refine lv_iload_n hx hb dX13_room_49 rfl (lv_at hl 1 rfl) ?_
        refine t_ild X hT mb59301 gb59301 rfl (by omega) dX13_room_50 (fun z59302 vz59302 rz59302 => ?_)
        have rz59302 : 0 ≤ z59302.toInt ∧ z59302.toInt ≤ 3 := rz59302
        refine lv_aload_n hx hb dX13_room_51 rfl (lv_at hl 0 rfl) ?_
        refine t_get (C := RX13) (T := TX13) (N := 37) X hT m0 g0 rfl rfl 22 (by decide) qw_932 inlX13 rfl dX13_room_52 (fun v59303 hv59303 ov59303 => ?_)
        obtain ⟨z59304, rfl, rz59304⟩ := okV_i ov59303
        refine lv_aload_n hx hb dX13_room_55 rfl (lv_at hl 0 rfl) ?_
        refine t_get (C := RX13) (T := TX13) (N := 37) X hT m0 g0 rfl rfl 23 (by decide) qw_933 inlX13 rfl dX13_room_56 (fun v59305 hv59305 ov59305 => ?_)
        obtain ⟨z59306, rfl, rz59306⟩ := okV_i ov59305
        refine lv_iconst (v := 0) hx hb dX13_room_59 (by decide) ?_
        refine lv_iconst (v := 0) hx hb dX13_room_60 (by decide) ?_
        refine t_cSv (n := 7) (As := [.ref x1, .int p1, .int z59302, .int z59304, .int z59306, .int 0, .int 0]) (rest := []) X hT (km50_X13_adds l G tag L F hT.2.2.2 x1 p1 z59302 z59304 z59306 0 0 z59290 mx1 gx1 (by omega) (by omega) (by omega) qz59290) qw_658 qw_659 qw_5 qw_660 ⟨by decide +kernel, by decide +kernel, by decide +kernel⟩ ⟨Nat.le_of_ble_eq_true rfl, Nat.le_of_ble_eq_true rfl⟩ hl rfl rfl (Nat.le_of_ble_eq_true rfl) dX13_room_61 ⟨Nat.le_of_ble_eq_true rfl, Nat.le_of_ble_eq_true rfl⟩ (fun F H locs hT hz59307 => ?_)
        obtain ⟨yz59307, xz59307_0⟩ := hz59307
        have qz59289 := (yz59307.1 _ 0 ).trans qz59289
        have pf0 := (yz59307.1 _ 3 ).trans pf0
        have pf1 := (yz59307.1 _ 17 ).trans pf1
        have hv59300 := (yz59307.1 _ 22 ).trans hv59300
        have vz59302 := (yz59307.2 _ _ (by rw [gb59301]; decide)).trans vz59302
        have hv59303 := (yz59307.1 _ 22 ).trans hv59303
        have hv59305 := (yz59307.1 _ 23 ).trans hv59305
        have hfr : (∀ b j : Nat, (tag b ≠ 46 ∨ j ≠ 0) → (tag b ≠ 46 ∨ j ≠ 1) → (tag b ≠ 46 ∨ j ≠ 2) → (tag b ≠ 46 ∨ j ≠ 22) → (tag b ≠ 46 ∨ j ≠ 23) → fld F b j = fld Fo b j) ∧ (∀ b j : Nat, tag b ≠ 37 → elm F b j = elm Fo b j) := ⟨fun b j n46_0 n46_1 n46_2 n46_22 n46_23 => (yz59307.1 b j ).trans (hfr.1 b j n46_0 n46_1 n46_2 n46_22 n46_23), fun b j a37 => (yz59307.2 b j a37).trans (hfr.2 b j a37)⟩
        obtain ⟨z59308, qz59308, hz59308⟩ := xz59307_0
        have rz59308 : 1 ≤ z59308.toInt ∧ z59308.toInt ≤ 6 := by omega
        obtain ⟨z59309, ez59309⟩ : ∃ y : Int32, y = z59288 + 1 := ⟨_, rfl⟩
        have rz59309 := rg_all z59309
        refine lv_iinc (v := z59309) (lv' := [(2, .int z59309), (0, .ref p0), (1, .int p1)]) hx hb dX13_room_64 hl (k := 2) rfl (by rw [ez59309]; rfl) (by decide) rfl (fun ls hl => ?_)
        refine lv_goto (tgt := 25) hx hb dX13_room_67 (by decide) ?_
        exact ih25 z59309 z59289 z59308 _ _ _ _ (by omega) (by omega) (by omega) (by omega) hT hfr pf0 pf1 qz59289 qz59308 (lv_sub hl [1, 2, 0] rfl)
  refine lv_aload_n hx hb dX13_room_0 rfl (lv_at hl 0 rfl) ?_
  refine lv_iconst (v := 0) hx hb dX13_room_1 (by decide) ?_
  refine t_put (C := RX13) (T := TX13) (N := 37) (v := .int 0) X hT m0 g0 rfl tyX13 tyX13_ok nmX13 rfl 0 (by decide) qw_140 inlX13 rfl (by first | rfl | decide) (by first | rfl | decide) rfl (⟨_, rfl, (show (-2147483648) ≤ (0 : Int32).toInt from (by decide)), (show (0 : Int32).toInt ≤ 2147483647 from (by decide))⟩) dX13_room_2 (fun F H locs hT v59310 h1v59310 h2v59310 => ?_)
  have pf0 := (h1v59310 _ _ (Or.inr (by decide))).trans pf0
  have pf1 := (h1v59310 _ _ (Or.inr (by decide))).trans pf1
  have hfr : (∀ b j : Nat, (tag b ≠ 46 ∨ j ≠ 0) → (tag b ≠ 46 ∨ j ≠ 1) → (tag b ≠ 46 ∨ j ≠ 2) → (tag b ≠ 46 ∨ j ≠ 22) → (tag b ≠ 46 ∨ j ≠ 23) → fld F b j = fld Fo b j) ∧ (∀ b j : Nat, tag b ≠ 37 → elm F b j = elm Fo b j) := ⟨fun b j n46_0 n46_1 n46_2 n46_22 n46_23 => (h1v59310 b j (fr_ne g0 n46_0)).trans (hfr.1 b j n46_0 n46_1 n46_2 n46_22 n46_23), fun b j a37 => (h2v59310 b j).trans (hfr.2 b j a37)⟩
  refine lv_aload_n hx hb dX13_room_5 rfl (lv_at hl 0 rfl) ?_
  refine lv_iload_n hx hb dX13_room_6 rfl (lv_at hl 1 rfl) ?_
  refine t_cVi (n := 1) (C := RX13) (T := TX13) (N := 37) (As := [.int p1]) (rest := []) X hT (km107_X13_isHouse l G tag L F hT.2.2.2 p0 p1 x0 m0 g0 mx0 gx0 pf0) m0 g0 rfl rfl qw_796 qw_797 qw_798 qw_5 qw_799 ⟨rfl, by decide +kernel, by decide +kernel, by decide +kernel⟩ ⟨Nat.le_of_ble_eq_true rfl, Nat.le_of_ble_eq_true rfl⟩ hl rfl rfl (Nat.le_of_ble_eq_true rfl) dX13_room_7 ⟨Nat.le_of_ble_eq_true rfl, Nat.le_of_ble_eq_true rfl⟩ (fun z59311 F9 H locs hT hz59311 => ?_)
  obtain ⟨fz59311, hz59311⟩ := hz59311
  rw [fz59311] at hT
  obtain ⟨hz59311, iz59311⟩ := hz59311
  refine lv_if_ne (tgt := 19) hx hb dX13_room_10 (by decide) (fun c59312 => ?_) (fun c59312 => ?_)
  · have w59313 := cv_ne (rfl : z59311.toInt = z59311.toInt) (by decide : (0 : Int32).toInt = 0) c59312
    have w59314 := (fun h => (iz59311 h)) (by omega)
    refine lv_aload_n hx hb dX13_room_19 rfl (lv_at hl 0 rfl) ?_
    refine t_cVv (n := 0) (C := RX13) (T := TX13) (N := 37) (As := []) (rest := []) X hT (km176_X13_copies l G tag L F hT.2.2.2 p0 m0 g0) m0 g0 rfl rfl qw_1152 qw_1153 qw_1154 qw_5 qw_1155 ⟨rfl, by decide +kernel, by decide +kernel, by decide +kernel⟩ ⟨Nat.le_of_ble_eq_true rfl, Nat.le_of_ble_eq_true rfl⟩ hl rfl rfl (Nat.le_of_ble_eq_true rfl) dX13_room_20 ⟨Nat.le_of_ble_eq_true rfl, Nat.le_of_ble_eq_true rfl⟩ (fun F H locs hT hz59315 => ?_)
    have yz59315 := hz59315
    have pf0 := (yz59315.1 _ 3 ).trans pf0
    have pf1 := (yz59315.1 _ 17 ).trans pf1
    have v59310 := (yz59315.1 _ 0 ).trans v59310
    have hfr : (∀ b j : Nat, (tag b ≠ 46 ∨ j ≠ 0) → (tag b ≠ 46 ∨ j ≠ 1) → (tag b ≠ 46 ∨ j ≠ 2) → (tag b ≠ 46 ∨ j ≠ 22) → (tag b ≠ 46 ∨ j ≠ 23) → fld F b j = fld Fo b j) ∧ (∀ b j : Nat, tag b ≠ 37 → elm F b j = elm Fo b j) := ⟨fun b j n46_0 n46_1 n46_2 n46_22 n46_23 => (yz59315.1 b j ).trans (hfr.1 b j n46_0 n46_1 n46_2 n46_22 n46_23), fun b j a37 => (yz59315.2 b j a37).trans (hfr.2 b j a37)⟩
    refine lv_iconst (v := 0) hx hb dX13_room_23 (by decide) ?_
    refine lv_istore_n (lv' := [(2, .int 0), (0, .ref p0), (1, .int p1)]) hx hb dX13_room_24 rfl hl (by decide) rfl (fun ls hl => ?_)
    obtain ⟨z59316, qz59316, rz59316⟩ := t_elm hT mx1 gx1 rfl (i := p1) (by omega)
    have rz59316 := row_ml (by omega) rz59316
    have rz59316 : 0 ≤ z59316.toInt ∧ z59316.toInt ≤ 6 := rz59316
    have k59317 : (0 : Int32).toInt = 0 := by decide
    have k59318 : (0 : Int32).toInt = 0 := by decide
    exact K25 7 0 0 z59316 _ _ _ _ (by omega) (by decide) (by omega) (by omega) hT hfr pf0 pf1 v59310 qz59316 (lv_sub hl [1, 2, 0] rfl)
  · have w59319 := cv_eq (rfl : z59311.toInt = z59311.toInt) (by decide : (0 : Int32).toInt = 0) c59312
    refine lv_aload_n hx hb dX13_room_13 rfl (lv_at hl 0 rfl) ?_
    refine lv_iconst (v := 1) hx hb dX13_room_14 (by decide) ?_
    refine t_cVi (n := 1) (C := RX13) (T := TX13) (N := 37) (As := [.int 1]) (rest := []) X hT (km88_X13_refused l G tag L F hT.2.2.2 p0 1 m0 g0) m0 g0 rfl rfl qw_484 qw_485 qw_486 qw_5 qw_487 ⟨rfl, by decide +kernel, by decide +kernel, by decide +kernel⟩ ⟨Nat.le_of_ble_eq_true rfl, Nat.le_of_ble_eq_true rfl⟩ hl rfl rfl (Nat.le_of_ble_eq_true rfl) dX13_room_15 ⟨Nat.le_of_ble_eq_true rfl, Nat.le_of_ble_eq_true rfl⟩ (fun z59320 F H locs hT hz59320 => ?_)
    obtain ⟨hz59320, yz59320⟩ := hz59320
    have pf0 := (yz59320.1 _ 3 (Or.inr (by decide)) (Or.inr (by decide))).trans pf0
    have pf1 := (yz59320.1 _ 17 (Or.inr (by decide)) (Or.inr (by decide))).trans pf1
    have v59310 := (yz59320.1 _ 0 (Or.inr (by decide)) (Or.inr (by decide))).trans v59310
    have hfr : (∀ b j : Nat, (tag b ≠ 46 ∨ j ≠ 0) → (tag b ≠ 46 ∨ j ≠ 1) → (tag b ≠ 46 ∨ j ≠ 2) → (tag b ≠ 46 ∨ j ≠ 22) → (tag b ≠ 46 ∨ j ≠ 23) → fld F b j = fld Fo b j) ∧ (∀ b j : Nat, tag b ≠ 37 → elm F b j = elm Fo b j) := ⟨fun b j n46_0 n46_1 n46_2 n46_22 n46_23 => (yz59320.1 b j n46_1 n46_2).trans (hfr.1 b j n46_0 n46_1 n46_2 n46_22 n46_23), fun b j a37 => (yz59320.2 b j ).trans (hfr.2 b j a37)⟩
    exact t_iret hQ X hT (⟨rg_all _, hfr⟩) (Nat.le_of_ble_eq_true rfl) (Nat.le_of_ble_eq_true rfl) dX13_room_18
set_option maxHeartbeats 4000000 in
set_option maxRecDepth 100000 in
theorem km200_X13_room (l : Launch) (G : KG) (tag : Nat → Nat) (L : List Nat) (Fo : Nat → va_E) (ho : okT G ttC tag L Fo) (p0 : Nat) (p1 : Int32) (x1 : Nat) (m0 : p0 ∈ L) (g0 : tag p0 = 46) (pf0 : fld Fo p0 3 = .null) (mx1 : x1 ∈ L) (gx1 : tag x1 = 37) (pf1 : fld Fo p0 17 = .ref x1) : TMi l yX13_room cX13_room 3 (some .int) { frames := 5, cells := 0, slots := 0, locals := 125 } G ttC tag L Fo [.ref p0, .int p1] (fun r F1 => ((-2147483648) ≤ r.toInt ∧ r.toInt ≤ 2147483647) ∧ ((∀ b j : Nat, (tag b ≠ 46 ∨ j ≠ 0) → (tag b ≠ 46 ∨ j ≠ 1) → (tag b ≠ 46 ∨ j ≠ 2) → (tag b ≠ 46 ∨ j ≠ 22) → (tag b ≠ 46 ∨ j ≠ 23) → fld F1 b j = fld Fo b j) ∧ (∀ b j : Nat, tag b ≠ 37 → elm F1 b j = elm Fo b j))) := by
  refine t_bodyi (y := yX13_room) (cd := cX13_room) (mL := 3) (rt := (some .int)) (rm := { frames := 5, cells := 0, slots := 0, locals := 125 }) (av := [.ref p0, .int p1]) (by decide) (Nat.le_of_ble_eq_true rfl) ho ?_
  intro p e s m args below meth c ls A Q hQ X hT hl
  have hx := X.1.1
  have hb := X.1.2.1
  have hl : lv_has ls 3 [(0, .ref p0), (1, .int p1)] := hl
  have rp1 := rg_all p1
  obtain ⟨F, hFo⟩ : ∃ F : Nat → va_E, F = Fo := ⟨_, rfl⟩
  rw [← hFo] at hT pf0 pf1
  have hfr : (∀ b j : Nat, (tag b ≠ 46 ∨ j ≠ 0) → (tag b ≠ 46 ∨ j ≠ 1) → (tag b ≠ 46 ∨ j ≠ 2) → (tag b ≠ 46 ∨ j ≠ 22) → (tag b ≠ 46 ∨ j ≠ 23) → fld F b j = fld Fo b j) ∧ (∀ b j : Nat, tag b ≠ 37 → elm F b j = elm Fo b j) := by
    rw [hFo]
    exact ⟨by intros; rfl, by intros; rfl⟩
  refine lv_aload_n hx hb dX13_room_0 rfl (lv_at hl 0 rfl) ?_
  refine lv_iconst (v := 0) hx hb dX13_room_1 (by decide) ?_
  refine t_put (C := RX13) (T := TX13) (N := 37) (v := .int 0) X hT m0 g0 rfl tyX13 tyX13_ok nmX13 rfl 0 (by decide) qw_140 inlX13 rfl (by first | rfl | decide) (by first | rfl | decide) rfl (⟨_, rfl, (show (-2147483648) ≤ (0 : Int32).toInt from (by decide)), (show (0 : Int32).toInt ≤ 2147483647 from (by decide))⟩) dX13_room_2 (fun F H locs hT v59387 h1v59387 h2v59387 => ?_)
  have pf0 := (h1v59387 _ _ (Or.inr (by decide))).trans pf0
  have pf1 := (h1v59387 _ _ (Or.inr (by decide))).trans pf1
  have hfr : (∀ b j : Nat, (tag b ≠ 46 ∨ j ≠ 0) → (tag b ≠ 46 ∨ j ≠ 1) → (tag b ≠ 46 ∨ j ≠ 2) → (tag b ≠ 46 ∨ j ≠ 22) → (tag b ≠ 46 ∨ j ≠ 23) → fld F b j = fld Fo b j) ∧ (∀ b j : Nat, tag b ≠ 37 → elm F b j = elm Fo b j) := ⟨fun b j n46_0 n46_1 n46_2 n46_22 n46_23 => (h1v59387 b j (fr_ne g0 n46_0)).trans (hfr.1 b j n46_0 n46_1 n46_2 n46_22 n46_23), fun b j a37 => (h2v59387 b j).trans (hfr.2 b j a37)⟩
  refine lv_aload_n hx hb dX13_room_5 rfl (lv_at hl 0 rfl) ?_
  refine lv_iload_n hx hb dX13_room_6 rfl (lv_at hl 1 rfl) ?_
  refine t_cVi (n := 1) (C := RX13) (T := TX13) (N := 37) (As := [.int p1]) (rest := []) X hT (km116_X13_isHouse l G tag L F hT.2.2.2 p0 p1 m0 g0 pf0) m0 g0 rfl rfl qw_796 qw_797 qw_798 qw_5 qw_799 ⟨rfl, by decide +kernel, by decide +kernel, by decide +kernel⟩ ⟨Nat.le_of_ble_eq_true rfl, Nat.le_of_ble_eq_true rfl⟩ hl rfl rfl (Nat.le_of_ble_eq_true rfl) dX13_room_7 ⟨Nat.le_of_ble_eq_true rfl, Nat.le_of_ble_eq_true rfl⟩ (fun z59388 F9 H locs hT hz59388 => ?_)
  obtain ⟨fz59388, hz59388⟩ := hz59388
  rw [fz59388] at hT
  refine lv_if_ne (tgt := 19) hx hb dX13_room_10 (by decide) (fun c59389 => ?_) (fun c59389 => ?_)
  · have w59390 := cv_ne (rfl : z59388.toInt = z59388.toInt) (by decide : (0 : Int32).toInt = 0) c59389
    exfalso
    omega
  · have w59391 := cv_eq (rfl : z59388.toInt = z59388.toInt) (by decide : (0 : Int32).toInt = 0) c59389
    refine lv_aload_n hx hb dX13_room_13 rfl (lv_at hl 0 rfl) ?_
    refine lv_iconst (v := 1) hx hb dX13_room_14 (by decide) ?_
    refine t_cVi (n := 1) (C := RX13) (T := TX13) (N := 37) (As := [.int 1]) (rest := []) X hT (km88_X13_refused l G tag L F hT.2.2.2 p0 1 m0 g0) m0 g0 rfl rfl qw_484 qw_485 qw_486 qw_5 qw_487 ⟨rfl, by decide +kernel, by decide +kernel, by decide +kernel⟩ ⟨Nat.le_of_ble_eq_true rfl, Nat.le_of_ble_eq_true rfl⟩ hl rfl rfl (Nat.le_of_ble_eq_true rfl) dX13_room_15 ⟨Nat.le_of_ble_eq_true rfl, Nat.le_of_ble_eq_true rfl⟩ (fun z59392 F H locs hT hz59392 => ?_)
    obtain ⟨hz59392, yz59392⟩ := hz59392
    have pf0 := (yz59392.1 _ 3 (Or.inr (by decide)) (Or.inr (by decide))).trans pf0
    have pf1 := (yz59392.1 _ 17 (Or.inr (by decide)) (Or.inr (by decide))).trans pf1
    have v59387 := (yz59392.1 _ 0 (Or.inr (by decide)) (Or.inr (by decide))).trans v59387
    have hfr : (∀ b j : Nat, (tag b ≠ 46 ∨ j ≠ 0) → (tag b ≠ 46 ∨ j ≠ 1) → (tag b ≠ 46 ∨ j ≠ 2) → (tag b ≠ 46 ∨ j ≠ 22) → (tag b ≠ 46 ∨ j ≠ 23) → fld F b j = fld Fo b j) ∧ (∀ b j : Nat, tag b ≠ 37 → elm F b j = elm Fo b j) := ⟨fun b j n46_0 n46_1 n46_2 n46_22 n46_23 => (yz59392.1 b j n46_1 n46_2).trans (hfr.1 b j n46_0 n46_1 n46_2 n46_22 n46_23), fun b j a37 => (yz59392.2 b j ).trans (hfr.2 b j a37)⟩
    exact t_iret hQ X hT (⟨rg_all _, hfr⟩) (Nat.le_of_ble_eq_true rfl) (Nat.le_of_ble_eq_true rfl) dX13_room_18
theorem kp_X13_room (l : Launch) (G : KG) (tag : Nat → Nat) (L : List Nat) (Fo : Nat → va_E) (ho : okT G ttC tag L Fo) (p0 : Nat) (p1 : Int32) (m0 : p0 ∈ L) (g0 : tag p0 = 46) : TMi l yX13_room cX13_room 3 (some .int) { frames := 5, cells := 0, slots := 0, locals := 125 } G ttC tag L Fo [.ref p0, .int p1] (fun r F1 => ((-2147483648) ≤ r.toInt ∧ r.toInt ≤ 2147483647) ∧ ((∀ b j : Nat, (tag b ≠ 46 ∨ j ≠ 0) → (tag b ≠ 46 ∨ j ≠ 1) → (tag b ≠ 46 ∨ j ≠ 2) → (tag b ≠ 46 ∨ j ≠ 22) → (tag b ≠ 46 ∨ j ≠ 23) → fld F1 b j = fld Fo b j) ∧ (∀ b j : Nat, tag b ≠ 37 → elm F1 b j = elm Fo b j))) := by
  obtain ⟨e1, qe1, me1, ge1⟩ := t_fldo ho m0 g0 rfl 17 rfl
  rcases t_fldn ho m0 g0 rfl 3 rfl with h9 | ⟨b9, h9, m9, t9⟩
  · exact km200_X13_room l G tag L Fo ho p0 p1 e1 m0 g0 h9 me1 (tg_of ge1) qe1
  · exact km199_X13_room l G tag L Fo ho p0 p1 b9 e1 m0 g0 m9 (tg_of t9) h9 me1 (tg_of ge1) qe1
set_option maxHeartbeats 4000000 in
set_option maxRecDepth 100000 in
theorem km202_X13_swaps (l : Launch) (G : KG) (tag : Nat → Nat) (L : List Nat) (Fo : Nat → va_E) (ho : okT G ttC tag L Fo) (p0 : Nat) (p1 : Int32) (p2 : Int32) (m0 : p0 ∈ L) (g0 : tag p0 = 40) (h1 : 0 ≤ p1.toInt ∧ p1.toInt ≤ 3) (h2 : 0 ≤ p2.toInt ∧ p2.toInt ≤ 3) : TMv l yX13_swaps cX13_swaps 4 { frames := 0, cells := 0, slots := 0, locals := 0 } G ttC tag L Fo [.ref p0, .int p1, .int p2] (fun F1 => ((∀ b j : Nat, fld F1 b j = fld Fo b j) ∧ (∀ b j : Nat, tag b ≠ 40 → elm F1 b j = elm Fo b j)) ∧ (SWP Fo F1 p0 p1.toNatClampNeg p2.toNatClampNeg)) := by
  refine t_bodyv (y := yX13_swaps) (cd := cX13_swaps) (mL := 4) (rm := { frames := 0, cells := 0, slots := 0, locals := 0 }) (av := [.ref p0, .int p1, .int p2]) (by decide) (Nat.le_of_ble_eq_true rfl) ho ?_
  intro p e s m args below meth c ls A Q hQ X hT hl
  have hx := X.1.1
  have hb := X.1.2.1
  have hl : lv_has ls 4 [(0, .ref p0), (1, .int p1), (2, .int p2)] := hl
  obtain ⟨F, hFo⟩ : ∃ F : Nat → va_E, F = Fo := ⟨_, rfl⟩
  rw [← hFo] at hT
  have hfr : (∀ b j : Nat, fld F b j = fld Fo b j) ∧ (∀ b j : Nat, tag b ≠ 40 → elm F b j = elm Fo b j) := by
    rw [hFo]
    exact ⟨by intros; rfl, by intros; rfl⟩
  have hgh : ∀ k : Nat, elm F p0 k = elm Fo p0 k := fun k => by rw [hFo]
  refine lv_aload_n hx hb dX13_swaps_0 rfl (lv_at hl 0 rfl) ?_
  refine lv_iload_n hx hb dX13_swaps_1 rfl (lv_at hl 1 rfl) ?_
  refine t_ild X hT m0 g0 rfl (by omega) dX13_swaps_2 (fun z59536 vz59536 rz59536 => ?_)
  have gz59536 := vz59536.symm.trans (hgh _)
  have rz59536 : 0 ≤ z59536.toInt ∧ z59536.toInt ≤ 3 := rz59536
  refine lv_istore_n (lv' := [(3, .int z59536), (0, .ref p0), (1, .int p1), (2, .int p2)]) hx hb dX13_swaps_3 rfl hl (by decide) rfl (fun ls hl => ?_)
  refine lv_aload_n hx hb dX13_swaps_4 rfl (lv_at hl 1 rfl) ?_
  refine lv_iload_n hx hb dX13_swaps_5 rfl (lv_at hl 2 rfl) ?_
  refine lv_aload_n hx hb dX13_swaps_6 rfl (lv_at hl 1 rfl) ?_
  refine lv_iload_n hx hb dX13_swaps_7 rfl (lv_at hl 3 rfl) ?_
  refine t_ild X hT m0 g0 rfl (by omega) dX13_swaps_8 (fun z59537 vz59537 rz59537 => ?_)
  have gz59537 := vz59537.symm.trans (hgh _)
  have rz59537 : 0 ≤ z59537.toInt ∧ z59537.toInt ≤ 3 := rz59537
  refine t_ist X hT m0 g0 rfl (by omega) (show 0 ≤ (z59537 : Int32).toInt ∧ (z59537 : Int32).toInt ≤ 3 from (by omega)) dX13_swaps_9 (fun F H locs hT v59538 h1v59538 h2v59538 => ?_)
  have hgh : ∀ k : Nat, elm F p0 k = if k = p1.toNatClampNeg then z59537 else elm Fo p0 k := fun k => by
    by_cases h9 : k = p1.toNatClampNeg
    · rw [if_pos h9, h9]; exact v59538
    · rw [if_neg h9]; exact (h1v59538 _ _ (Or.inr h9)).trans (hgh k)
  have hfr : (∀ b j : Nat, fld F b j = fld Fo b j) ∧ (∀ b j : Nat, tag b ≠ 40 → elm F b j = elm Fo b j) := ⟨fun b j  => (h2v59538 b j).trans (hfr.1 b j ), fun b j a40 => (h1v59538 b j (Or.inl (at_ne g0 a40))).trans (hfr.2 b j a40)⟩
  refine lv_aload_n hx hb dX13_swaps_10 rfl (lv_at hl 1 rfl) ?_
  refine lv_iload_n hx hb dX13_swaps_11 rfl (lv_at hl 3 rfl) ?_
  refine lv_iload_n hx hb dX13_swaps_12 rfl (lv_at hl 0 rfl) ?_
  refine t_ist X hT m0 g0 rfl (by omega) (show 0 ≤ (z59536 : Int32).toInt ∧ (z59536 : Int32).toInt ≤ 3 from (by omega)) dX13_swaps_13 (fun F H locs hT v59539 h1v59539 h2v59539 => ?_)
  have hgh : ∀ k : Nat, elm F p0 k = if k = p2.toNatClampNeg then z59536 else (if k = p1.toNatClampNeg then z59537 else elm Fo p0 k) := fun k => by
    by_cases h9 : k = p2.toNatClampNeg
    · rw [if_pos h9, h9]; exact v59539
    · rw [if_neg h9]; exact (h1v59539 _ _ (Or.inr h9)).trans (hgh k)
  have hfr : (∀ b j : Nat, fld F b j = fld Fo b j) ∧ (∀ b j : Nat, tag b ≠ 40 → elm F b j = elm Fo b j) := ⟨fun b j  => (h2v59539 b j).trans (hfr.1 b j ), fun b j a40 => (h1v59539 b j (Or.inl (at_ne g0 a40))).trans (hfr.2 b j a40)⟩
  exact t_vret hQ X hT ⟨hfr, (fun k => by rw [hgh k, gz59536, gz59537])⟩ (Nat.le_of_ble_eq_true rfl) (Nat.le_of_ble_eq_true rfl) dX13_swaps_14
set_option maxHeartbeats 4000000 in
set_option maxRecDepth 100000 in
theorem km203_X13_turns (l : Launch) (G : KG) (tag : Nat → Nat) (L : List Nat) (Fo : Nat → va_E) (ho : okT G ttC tag L Fo) (p0 : Nat) (p1 : Int32) (lx : Int) (m0 : p0 ∈ L) (g0 : tag p0 = 40) (h1 : 0 ≤ p1.toInt ∧ p1.toInt ≤ 4) (xh0 : CAR Fo p0 4 lx) : TMi l yX13_turns cX13_turns 6 (some .boolean) { frames := 1, cells := 0, slots := 0, locals := 23 } G ttC tag L Fo [.ref p0, .int p1] (fun r F1 => (0 ≤ r.toInt ∧ r.toInt ≤ 1) ∧ ((∀ b j : Nat, fld F1 b j = fld Fo b j) ∧ (∀ b j : Nat, tag b ≠ 40 → elm F1 b j = elm Fo b j)) ∧ (r.toInt ≠ 0 → ∃ lx9 : Int, CAR F1 p0 4 lx9 ∧ lx < lx9)) := by
  refine t_bodyi (y := yX13_turns) (cd := cX13_turns) (mL := 6) (rt := (some .boolean)) (rm := { frames := 1, cells := 0, slots := 0, locals := 23 }) (av := [.ref p0, .int p1]) (by decide) (Nat.le_of_ble_eq_true rfl) ho ?_
  intro p e s m args below meth c ls A Q hQ X hT hl
  have hx := X.1.1
  have hb := X.1.2.1
  have hl : lv_has ls 6 [(0, .ref p0), (1, .int p1)] := hl
  obtain ⟨F, hFo⟩ : ∃ F : Nat → va_E, F = Fo := ⟨_, rfl⟩
  rw [← hFo] at hT
  have hfr : (∀ b j : Nat, fld F b j = fld Fo b j) ∧ (∀ b j : Nat, tag b ≠ 40 → elm F b j = elm Fo b j) := by
    rw [hFo]
    exact ⟨by intros; rfl, by intros; rfl⟩
  have K66 : ∀ (n : Nat) (z59918 : Int32) (z59919 : Int32) (z59920 : Int32) (z59921 : Int32) (F : Nat → va_E) (H : Heap) (locs : List Loc) (ls : Array Slot), (3 - z59920.toInt < (n : Int)) → (0 ≤ z59918.toInt ∧ z59918.toInt ≤ 2) → (1 ≤ z59919.toInt ∧ z59919.toInt ≤ 3) → (1 ≤ z59920.toInt ∧ z59920.toInt ≤ 3) → ((-1) ≤ z59921.toInt ∧ z59921.toInt ≤ 3) → TH G ttC A s tag L F H locs → ((∀ b j : Nat, fld F b j = fld Fo b j) ∧ (∀ b j : Nat, tag b ≠ 40 → elm F b j = elm Fo b j)) → (DJ F p0 4) → (∀ k : Nat, k < z59918.toNatClampNeg → elm F p0 k = elm Fo p0 k) → ((elm Fo p0 z59918.toNatClampNeg).toInt < (elm F p0 z59918.toNatClampNeg).toInt) → (z59918.toInt + 1 ≤ z59920.toInt) → lv_has ls 6 [(0, .ref p0), (1, .int p1), (2, .int z59918), (3, .int z59919), (4, .int z59920), (5, .int z59921)] → W p l e { frames := 1, cells := 0, slots := 0, locals := 23 } s m args below meth c H locs 0 0 Q (F0 m 66 ls []) := by
    intro n
    induction n with
    | zero =>
      intro z59918 z59919 z59920 z59921 F H locs ls hn rz59918 rz59919 rz59920 rz59921 hT hfr ex66_0 ex66_1 ex66_2 ex66_3 hl
      exfalso
      omega
    | succ n ih66 =>
      intro z59918 z59919 z59920 z59921 F H locs ls hn rz59918 rz59919 rz59920 rz59921 hT hfr ex66_0 ex66_1 ex66_2 ex66_3 hl
      refine lv_iload hx hb dX13_turns_66 (lv_at hl 4 rfl) ?_
      refine lv_iload hx hb dX13_turns_68 (lv_at hl 5 rfl) ?_
      refine lv_icmp_ge (tgt := 90) hx hb dX13_turns_70 (by decide) (fun c59922 => ?_) (fun c59922 => ?_)
      · have w59923 := cv_le (rfl : z59921.toInt = z59921.toInt) (rfl : z59920.toInt = z59920.toInt) c59922
        refine lv_iconst (v := 1) hx hb dX13_turns_90 (by decide) ?_
        have k59924 : (1 : Int32).toInt = 1 := by decide
        exact t_zret hQ X hT (by decide) (⟨(by decide), hfr, (fun _ => tj_end (N := 4) (i := z59918) xh0 (t_rng hT m0 g0 rfl (by decide) (by decide)) ex66_0 ex66_1 ex66_2 (by omega) (by omega))⟩) (Nat.le_of_ble_eq_true rfl) (Nat.le_of_ble_eq_true rfl) dX13_turns_91
      · have w59925 := cv_nle (rfl : z59921.toInt = z59921.toInt) (rfl : z59920.toInt = z59920.toInt) c59922
        refine lv_aload_n hx hb dX13_turns_73 rfl (lv_at hl 0 rfl) ?_
        refine lv_iload hx hb dX13_turns_74 (lv_at hl 4 rfl) ?_
        refine lv_iload hx hb dX13_turns_76 (lv_at hl 5 rfl) ?_
        refine t_cSv (n := 3) (As := [.ref p0, .int z59920, .int z59921]) (rest := []) X hT (km202_X13_swaps l G tag L F hT.2.2.2 p0 z59920 z59921 m0 g0 (by omega) (by omega)) qw_1265 qw_1266 qw_5 qw_1267 ⟨by decide +kernel, by decide +kernel, by decide +kernel⟩ ⟨Nat.le_of_ble_eq_true rfl, Nat.le_of_ble_eq_true rfl⟩ hl rfl rfl (Nat.le_of_ble_eq_true rfl) dX13_turns_78 ⟨Nat.le_of_ble_eq_true rfl, Nat.le_of_ble_eq_true rfl⟩ (fun F H locs hT hz59926 => ?_)
        obtain ⟨yz59926, xz59926_0⟩ := hz59926
        have hfr : (∀ b j : Nat, fld F b j = fld Fo b j) ∧ (∀ b j : Nat, tag b ≠ 40 → elm F b j = elm Fo b j) := ⟨fun b j  => (yz59926.1 b j ).trans (hfr.1 b j ), fun b j a40 => (yz59926.2 b j a40).trans (hfr.2 b j a40)⟩
        have htj := tj_lp (N := 4) (i := z59918) ex66_0 ex66_1 ex66_2 xz59926_0 (by omega) (by omega) (by omega) (by omega)
        obtain ⟨z59927, ez59927⟩ : ∃ y : Int32, y = z59920 + 1 := ⟨_, rfl⟩
        have hz59927 : z59927.toInt = z59920.toInt + 1 := ar_add ez59927 rfl (by decide : (1 : Int32).toInt = 1) (by omega) (by omega)
        refine lv_iinc (v := z59927) (lv' := [(4, .int z59927), (0, .ref p0), (1, .int p1), (2, .int z59918), (3, .int z59919), (5, .int z59921)]) hx hb dX13_turns_81 hl (k := 4) rfl (by rw [ez59927]; rfl) (by decide) rfl (fun ls hl => ?_)
        obtain ⟨z59928, ez59928⟩ : ∃ y : Int32, y = z59921 + (-1) := ⟨_, rfl⟩
        have hz59928 : z59928.toInt = z59921.toInt + (-1) := ar_add ez59928 rfl (by decide : ((-1) : Int32).toInt = (-1)) (by omega) (by omega)
        refine lv_iinc (v := z59928) (lv' := [(5, .int z59928), (4, .int z59927), (0, .ref p0), (1, .int p1), (2, .int z59918), (3, .int z59919)]) hx hb dX13_turns_84 hl (k := 5) rfl (by rw [ez59928]; rfl) (by decide) rfl (fun ls hl => ?_)
        refine lv_goto (tgt := 66) hx hb dX13_turns_87 (by decide) ?_
        exact ih66 z59918 z59919 z59927 z59928 _ _ _ _ (by omega) (by omega) (by omega) (by omega) (by omega) hT hfr htj.1 htj.2.1 htj.2.2 (by omega) (lv_sub hl [2, 3, 4, 5, 1, 0] rfl)
  have K35 : ∀ (n : Nat) (z59929 : Int32) (z59930 : Int32) (F : Nat → va_E) (H : Heap) (locs : List Loc) (ls : Array Slot), (z59930.toInt - 0 < (n : Int)) → (0 ≤ z59929.toInt ∧ z59929.toInt ≤ 2) → ((-1) ≤ z59930.toInt ∧ z59930.toInt ≤ 3) → TH G ttC A s tag L F H locs → ((∀ b j : Nat, fld F b j = fld Fo b j) ∧ (∀ b j : Nat, tag b ≠ 40 → elm F b j = elm Fo b j)) → (∀ k : Nat, elm F p0 k = elm Fo p0 k) → (z59929.toInt + 1 ≤ z59930.toInt) → ((elm Fo p0 z59929.toNatClampNeg).toInt ≤ (elm Fo p0 (z59929.toNatClampNeg + 1)).toInt) → lv_has ls 6 [(0, .ref p0), (1, .int p1), (2, .int z59929), (3, .int z59930)] → W p l e { frames := 1, cells := 0, slots := 0, locals := 23 } s m args below meth c H locs 0 0 Q (F0 m 35 ls []) := by
    intro n
    induction n with
    | zero =>
      intro z59929 z59930 F H locs ls hn rz59929 rz59930 hT hfr ex35_0 ex35_1 ex35_2 hl
      exfalso
      omega
    | succ n ih35 =>
      intro z59929 z59930 F H locs ls hn rz59929 rz59930 hT hfr ex35_0 ex35_1 ex35_2 hl
      have w59931 : 1 ≤ z59930.toInt ∧ z59930.toInt ≤ 3 := by omega
      refine lv_aload_n hx hb dX13_turns_35 rfl (lv_at hl 0 rfl) ?_
      refine lv_iload_n hx hb dX13_turns_36 rfl (lv_at hl 3 rfl) ?_
      refine t_ild X hT m0 g0 rfl (by omega) dX13_turns_37 (fun z59932 vz59932 rz59932 => ?_)
      have rz59932 : 0 ≤ z59932.toInt ∧ z59932.toInt ≤ 3 := rz59932
      refine lv_aload_n hx hb dX13_turns_38 rfl (lv_at hl 0 rfl) ?_
      refine lv_iload_n hx hb dX13_turns_39 rfl (lv_at hl 2 rfl) ?_
      refine t_ild X hT m0 g0 rfl (by omega) dX13_turns_40 (fun z59933 vz59933 rz59933 => ?_)
      have rz59933 : 0 ≤ z59933.toInt ∧ z59933.toInt ≤ 3 := rz59933
      refine lv_icmp_ge (tgt := 50) hx hb dX13_turns_41 (by decide) (fun c59934 => ?_) (fun c59934 => ?_)
      · have w59935 := cv_le (rfl : z59933.toInt = z59933.toInt) (rfl : z59932.toInt = z59932.toInt) c59934
        refine lv_aload_n hx hb dX13_turns_50 rfl (lv_at hl 0 rfl) ?_
        refine lv_iload_n hx hb dX13_turns_51 rfl (lv_at hl 2 rfl) ?_
        refine lv_iload_n hx hb dX13_turns_52 rfl (lv_at hl 3 rfl) ?_
        refine t_cSv (n := 3) (As := [.ref p0, .int z59929, .int z59930]) (rest := []) X hT (km202_X13_swaps l G tag L F hT.2.2.2 p0 z59929 z59930 m0 g0 (by omega) (by omega)) qw_1265 qw_1266 qw_5 qw_1267 ⟨by decide +kernel, by decide +kernel, by decide +kernel⟩ ⟨Nat.le_of_ble_eq_true rfl, Nat.le_of_ble_eq_true rfl⟩ hl rfl rfl (Nat.le_of_ble_eq_true rfl) dX13_turns_53 ⟨Nat.le_of_ble_eq_true rfl, Nat.le_of_ble_eq_true rfl⟩ (fun F H locs hT hz59936 => ?_)
        obtain ⟨yz59936, xz59936_0⟩ := hz59936
        have hfr : (∀ b j : Nat, fld F b j = fld Fo b j) ∧ (∀ b j : Nat, tag b ≠ 40 → elm F b j = elm Fo b j) := ⟨fun b j  => (yz59936.1 b j ).trans (hfr.1 b j ), fun b j a40 => (yz59936.2 b j a40).trans (hfr.2 b j a40)⟩
        have htj := tj_in (N := 4) ex35_0 xh0 xz59936_0 (by omega) (by omega) (by omega) vz59933 vz59932 (by omega)
        refine lv_iload_n hx hb dX13_turns_56 rfl (lv_at hl 2 rfl) ?_
        refine lv_iconst (v := 1) hx hb dX13_turns_57 (by decide) ?_
        refine lv_iadd hx hb dX13_turns_58 ?_
        refine lv_topi (fun z59937 ez59937 => ?_)
        have hz59937 : z59937.toInt = z59929.toInt + 1 := ar_add ez59937 (rfl : z59929.toInt = z59929.toInt) (by decide : (1 : Int32).toInt = 1) (by omega) (by omega)
        have rz59937 : 1 ≤ z59937.toInt ∧ z59937.toInt ≤ 3 := by omega
        refine lv_istore (lv' := [(4, .int z59937), (0, .ref p0), (1, .int p1), (2, .int z59929), (3, .int z59930)]) hx hb dX13_turns_59 hl (by decide) rfl (fun ls hl => ?_)
        refine lv_iload_n hx hb dX13_turns_61 rfl (lv_at hl 2 rfl) ?_
        refine lv_iconst (v := 1) hx hb dX13_turns_62 (by decide) ?_
        refine lv_isub hx hb dX13_turns_63 ?_
        refine lv_topi (fun z59938 ez59938 => ?_)
        have hz59938 : z59938.toInt = p1.toInt - 1 := ar_sub ez59938 (rfl : p1.toInt = p1.toInt) (by decide : (1 : Int32).toInt = 1) (by omega) (by omega)
        have rz59938 : (-1) ≤ z59938.toInt ∧ z59938.toInt ≤ 3 := by omega
        refine lv_istore (lv' := [(5, .int z59938), (4, .int z59937), (0, .ref p0), (1, .int p1), (2, .int z59929), (3, .int z59930)]) hx hb dX13_turns_64 hl (by decide) rfl (fun ls hl => ?_)
        exact K66 3 z59929 z59930 z59937 z59938 _ _ _ _ (by omega) (by omega) (by omega) (by omega) (by omega) hT hfr htj.1 htj.2.1 htj.2.2 (by omega) (lv_sub hl [2, 3, 4, 5, 1, 0] rfl)
      · have w59939 := cv_nle (rfl : z59933.toInt = z59933.toInt) (rfl : z59932.toInt = z59932.toInt) c59934
        obtain ⟨z59940, ez59940⟩ : ∃ y : Int32, y = z59930 + (-1) := ⟨_, rfl⟩
        have hz59940 : z59940.toInt = z59930.toInt + (-1) := ar_add ez59940 rfl (by decide : ((-1) : Int32).toInt = (-1)) (by omega) (by omega)
        refine lv_iinc (v := z59940) (lv' := [(3, .int z59940), (0, .ref p0), (1, .int p1), (2, .int z59929)]) hx hb dX13_turns_44 hl (k := 3) rfl (by rw [ez59940]; rfl) (by decide) rfl (fun ls hl => ?_)
        refine lv_goto (tgt := 35) hx hb dX13_turns_47 (by decide) ?_
        exact ih35 z59929 z59940 _ _ _ _ (by omega) (by omega) (by omega) hT hfr (by first | exact ex35_0 | exact ex4_0 | exact fun k => by rw [hFo]) (by have h9 := tj_step ex35_0 vz59933 vz59932 (by omega) ex35_2 (by omega) (by omega); omega) ex35_2 (lv_sub hl [1, 2, 3, 0] rfl)
  have K4 : ∀ (n : Nat) (z59941 : Int32) (F : Nat → va_E) (H : Heap) (locs : List Loc) (ls : Array Slot), (z59941.toInt - (-1) < (n : Int)) → ((-2) ≤ z59941.toInt ∧ z59941.toInt ≤ 2) → TH G ttC A s tag L F H locs → ((∀ b j : Nat, fld F b j = fld Fo b j) ∧ (∀ b j : Nat, tag b ≠ 40 → elm F b j = elm Fo b j)) → (∀ k : Nat, elm F p0 k = elm Fo p0 k) → (z59941.toInt ≤ p1.toInt - 2) → lv_has ls 6 [(0, .ref p0), (1, .int p1), (2, .int z59941)] → W p l e { frames := 1, cells := 0, slots := 0, locals := 23 } s m args below meth c H locs 0 0 Q (F0 m 4 ls []) := by
    intro n
    induction n with
    | zero =>
      intro z59941 F H locs ls hn rz59941 hT hfr ex4_0 ex4_1 hl
      refine lv_iload_n hx hb dX13_turns_4 rfl (lv_at hl 2 rfl) ?_
      refine lv_if_lt (tgt := 25) hx hb dX13_turns_5 (by decide) (fun c59942 => ?_) (fun c59942 => ?_)
      · have w59943 := cv_lt (rfl : z59941.toInt = z59941.toInt) (by decide : (0 : Int32).toInt = 0) c59942
        refine lv_iload_n hx hb dX13_turns_25 rfl (lv_at hl 2 rfl) ?_
        refine lv_if_ge (tgt := 31) hx hb dX13_turns_26 (by decide) (fun c59944 => ?_) (fun c59944 => ?_)
        · have w59945 := cv_le (by decide : (0 : Int32).toInt = 0) (rfl : z59941.toInt = z59941.toInt) c59944
          exfalso
          omega
        · have w59946 := cv_nle (by decide : (0 : Int32).toInt = 0) (rfl : z59941.toInt = z59941.toInt) c59944
          refine lv_iconst (v := 0) hx hb dX13_turns_29 (by decide) ?_
          have k59947 : (0 : Int32).toInt = 0 := by decide
          exact t_zret hQ X hT (by decide) (⟨(by decide), hfr, (fun h9 => absurd (by decide) h9)⟩) (Nat.le_of_ble_eq_true rfl) (Nat.le_of_ble_eq_true rfl) dX13_turns_30
      · have w59948 := cv_nlt (rfl : z59941.toInt = z59941.toInt) (by decide : (0 : Int32).toInt = 0) c59942
        exfalso
        omega
    | succ n ih4 =>
      intro z59941 F H locs ls hn rz59941 hT hfr ex4_0 ex4_1 hl
      refine lv_iload_n hx hb dX13_turns_4 rfl (lv_at hl 2 rfl) ?_
      refine lv_if_lt (tgt := 25) hx hb dX13_turns_5 (by decide) (fun c59949 => ?_) (fun c59949 => ?_)
      · have w59950 := cv_lt (rfl : z59941.toInt = z59941.toInt) (by decide : (0 : Int32).toInt = 0) c59949
        refine lv_iload_n hx hb dX13_turns_25 rfl (lv_at hl 2 rfl) ?_
        refine lv_if_ge (tgt := 31) hx hb dX13_turns_26 (by decide) (fun c59951 => ?_) (fun c59951 => ?_)
        · have w59952 := cv_le (by decide : (0 : Int32).toInt = 0) (rfl : z59941.toInt = z59941.toInt) c59951
          exfalso
          omega
        · have w59953 := cv_nle (by decide : (0 : Int32).toInt = 0) (rfl : z59941.toInt = z59941.toInt) c59951
          refine lv_iconst (v := 0) hx hb dX13_turns_29 (by decide) ?_
          have k59954 : (0 : Int32).toInt = 0 := by decide
          exact t_zret hQ X hT (by decide) (⟨(by decide), hfr, (fun h9 => absurd (by decide) h9)⟩) (Nat.le_of_ble_eq_true rfl) (Nat.le_of_ble_eq_true rfl) dX13_turns_30
      · have w59955 := cv_nlt (rfl : z59941.toInt = z59941.toInt) (by decide : (0 : Int32).toInt = 0) c59949
        refine lv_aload_n hx hb dX13_turns_8 rfl (lv_at hl 0 rfl) ?_
        refine lv_iload_n hx hb dX13_turns_9 rfl (lv_at hl 2 rfl) ?_
        refine t_ild X hT m0 g0 rfl (by omega) dX13_turns_10 (fun z59956 vz59956 rz59956 => ?_)
        have rz59956 : 0 ≤ z59956.toInt ∧ z59956.toInt ≤ 3 := rz59956
        refine lv_aload_n hx hb dX13_turns_11 rfl (lv_at hl 0 rfl) ?_
        refine lv_iload_n hx hb dX13_turns_12 rfl (lv_at hl 2 rfl) ?_
        refine lv_iconst (v := 1) hx hb dX13_turns_13 (by decide) ?_
        refine lv_iadd hx hb dX13_turns_14 ?_
        refine lv_topi (fun z59957 ez59957 => ?_)
        have hz59957 : z59957.toInt = z59941.toInt + 1 := ar_add ez59957 (rfl : z59941.toInt = z59941.toInt) (by decide : (1 : Int32).toInt = 1) (by omega) (by omega)
        have rz59957 : 1 ≤ z59957.toInt ∧ z59957.toInt ≤ 3 := by omega
        refine t_ild X hT m0 g0 rfl (by omega) dX13_turns_15 (fun z59958 vz59958 rz59958 => ?_)
        have rz59958 : 0 ≤ z59958.toInt ∧ z59958.toInt ≤ 3 := rz59958
        refine lv_icmp_le (tgt := 25) hx hb dX13_turns_16 (by decide) (fun c59959 => ?_) (fun c59959 => ?_)
        · have w59960 := cv_le (rfl : z59956.toInt = z59956.toInt) (rfl : z59958.toInt = z59958.toInt) c59959
          refine lv_iload_n hx hb dX13_turns_25 rfl (lv_at hl 2 rfl) ?_
          refine lv_if_ge (tgt := 31) hx hb dX13_turns_26 (by decide) (fun c59961 => ?_) (fun c59961 => ?_)
          · have w59962 := cv_le (by decide : (0 : Int32).toInt = 0) (rfl : z59941.toInt = z59941.toInt) c59961
            refine lv_iload_n hx hb dX13_turns_31 rfl (lv_at hl 1 rfl) ?_
            refine lv_iconst (v := 1) hx hb dX13_turns_32 (by decide) ?_
            refine lv_isub hx hb dX13_turns_33 ?_
            refine lv_topi (fun z59963 ez59963 => ?_)
            have hz59963 : z59963.toInt = p1.toInt - 1 := ar_sub ez59963 (rfl : p1.toInt = p1.toInt) (by decide : (1 : Int32).toInt = 1) (by omega) (by omega)
            have rz59963 : (-1) ≤ z59963.toInt ∧ z59963.toInt ≤ 3 := by omega
            refine lv_istore_n (lv' := [(3, .int z59963), (0, .ref p0), (1, .int p1), (2, .int z59941)]) hx hb dX13_turns_34 rfl hl (by decide) rfl (fun ls hl => ?_)
            exact K35 4 z59941 z59963 _ _ _ _ (by omega) (by omega) (by omega) hT hfr (by first | exact ex35_0 | exact ex4_0 | exact fun k => by rw [hFo]) (by omega) (tj_le ex4_0 vz59956 vz59958 (by omega) (by omega) (by omega)) (lv_sub hl [1, 2, 3, 0] rfl)
          · have w59964 := cv_nle (by decide : (0 : Int32).toInt = 0) (rfl : z59941.toInt = z59941.toInt) c59961
            exfalso
            omega
        · have w59965 := cv_nle (rfl : z59956.toInt = z59956.toInt) (rfl : z59958.toInt = z59958.toInt) c59959
          obtain ⟨z59966, ez59966⟩ : ∃ y : Int32, y = z59941 + (-1) := ⟨_, rfl⟩
          have hz59966 : z59966.toInt = z59941.toInt + (-1) := ar_add ez59966 rfl (by decide : ((-1) : Int32).toInt = (-1)) (by omega) (by omega)
          refine lv_iinc (v := z59966) (lv' := [(2, .int z59966), (0, .ref p0), (1, .int p1)]) hx hb dX13_turns_19 hl (k := 2) rfl (by rw [ez59966]; rfl) (by decide) rfl (fun ls hl => ?_)
          refine lv_goto (tgt := 4) hx hb dX13_turns_22 (by decide) ?_
          exact ih4 z59966 _ _ _ _ (by omega) (by omega) hT hfr (by first | exact ex35_0 | exact ex4_0 | exact fun k => by rw [hFo]) (by omega) (lv_sub hl [1, 2, 0] rfl)
  refine lv_iload_n hx hb dX13_turns_0 rfl (lv_at hl 1 rfl) ?_
  refine lv_iconst (v := 2) hx hb dX13_turns_1 (by decide) ?_
  refine lv_isub hx hb dX13_turns_2 ?_
  refine lv_topi (fun z59967 ez59967 => ?_)
  have hz59967 : z59967.toInt = p1.toInt - 2 := ar_sub ez59967 (rfl : p1.toInt = p1.toInt) (by decide : (2 : Int32).toInt = 2) (by omega) (by omega)
  have rz59967 : (-2) ≤ z59967.toInt ∧ z59967.toInt ≤ 2 := by omega
  refine lv_istore_n (lv' := [(2, .int z59967), (0, .ref p0), (1, .int p1)]) hx hb dX13_turns_3 rfl hl (by decide) rfl (fun ls hl => ?_)
  exact K4 4 z59967 _ _ _ _ (by omega) (by omega) hT hfr (by first | exact ex35_0 | exact ex4_0 | exact fun k => by rw [hFo]) (by omega) (lv_sub hl [1, 2, 0] rfl)
