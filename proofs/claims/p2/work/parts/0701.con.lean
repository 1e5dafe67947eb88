set_option maxHeartbeats 4000000 in
set_option maxRecDepth 100000 in
theorem ka_X1_init (l : Launch) (G : KG) (tag0 : Nat → Nat) (L0 : List Nat) (Fo : Nat → va_E) (ho : okT G ttC tag0 L0 Fo) (p0 : Nat) (m0 : p0 ∈ L0) (g0 : tag0 p0 = 49) (f0_0 : fld Fo p0 0 = .int 0) (f0_1 : fld Fo p0 1 = .int 0) (f0_2 : fld Fo p0 2 = .int 0) (f0_3 : fld Fo p0 3 = .int 0) (f0_4 : fld Fo p0 4 = .int 0) (f0_5 : fld Fo p0 5 = .int 0) (f0_6 : fld Fo p0 6 = .int 0) (f0_7 : fld Fo p0 7 = .null) (f0_8 : fld Fo p0 8 = .int 0) (f0_9 : fld Fo p0 9 = .null) (f0_10 : fld Fo p0 10 = .int 0) (f0_11 : fld Fo p0 11 = .null) (f0_12 : fld Fo p0 12 = .null) (f0_13 : fld Fo p0 13 = .null) (f0_14 : fld Fo p0 14 = .int 0) (f0_15 : fld Fo p0 15 = .null) (f0_16 : fld Fo p0 16 = .int 0) (f0_17 : fld Fo p0 17 = .null) (f0_18 : fld Fo p0 18 = .null) (f0_19 : fld Fo p0 19 = .null) : TMa l yX1_init cX1_init 1 { frames := 1, cells := 9, slots := 200, locals := 12 } G ttC tag0 L0 Fo [.ref p0] (fun u => EXTR p0 tag0 L0 Fo u ∧ p0 ∈ u.2.1 ∧ u.1 p0 = 18) := by
  refine t_bodya (y := yX1_init) (cd := cX1_init) (mL := 1) (rm := { frames := 1, cells := 9, slots := 200, locals := 12 }) (av := [.ref p0]) (by decide) (Nat.le_of_ble_eq_true rfl) ho ?_
  intro p e s m args below meth c ls A Q hQ X hi hT hl
  have hx := X.1.1
  have hb := X.1.2.1
  have hi : meth.name = "<init>" := hi
  have hl : lv_has ls 1 [(0, .ref p0)] := hl
  obtain ⟨tag, htg⟩ : ∃ t : Nat → Nat, t = tag0 := ⟨_, rfl⟩
  obtain ⟨L, hLL⟩ : ∃ t : List Nat, t = L0 := ⟨_, rfl⟩
  obtain ⟨F, hFF⟩ : ∃ t : Nat → va_E, t = Fo := ⟨_, rfl⟩
  have hE : EXTR p0 tag0 L0 Fo (tag, L, F) := by rw [htg, hLL, hFF]; exact EXTR.rf
  rw [← htg, ← hLL, ← hFF] at hT
  have m0 : p0 ∈ L := by rw [hLL]; exact m0
  have g0 : tag p0 = 49 := by rw [htg]; exact g0
  rw [← hFF] at f0_0 f0_1 f0_2 f0_3 f0_4 f0_5 f0_6 f0_7 f0_8 f0_9 f0_10 f0_11 f0_12 f0_13 f0_14 f0_15 f0_16 f0_17 f0_18 f0_19
  refine lv_aload_n hx hb dX1_init_0 rfl (lv_at hl 0 rfl) ?_
  refine m_objI X hl qw_48 qw_11 qw_12 dX1_init_1 (Nat.le_of_ble_eq_true rfl) (Nat.le_of_ble_eq_true rfl) ?_
  refine lv_aload_n hx hb dX1_init_4 rfl (lv_at hl 0 rfl) ?_
  refine lv_sipush (v := 144) hx hb dX1_init_5 (by decide) ?_
  refine t_newa (atype := .boolean) (a0 := (144, .inl (fun _ => 0))) (t := 2) X hT 1 rfl qw_49 (fun _ => rfl) (by decide) (by decide) (Nat.le_of_ble_eq_true rfl) (Nat.le_of_ble_eq_true rfl) (Nat.le_of_ble_eq_true rfl) dX1_init_8 (fun t9 l9 => (show okA G t9 l9 (1, 144, fun _ => (0, 1)) (.inl (G.2 1, (144, .inl (fun _ => 0)))) from ⟨_, rfl, fun _ _ => ⟨show (0 : Int) ≤ (0 : Int32).toInt from by decide, show (0 : Int32).toInt ≤ (1 : Int) from by decide⟩⟩)) (fun q1 tag L F H hT mq1 gq1 kq1 Fq1 hEq1 hxq1 => ?_)
  have f0_0 := (((hxq1 _ m0).2 0).1).trans f0_0
  have f0_1 := (((hxq1 _ m0).2 1).1).trans f0_1
  have f0_2 := (((hxq1 _ m0).2 2).1).trans f0_2
  have f0_3 := (((hxq1 _ m0).2 3).1).trans f0_3
  have f0_4 := (((hxq1 _ m0).2 4).1).trans f0_4
  have f0_5 := (((hxq1 _ m0).2 5).1).trans f0_5
  have f0_6 := (((hxq1 _ m0).2 6).1).trans f0_6
  have f0_7 := (((hxq1 _ m0).2 7).1).trans f0_7
  have f0_8 := (((hxq1 _ m0).2 8).1).trans f0_8
  have f0_9 := (((hxq1 _ m0).2 9).1).trans f0_9
  have f0_10 := (((hxq1 _ m0).2 10).1).trans f0_10
  have f0_11 := (((hxq1 _ m0).2 11).1).trans f0_11
  have f0_12 := (((hxq1 _ m0).2 12).1).trans f0_12
  have f0_13 := (((hxq1 _ m0).2 13).1).trans f0_13
  have f0_14 := (((hxq1 _ m0).2 14).1).trans f0_14
  have f0_15 := (((hxq1 _ m0).2 15).1).trans f0_15
  have f0_16 := (((hxq1 _ m0).2 16).1).trans f0_16
  have f0_17 := (((hxq1 _ m0).2 17).1).trans f0_17
  have f0_18 := (((hxq1 _ m0).2 18).1).trans f0_18
  have f0_19 := (((hxq1 _ m0).2 19).1).trans f0_19
  have g0 := (hxq1 _ m0).1.trans g0
  have zq1 : ∀ b ∈ L0, b ≠ q1 := fun b hb h => kq1 (h ▸ (hE.1 b hb).1)
  have nq1_p0 : p0 ≠ q1 := fun h => kq1 (h ▸ m0)
  have hE := EXTR.tr hE hEq1 (fun b hb _ => zq1 b hb) (fun h => (hEq1.1 _ ((hE.1 _ h).1)).1)
  have m0 := (hEq1.1 _ m0).1
  refine t_putF (C := RX1) (T := TX1) (N := 20) (v := .ref q1) X hi hT m0 g0 rfl tyX1 tyX1_ok nmX1 rfl 7 (by decide) qw_50 inlX1 rfl rfl (by first | rfl | decide) (by first | rfl | decide) rfl trivial dX1_init_10 (fun F H locs hT vu2 h1u2 h2u2 => ?_)
  have f0_0 := (h1u2 0 (by decide)).trans f0_0
  have f0_1 := (h1u2 1 (by decide)).trans f0_1
  have f0_2 := (h1u2 2 (by decide)).trans f0_2
  have f0_3 := (h1u2 3 (by decide)).trans f0_3
  have f0_4 := (h1u2 4 (by decide)).trans f0_4
  have f0_5 := (h1u2 5 (by decide)).trans f0_5
  have f0_6 := (h1u2 6 (by decide)).trans f0_6
  have f0_8 := (h1u2 8 (by decide)).trans f0_8
  have f0_9 := (h1u2 9 (by decide)).trans f0_9
  have f0_10 := (h1u2 10 (by decide)).trans f0_10
  have f0_11 := (h1u2 11 (by decide)).trans f0_11
  have f0_12 := (h1u2 12 (by decide)).trans f0_12
  have f0_13 := (h1u2 13 (by decide)).trans f0_13
  have f0_14 := (h1u2 14 (by decide)).trans f0_14
  have f0_15 := (h1u2 15 (by decide)).trans f0_15
  have f0_16 := (h1u2 16 (by decide)).trans f0_16
  have f0_17 := (h1u2 17 (by decide)).trans f0_17
  have f0_18 := (h1u2 18 (by decide)).trans f0_18
  have f0_19 := (h1u2 19 (by decide)).trans f0_19
  have hE := EXTR.tr (u := (tag, L, F)) hE (show EXTR p0 tag L _ (tag, L, F) from ⟨fun b hb => ⟨hb, fun _ => rfl⟩, fun b j _ hb => h2u2 b j hb⟩) (fun _ _ h => h) (fun h => (hE.1 _ h).1)
  refine lv_aload_n hx hb dX1_init_13 rfl (lv_at hl 0 rfl) ?_
  refine lv_bipush (v := 20) hx hb dX1_init_14 (by decide) ?_
  refine t_newa (atype := .int) (a0 := (20, .inl (fun _ => 0))) (t := 3) X hT 0 rfl qw_13 (fun _ => rfl) (by decide) (by decide) (Nat.le_of_ble_eq_true rfl) (Nat.le_of_ble_eq_true rfl) (Nat.le_of_ble_eq_true rfl) dX1_init_16 (fun t9 l9 => (show okA G t9 l9 (0, 20, fun _ => ((-2147483648), 2147483647)) (.inl (G.2 0, (20, .inl (fun _ => 0)))) from ⟨_, rfl, fun _ _ => ⟨show ((-2147483648) : Int) ≤ (0 : Int32).toInt from by decide, show (0 : Int32).toInt ≤ (2147483647 : Int) from by decide⟩⟩)) (fun q3 tag L F H hT mq3 gq3 kq3 Fq3 hEq3 hxq3 => ?_)
  have f0_0 := (((hxq3 _ m0).2 0).1).trans f0_0
  have f0_1 := (((hxq3 _ m0).2 1).1).trans f0_1
  have f0_2 := (((hxq3 _ m0).2 2).1).trans f0_2
  have f0_3 := (((hxq3 _ m0).2 3).1).trans f0_3
  have f0_4 := (((hxq3 _ m0).2 4).1).trans f0_4
  have f0_5 := (((hxq3 _ m0).2 5).1).trans f0_5
  have f0_6 := (((hxq3 _ m0).2 6).1).trans f0_6
  have vu2 := (((hxq3 _ m0).2 7).1).trans vu2
  have f0_8 := (((hxq3 _ m0).2 8).1).trans f0_8
  have f0_9 := (((hxq3 _ m0).2 9).1).trans f0_9
  have f0_10 := (((hxq3 _ m0).2 10).1).trans f0_10
  have f0_11 := (((hxq3 _ m0).2 11).1).trans f0_11
  have f0_12 := (((hxq3 _ m0).2 12).1).trans f0_12
  have f0_13 := (((hxq3 _ m0).2 13).1).trans f0_13
  have f0_14 := (((hxq3 _ m0).2 14).1).trans f0_14
  have f0_15 := (((hxq3 _ m0).2 15).1).trans f0_15
  have f0_16 := (((hxq3 _ m0).2 16).1).trans f0_16
  have f0_17 := (((hxq3 _ m0).2 17).1).trans f0_17
  have f0_18 := (((hxq3 _ m0).2 18).1).trans f0_18
  have f0_19 := (((hxq3 _ m0).2 19).1).trans f0_19
  have g0 := (hxq3 _ m0).1.trans g0
  have gq1 := (hxq3 _ mq1).1.trans gq1
  have zq3 : ∀ b ∈ L0, b ≠ q3 := fun b hb h => kq3 (h ▸ (hE.1 b hb).1)
  have nq3_p0 : p0 ≠ q3 := fun h => kq3 (h ▸ m0)
  have nq3_q1 : q1 ≠ q3 := fun h => kq3 (h ▸ mq1)
  have hE := EXTR.tr hE hEq3 (fun b hb _ => zq3 b hb) (fun h => (hEq3.1 _ ((hE.1 _ h).1)).1)
  have m0 := (hEq3.1 _ m0).1
  have mq1 := (hEq3.1 _ mq1).1
  refine t_putF (C := RX1) (T := TX1) (N := 20) (v := .ref q3) X hi hT m0 g0 rfl tyX1 tyX1_ok nmX1 rfl 9 (by decide) qw_51 inlX1 rfl rfl (by first | rfl | decide) (by first | rfl | decide) rfl trivial dX1_init_18 (fun F H locs hT vu4 h1u4 h2u4 => ?_)
  have f0_0 := (h1u4 0 (by decide)).trans f0_0
  have f0_1 := (h1u4 1 (by decide)).trans f0_1
  have f0_2 := (h1u4 2 (by decide)).trans f0_2
  have f0_3 := (h1u4 3 (by decide)).trans f0_3
  have f0_4 := (h1u4 4 (by decide)).trans f0_4
  have f0_5 := (h1u4 5 (by decide)).trans f0_5
  have f0_6 := (h1u4 6 (by decide)).trans f0_6
  have vu2 := (h1u4 7 (by decide)).trans vu2
  have f0_8 := (h1u4 8 (by decide)).trans f0_8
  have f0_10 := (h1u4 10 (by decide)).trans f0_10
  have f0_11 := (h1u4 11 (by decide)).trans f0_11
  have f0_12 := (h1u4 12 (by decide)).trans f0_12
  have f0_13 := (h1u4 13 (by decide)).trans f0_13
  have f0_14 := (h1u4 14 (by decide)).trans f0_14
  have f0_15 := (h1u4 15 (by decide)).trans f0_15
  have f0_16 := (h1u4 16 (by decide)).trans f0_16
  have f0_17 := (h1u4 17 (by decide)).trans f0_17
  have f0_18 := (h1u4 18 (by decide)).trans f0_18
  have f0_19 := (h1u4 19 (by decide)).trans f0_19
  have hE := EXTR.tr (u := (tag, L, F)) hE (show EXTR p0 tag L _ (tag, L, F) from ⟨fun b hb => ⟨hb, fun _ => rfl⟩, fun b j _ hb => h2u4 b j hb⟩) (fun _ _ h => h) (fun h => (hE.1 _ h).1)
  refine lv_aload_n hx hb dX1_init_21 rfl (lv_at hl 0 rfl) ?_
  refine lv_iconst (v := 4) hx hb dX1_init_22 (by decide) ?_
  refine t_newa (atype := .int) (a0 := (4, .inl (fun _ => 0))) (t := 4) X hT 0 rfl qw_13 (fun _ => rfl) (by decide) (by decide) (Nat.le_of_ble_eq_true rfl) (Nat.le_of_ble_eq_true rfl) (Nat.le_of_ble_eq_true rfl) dX1_init_23 (fun t9 l9 => (show okA G t9 l9 (0, 4, fun _ => (0, 11)) (.inl (G.2 0, (4, .inl (fun _ => 0)))) from ⟨_, rfl, fun _ _ => ⟨show (0 : Int) ≤ (0 : Int32).toInt from by decide, show (0 : Int32).toInt ≤ (11 : Int) from by decide⟩⟩)) (fun q5 tag L F H hT mq5 gq5 kq5 Fq5 hEq5 hxq5 => ?_)
  have f0_0 := (((hxq5 _ m0).2 0).1).trans f0_0
  have f0_1 := (((hxq5 _ m0).2 1).1).trans f0_1
  have f0_2 := (((hxq5 _ m0).2 2).1).trans f0_2
  have f0_3 := (((hxq5 _ m0).2 3).1).trans f0_3
  have f0_4 := (((hxq5 _ m0).2 4).1).trans f0_4
  have f0_5 := (((hxq5 _ m0).2 5).1).trans f0_5
  have f0_6 := (((hxq5 _ m0).2 6).1).trans f0_6
  have vu2 := (((hxq5 _ m0).2 7).1).trans vu2
  have f0_8 := (((hxq5 _ m0).2 8).1).trans f0_8
  have vu4 := (((hxq5 _ m0).2 9).1).trans vu4
  have f0_10 := (((hxq5 _ m0).2 10).1).trans f0_10
  have f0_11 := (((hxq5 _ m0).2 11).1).trans f0_11
  have f0_12 := (((hxq5 _ m0).2 12).1).trans f0_12
  have f0_13 := (((hxq5 _ m0).2 13).1).trans f0_13
  have f0_14 := (((hxq5 _ m0).2 14).1).trans f0_14
  have f0_15 := (((hxq5 _ m0).2 15).1).trans f0_15
  have f0_16 := (((hxq5 _ m0).2 16).1).trans f0_16
  have f0_17 := (((hxq5 _ m0).2 17).1).trans f0_17
  have f0_18 := (((hxq5 _ m0).2 18).1).trans f0_18
  have f0_19 := (((hxq5 _ m0).2 19).1).trans f0_19
  have g0 := (hxq5 _ m0).1.trans g0
  have gq1 := (hxq5 _ mq1).1.trans gq1
  have gq3 := (hxq5 _ mq3).1.trans gq3
  have zq5 : ∀ b ∈ L0, b ≠ q5 := fun b hb h => kq5 (h ▸ (hE.1 b hb).1)
  have nq5_p0 : p0 ≠ q5 := fun h => kq5 (h ▸ m0)
  have nq5_q1 : q1 ≠ q5 := fun h => kq5 (h ▸ mq1)
  have nq5_q3 : q3 ≠ q5 := fun h => kq5 (h ▸ mq3)
  have hE := EXTR.tr hE hEq5 (fun b hb _ => zq5 b hb) (fun h => (hEq5.1 _ ((hE.1 _ h).1)).1)
  have m0 := (hEq5.1 _ m0).1
  have mq1 := (hEq5.1 _ mq1).1
  have mq3 := (hEq5.1 _ mq3).1
  refine t_putF (C := RX1) (T := TX1) (N := 20) (v := .ref q5) X hi hT m0 g0 rfl tyX1 tyX1_ok nmX1 rfl 11 (by decide) qw_52 inlX1 rfl rfl (by first | rfl | decide) (by first | rfl | decide) rfl trivial dX1_init_25 (fun F H locs hT vu6 h1u6 h2u6 => ?_)
  have f0_0 := (h1u6 0 (by decide)).trans f0_0
  have f0_1 := (h1u6 1 (by decide)).trans f0_1
  have f0_2 := (h1u6 2 (by decide)).trans f0_2
  have f0_3 := (h1u6 3 (by decide)).trans f0_3
  have f0_4 := (h1u6 4 (by decide)).trans f0_4
  have f0_5 := (h1u6 5 (by decide)).trans f0_5
  have f0_6 := (h1u6 6 (by decide)).trans f0_6
  have vu2 := (h1u6 7 (by decide)).trans vu2
  have f0_8 := (h1u6 8 (by decide)).trans f0_8
  have vu4 := (h1u6 9 (by decide)).trans vu4
  have f0_10 := (h1u6 10 (by decide)).trans f0_10
  have f0_12 := (h1u6 12 (by decide)).trans f0_12
  have f0_13 := (h1u6 13 (by decide)).trans f0_13
  have f0_14 := (h1u6 14 (by decide)).trans f0_14
  have f0_15 := (h1u6 15 (by decide)).trans f0_15
  have f0_16 := (h1u6 16 (by decide)).trans f0_16
  have f0_17 := (h1u6 17 (by decide)).trans f0_17
  have f0_18 := (h1u6 18 (by decide)).trans f0_18
  have f0_19 := (h1u6 19 (by decide)).trans f0_19
  have hE := EXTR.tr (u := (tag, L, F)) hE (show EXTR p0 tag L _ (tag, L, F) from ⟨fun b hb => ⟨hb, fun _ => rfl⟩, fun b j _ hb => h2u6 b j hb⟩) (fun _ _ h => h) (fun h => (hE.1 _ h).1)
  refine lv_aload_n hx hb dX1_init_28 rfl (lv_at hl 0 rfl) ?_
  refine lv_iconst (v := 4) hx hb dX1_init_29 (by decide) ?_
  refine t_newa (atype := .int) (a0 := (4, .inl (fun _ => 0))) (t := 4) X hT 0 rfl qw_13 (fun _ => rfl) (by decide) (by decide) (Nat.le_of_ble_eq_true rfl) (Nat.le_of_ble_eq_true rfl) (Nat.le_of_ble_eq_true rfl) dX1_init_30 (fun t9 l9 => (show okA G t9 l9 (0, 4, fun _ => (0, 11)) (.inl (G.2 0, (4, .inl (fun _ => 0)))) from ⟨_, rfl, fun _ _ => ⟨show (0 : Int) ≤ (0 : Int32).toInt from by decide, show (0 : Int32).toInt ≤ (11 : Int) from by decide⟩⟩)) (fun q7 tag L F H hT mq7 gq7 kq7 Fq7 hEq7 hxq7 => ?_)
  have f0_0 := (((hxq7 _ m0).2 0).1).trans f0_0
  have f0_1 := (((hxq7 _ m0).2 1).1).trans f0_1
  have f0_2 := (((hxq7 _ m0).2 2).1).trans f0_2
  have f0_3 := (((hxq7 _ m0).2 3).1).trans f0_3
  have f0_4 := (((hxq7 _ m0).2 4).1).trans f0_4
  have f0_5 := (((hxq7 _ m0).2 5).1).trans f0_5
  have f0_6 := (((hxq7 _ m0).2 6).1).trans f0_6
  have vu2 := (((hxq7 _ m0).2 7).1).trans vu2
  have f0_8 := (((hxq7 _ m0).2 8).1).trans f0_8
  have vu4 := (((hxq7 _ m0).2 9).1).trans vu4
  have f0_10 := (((hxq7 _ m0).2 10).1).trans f0_10
  have vu6 := (((hxq7 _ m0).2 11).1).trans vu6
  have f0_12 := (((hxq7 _ m0).2 12).1).trans f0_12
  have f0_13 := (((hxq7 _ m0).2 13).1).trans f0_13
  have f0_14 := (((hxq7 _ m0).2 14).1).trans f0_14
  have f0_15 := (((hxq7 _ m0).2 15).1).trans f0_15
  have f0_16 := (((hxq7 _ m0).2 16).1).trans f0_16
  have f0_17 := (((hxq7 _ m0).2 17).1).trans f0_17
  have f0_18 := (((hxq7 _ m0).2 18).1).trans f0_18
  have f0_19 := (((hxq7 _ m0).2 19).1).trans f0_19
  have g0 := (hxq7 _ m0).1.trans g0
  have gq1 := (hxq7 _ mq1).1.trans gq1
  have gq3 := (hxq7 _ mq3).1.trans gq3
  have gq5 := (hxq7 _ mq5).1.trans gq5
  have zq7 : ∀ b ∈ L0, b ≠ q7 := fun b hb h => kq7 (h ▸ (hE.1 b hb).1)
  have nq7_p0 : p0 ≠ q7 := fun h => kq7 (h ▸ m0)
  have nq7_q1 : q1 ≠ q7 := fun h => kq7 (h ▸ mq1)
  have nq7_q3 : q3 ≠ q7 := fun h => kq7 (h ▸ mq3)
  have nq7_q5 : q5 ≠ q7 := fun h => kq7 (h ▸ mq5)
  have hE := EXTR.tr hE hEq7 (fun b hb _ => zq7 b hb) (fun h => (hEq7.1 _ ((hE.1 _ h).1)).1)
  have m0 := (hEq7.1 _ m0).1
  have mq1 := (hEq7.1 _ mq1).1
  have mq3 := (hEq7.1 _ mq3).1
  have mq5 := (hEq7.1 _ mq5).1
  refine t_putF (C := RX1) (T := TX1) (N := 20) (v := .ref q7) X hi hT m0 g0 rfl tyX1 tyX1_ok nmX1 rfl 12 (by decide) qw_53 inlX1 rfl rfl (by first | rfl | decide) (by first | rfl | decide) rfl trivial dX1_init_32 (fun F H locs hT vu8 h1u8 h2u8 => ?_)
  have f0_0 := (h1u8 0 (by decide)).trans f0_0
  have f0_1 := (h1u8 1 (by decide)).trans f0_1
  have f0_2 := (h1u8 2 (by decide)).trans f0_2
  have f0_3 := (h1u8 3 (by decide)).trans f0_3
  have f0_4 := (h1u8 4 (by decide)).trans f0_4
  have f0_5 := (h1u8 5 (by decide)).trans f0_5
  have f0_6 := (h1u8 6 (by decide)).trans f0_6
  have vu2 := (h1u8 7 (by decide)).trans vu2
  have f0_8 := (h1u8 8 (by decide)).trans f0_8
  have vu4 := (h1u8 9 (by decide)).trans vu4
  have f0_10 := (h1u8 10 (by decide)).trans f0_10
  have vu6 := (h1u8 11 (by decide)).trans vu6
  have f0_13 := (h1u8 13 (by decide)).trans f0_13
  have f0_14 := (h1u8 14 (by decide)).trans f0_14
  have f0_15 := (h1u8 15 (by decide)).trans f0_15
  have f0_16 := (h1u8 16 (by decide)).trans f0_16
  have f0_17 := (h1u8 17 (by decide)).trans f0_17
  have f0_18 := (h1u8 18 (by decide)).trans f0_18
  have f0_19 := (h1u8 19 (by decide)).trans f0_19
  have hE := EXTR.tr (u := (tag, L, F)) hE (show EXTR p0 tag L _ (tag, L, F) from ⟨fun b hb => ⟨hb, fun _ => rfl⟩, fun b j _ hb => h2u8 b j hb⟩) (fun _ _ h => h) (fun h => (hE.1 _ h).1)
  refine lv_aload_n hx hb dX1_init_35 rfl (lv_at hl 0 rfl) ?_
  refine lv_iconst (v := 4) hx hb dX1_init_36 (by decide) ?_
  refine t_newa (atype := .int) (a0 := (4, .inl (fun _ => 0))) (t := 5) X hT 0 rfl qw_13 (fun _ => rfl) (by decide) (by decide) (Nat.le_of_ble_eq_true rfl) (Nat.le_of_ble_eq_true rfl) (Nat.le_of_ble_eq_true rfl) dX1_init_37 (fun t9 l9 => (show okA G t9 l9 (0, 4, fun _ => ((-2147483648), 2147483647)) (.inl (G.2 0, (4, .inl (fun _ => 0)))) from ⟨_, rfl, fun _ _ => ⟨show ((-2147483648) : Int) ≤ (0 : Int32).toInt from by decide, show (0 : Int32).toInt ≤ (2147483647 : Int) from by decide⟩⟩)) (fun q9 tag L F H hT mq9 gq9 kq9 Fq9 hEq9 hxq9 => ?_)
  have f0_0 := (((hxq9 _ m0).2 0).1).trans f0_0
  have f0_1 := (((hxq9 _ m0).2 1).1).trans f0_1
  have f0_2 := (((hxq9 _ m0).2 2).1).trans f0_2
  have f0_3 := (((hxq9 _ m0).2 3).1).trans f0_3
  have f0_4 := (((hxq9 _ m0).2 4).1).trans f0_4
  have f0_5 := (((hxq9 _ m0).2 5).1).trans f0_5
  have f0_6 := (((hxq9 _ m0).2 6).1).trans f0_6
  have vu2 := (((hxq9 _ m0).2 7).1).trans vu2
  have f0_8 := (((hxq9 _ m0).2 8).1).trans f0_8
  have vu4 := (((hxq9 _ m0).2 9).1).trans vu4
  have f0_10 := (((hxq9 _ m0).2 10).1).trans f0_10
  have vu6 := (((hxq9 _ m0).2 11).1).trans vu6
  have vu8 := (((hxq9 _ m0).2 12).1).trans vu8
  have f0_13 := (((hxq9 _ m0).2 13).1).trans f0_13
  have f0_14 := (((hxq9 _ m0).2 14).1).trans f0_14
  have f0_15 := (((hxq9 _ m0).2 15).1).trans f0_15
  have f0_16 := (((hxq9 _ m0).2 16).1).trans f0_16
  have f0_17 := (((hxq9 _ m0).2 17).1).trans f0_17
  have f0_18 := (((hxq9 _ m0).2 18).1).trans f0_18
  have f0_19 := (((hxq9 _ m0).2 19).1).trans f0_19
  have g0 := (hxq9 _ m0).1.trans g0
  have gq1 := (hxq9 _ mq1).1.trans gq1
  have gq3 := (hxq9 _ mq3).1.trans gq3
  have gq5 := (hxq9 _ mq5).1.trans gq5
  have gq7 := (hxq9 _ mq7).1.trans gq7
  have zq9 : ∀ b ∈ L0, b ≠ q9 := fun b hb h => kq9 (h ▸ (hE.1 b hb).1)
  have nq9_p0 : p0 ≠ q9 := fun h => kq9 (h ▸ m0)
  have nq9_q1 : q1 ≠ q9 := fun h => kq9 (h ▸ mq1)
  have nq9_q3 : q3 ≠ q9 := fun h => kq9 (h ▸ mq3)
  have nq9_q5 : q5 ≠ q9 := fun h => kq9 (h ▸ mq5)
  have nq9_q7 : q7 ≠ q9 := fun h => kq9 (h ▸ mq7)
  have hE := EXTR.tr hE hEq9 (fun b hb _ => zq9 b hb) (fun h => (hEq9.1 _ ((hE.1 _ h).1)).1)
  have m0 := (hEq9.1 _ m0).1
  have mq1 := (hEq9.1 _ mq1).1
  have mq3 := (hEq9.1 _ mq3).1
  have mq5 := (hEq9.1 _ mq5).1
  have mq7 := (hEq9.1 _ mq7).1
  refine t_putF (C := RX1) (T := TX1) (N := 20) (v := .ref q9) X hi hT m0 g0 rfl tyX1 tyX1_ok nmX1 rfl 13 (by decide) qw_54 inlX1 rfl rfl (by first | rfl | decide) (by first | rfl | decide) rfl trivial dX1_init_39 (fun F H locs hT vu10 h1u10 h2u10 => ?_)
  have f0_0 := (h1u10 0 (by decide)).trans f0_0
  have f0_1 := (h1u10 1 (by decide)).trans f0_1
  have f0_2 := (h1u10 2 (by decide)).trans f0_2
  have f0_3 := (h1u10 3 (by decide)).trans f0_3
  have f0_4 := (h1u10 4 (by decide)).trans f0_4
  have f0_5 := (h1u10 5 (by decide)).trans f0_5
  have f0_6 := (h1u10 6 (by decide)).trans f0_6
  have vu2 := (h1u10 7 (by decide)).trans vu2
  have f0_8 := (h1u10 8 (by decide)).trans f0_8
  have vu4 := (h1u10 9 (by decide)).trans vu4
  have f0_10 := (h1u10 10 (by decide)).trans f0_10
  have vu6 := (h1u10 11 (by decide)).trans vu6
  have vu8 := (h1u10 12 (by decide)).trans vu8
  have f0_14 := (h1u10 14 (by decide)).trans f0_14
  have f0_15 := (h1u10 15 (by decide)).trans f0_15
  have f0_16 := (h1u10 16 (by decide)).trans f0_16
  have f0_17 := (h1u10 17 (by decide)).trans f0_17
  have f0_18 := (h1u10 18 (by decide)).trans f0_18
  have f0_19 := (h1u10 19 (by decide)).trans f0_19
  have hE := EXTR.tr (u := (tag, L, F)) hE (show EXTR p0 tag L _ (tag, L, F) from ⟨fun b hb => ⟨hb, fun _ => rfl⟩, fun b j _ hb => h2u10 b j hb⟩) (fun _ _ h => h) (fun h => (hE.1 _ h).1)
  refine lv_aload_n hx hb dX1_init_42 rfl (lv_at hl 0 rfl) ?_
  refine lv_bipush (v := 6) hx hb dX1_init_43 (by decide) ?_
  refine t_newa (atype := .int) (a0 := (6, .inl (fun _ => 0))) (t := 6) X hT 0 rfl qw_13 (fun _ => rfl) (by decide) (by decide) (Nat.le_of_ble_eq_true rfl) (Nat.le_of_ble_eq_true rfl) (Nat.le_of_ble_eq_true rfl) dX1_init_45 (fun t9 l9 => (show okA G t9 l9 (0, 6, fun _ => (0, 3)) (.inl (G.2 0, (6, .inl (fun _ => 0)))) from ⟨_, rfl, fun _ _ => ⟨show (0 : Int) ≤ (0 : Int32).toInt from by decide, show (0 : Int32).toInt ≤ (3 : Int) from by decide⟩⟩)) (fun q11 tag L F H hT mq11 gq11 kq11 Fq11 hEq11 hxq11 => ?_)
  have f0_0 := (((hxq11 _ m0).2 0).1).trans f0_0
  have f0_1 := (((hxq11 _ m0).2 1).1).trans f0_1
  have f0_2 := (((hxq11 _ m0).2 2).1).trans f0_2
  have f0_3 := (((hxq11 _ m0).2 3).1).trans f0_3
  have f0_4 := (((hxq11 _ m0).2 4).1).trans f0_4
  have f0_5 := (((hxq11 _ m0).2 5).1).trans f0_5
  have f0_6 := (((hxq11 _ m0).2 6).1).trans f0_6
  have vu2 := (((hxq11 _ m0).2 7).1).trans vu2
  have f0_8 := (((hxq11 _ m0).2 8).1).trans f0_8
  have vu4 := (((hxq11 _ m0).2 9).1).trans vu4
  have f0_10 := (((hxq11 _ m0).2 10).1).trans f0_10
  have vu6 := (((hxq11 _ m0).2 11).1).trans vu6
  have vu8 := (((hxq11 _ m0).2 12).1).trans vu8
  have vu10 := (((hxq11 _ m0).2 13).1).trans vu10
  have f0_14 := (((hxq11 _ m0).2 14).1).trans f0_14
  have f0_15 := (((hxq11 _ m0).2 15).1).trans f0_15
  have f0_16 := (((hxq11 _ m0).2 16).1).trans f0_16
  have f0_17 := (((hxq11 _ m0).2 17).1).trans f0_17
  have f0_18 := (((hxq11 _ m0).2 18).1).trans f0_18
  have f0_19 := (((hxq11 _ m0).2 19).1).trans f0_19
  have g0 := (hxq11 _ m0).1.trans g0
  have gq1 := (hxq11 _ mq1).1.trans gq1
  have gq3 := (hxq11 _ mq3).1.trans gq3
  have gq5 := (hxq11 _ mq5).1.trans gq5
  have gq7 := (hxq11 _ mq7).1.trans gq7
  have gq9 := (hxq11 _ mq9).1.trans gq9
  have zq11 : ∀ b ∈ L0, b ≠ q11 := fun b hb h => kq11 (h ▸ (hE.1 b hb).1)
  have nq11_p0 : p0 ≠ q11 := fun h => kq11 (h ▸ m0)
  have nq11_q1 : q1 ≠ q11 := fun h => kq11 (h ▸ mq1)
  have nq11_q3 : q3 ≠ q11 := fun h => kq11 (h ▸ mq3)
  have nq11_q5 : q5 ≠ q11 := fun h => kq11 (h ▸ mq5)
  have nq11_q7 : q7 ≠ q11 := fun h => kq11 (h ▸ mq7)
  have nq11_q9 : q9 ≠ q11 := fun h => kq11 (h ▸ mq9)
  have hE := EXTR.tr hE hEq11 (fun b hb _ => zq11 b hb) (fun h => (hEq11.1 _ ((hE.1 _ h).1)).1)
  have m0 := (hEq11.1 _ m0).1
  have mq1 := (hEq11.1 _ mq1).1
  have mq3 := (hEq11.1 _ mq3).1
  have mq5 := (hEq11.1 _ mq5).1
  have mq7 := (hEq11.1 _ mq7).1
  have mq9 := (hEq11.1 _ mq9).1
  refine t_putF (C := RX1) (T := TX1) (N := 20) (v := .ref q11) X hi hT m0 g0 rfl tyX1 tyX1_ok nmX1 rfl 15 (by decide) qw_55 inlX1 rfl rfl (by first | rfl | decide) (by first | rfl | decide) rfl trivial dX1_init_47 (fun F H locs hT vu12 h1u12 h2u12 => ?_)
  have f0_0 := (h1u12 0 (by decide)).trans f0_0
  have f0_1 := (h1u12 1 (by decide)).trans f0_1
  have f0_2 := (h1u12 2 (by decide)).trans f0_2
  have f0_3 := (h1u12 3 (by decide)).trans f0_3
  have f0_4 := (h1u12 4 (by decide)).trans f0_4
  have f0_5 := (h1u12 5 (by decide)).trans f0_5
  have f0_6 := (h1u12 6 (by decide)).trans f0_6
  have vu2 := (h1u12 7 (by decide)).trans vu2
  have f0_8 := (h1u12 8 (by decide)).trans f0_8
  have vu4 := (h1u12 9 (by decide)).trans vu4
  have f0_10 := (h1u12 10 (by decide)).trans f0_10
  have vu6 := (h1u12 11 (by decide)).trans vu6
  have vu8 := (h1u12 12 (by decide)).trans vu8
  have vu10 := (h1u12 13 (by decide)).trans vu10
  have f0_14 := (h1u12 14 (by decide)).trans f0_14
  have f0_16 := (h1u12 16 (by decide)).trans f0_16
  have f0_17 := (h1u12 17 (by decide)).trans f0_17
  have f0_18 := (h1u12 18 (by decide)).trans f0_18
  have f0_19 := (h1u12 19 (by decide)).trans f0_19
  have hE := EXTR.tr (u := (tag, L, F)) hE (show EXTR p0 tag L _ (tag, L, F) from ⟨fun b hb => ⟨hb, fun _ => rfl⟩, fun b j _ hb => h2u12 b j hb⟩) (fun _ _ h => h) (fun h => (hE.1 _ h).1)
  refine lv_aload_n hx hb dX1_init_50 rfl (lv_at hl 0 rfl) ?_
  refine lv_bipush (v := 6) hx hb dX1_init_51 (by decide) ?_
  refine t_newa (atype := .int) (a0 := (6, .inl (fun _ => 0))) (t := 7) X hT 0 rfl qw_13 (fun _ => rfl) (by decide) (by decide) (Nat.le_of_ble_eq_true rfl) (Nat.le_of_ble_eq_true rfl) (Nat.le_of_ble_eq_true rfl) dX1_init_53 (fun t9 l9 => (show okA G t9 l9 (0, 6, fun _ => ((-2147483648), 2147483647)) (.inl (G.2 0, (6, .inl (fun _ => 0)))) from ⟨_, rfl, fun _ _ => ⟨show ((-2147483648) : Int) ≤ (0 : Int32).toInt from by decide, show (0 : Int32).toInt ≤ (2147483647 : Int) from by decide⟩⟩)) (fun q13 tag L F H hT mq13 gq13 kq13 Fq13 hEq13 hxq13 => ?_)
  have f0_0 := (((hxq13 _ m0).2 0).1).trans f0_0
  have f0_1 := (((hxq13 _ m0).2 1).1).trans f0_1
  have f0_2 := (((hxq13 _ m0).2 2).1).trans f0_2
  have f0_3 := (((hxq13 _ m0).2 3).1).trans f0_3
  have f0_4 := (((hxq13 _ m0).2 4).1).trans f0_4
  have f0_5 := (((hxq13 _ m0).2 5).1).trans f0_5
  have f0_6 := (((hxq13 _ m0).2 6).1).trans f0_6
  have vu2 := (((hxq13 _ m0).2 7).1).trans vu2
  have f0_8 := (((hxq13 _ m0).2 8).1).trans f0_8
  have vu4 := (((hxq13 _ m0).2 9).1).trans vu4
  have f0_10 := (((hxq13 _ m0).2 10).1).trans f0_10
  have vu6 := (((hxq13 _ m0).2 11).1).trans vu6
  have vu8 := (((hxq13 _ m0).2 12).1).trans vu8
  have vu10 := (((hxq13 _ m0).2 13).1).trans vu10
  have f0_14 := (((hxq13 _ m0).2 14).1).trans f0_14
  have vu12 := (((hxq13 _ m0).2 15).1).trans vu12
  have f0_16 := (((hxq13 _ m0).2 16).1).trans f0_16
  have f0_17 := (((hxq13 _ m0).2 17).1).trans f0_17
  have f0_18 := (((hxq13 _ m0).2 18).1).trans f0_18
  have f0_19 := (((hxq13 _ m0).2 19).1).trans f0_19
  have g0 := (hxq13 _ m0).1.trans g0
  have gq1 := (hxq13 _ mq1).1.trans gq1
  have gq3 := (hxq13 _ mq3).1.trans gq3
  have gq5 := (hxq13 _ mq5).1.trans gq5
  have gq7 := (hxq13 _ mq7).1.trans gq7
  have gq9 := (hxq13 _ mq9).1.trans gq9
  have gq11 := (hxq13 _ mq11).1.trans gq11
  have zq13 : ∀ b ∈ L0, b ≠ q13 := fun b hb h => kq13 (h ▸ (hE.1 b hb).1)
  have nq13_p0 : p0 ≠ q13 := fun h => kq13 (h ▸ m0)
  have nq13_q1 : q1 ≠ q13 := fun h => kq13 (h ▸ mq1)
  have nq13_q3 : q3 ≠ q13 := fun h => kq13 (h ▸ mq3)
  have nq13_q5 : q5 ≠ q13 := fun h => kq13 (h ▸ mq5)
  have nq13_q7 : q7 ≠ q13 := fun h => kq13 (h ▸ mq7)
  have nq13_q9 : q9 ≠ q13 := fun h => kq13 (h ▸ mq9)
  have nq13_q11 : q11 ≠ q13 := fun h => kq13 (h ▸ mq11)
  have hE := EXTR.tr hE hEq13 (fun b hb _ => zq13 b hb) (fun h => (hEq13.1 _ ((hE.1 _ h).1)).1)
  have m0 := (hEq13.1 _ m0).1
  have mq1 := (hEq13.1 _ mq1).1
  have mq3 := (hEq13.1 _ mq3).1
  have mq5 := (hEq13.1 _ mq5).1
  have mq7 := (hEq13.1 _ mq7).1
  have mq9 := (hEq13.1 _ mq9).1
  have mq11 := (hEq13.1 _ mq11).1
  refine t_putF (C := RX1) (T := TX1) (N := 20) (v := .ref q13) X hi hT m0 g0 rfl tyX1 tyX1_ok nmX1 rfl 17 (by decide) qw_56 inlX1 rfl rfl (by first | rfl | decide) (by first | rfl | decide) rfl trivial dX1_init_55 (fun F H locs hT vu14 h1u14 h2u14 => ?_)
  have f0_0 := (h1u14 0 (by decide)).trans f0_0
  have f0_1 := (h1u14 1 (by decide)).trans f0_1
  have f0_2 := (h1u14 2 (by decide)).trans f0_2
  have f0_3 := (h1u14 3 (by decide)).trans f0_3
  have f0_4 := (h1u14 4 (by decide)).trans f0_4
  have f0_5 := (h1u14 5 (by decide)).trans f0_5
  have f0_6 := (h1u14 6 (by decide)).trans f0_6
  have vu2 := (h1u14 7 (by decide)).trans vu2
  have f0_8 := (h1u14 8 (by decide)).trans f0_8
  have vu4 := (h1u14 9 (by decide)).trans vu4
  have f0_10 := (h1u14 10 (by decide)).trans f0_10
  have vu6 := (h1u14 11 (by decide)).trans vu6
  have vu8 := (h1u14 12 (by decide)).trans vu8
  have vu10 := (h1u14 13 (by decide)).trans vu10
  have f0_14 := (h1u14 14 (by decide)).trans f0_14
  have vu12 := (h1u14 15 (by decide)).trans vu12
  have f0_16 := (h1u14 16 (by decide)).trans f0_16
  have f0_18 := (h1u14 18 (by decide)).trans f0_18
  have f0_19 := (h1u14 19 (by decide)).trans f0_19
  have hE := EXTR.tr (u := (tag, L, F)) hE (show EXTR p0 tag L _ (tag, L, F) from ⟨fun b hb => ⟨hb, fun _ => rfl⟩, fun b j _ hb => h2u14 b j hb⟩) (fun _ _ h => h) (fun h => (hE.1 _ h).1)
  refine lv_aload_n hx hb dX1_init_58 rfl (lv_at hl 0 rfl) ?_
  refine lv_bipush (v := 6) hx hb dX1_init_59 (by decide) ?_
  refine t_newa (atype := .int) (a0 := (6, .inl (fun _ => 0))) (t := 7) X hT 0 rfl qw_13 (fun _ => rfl) (by decide) (by decide) (Nat.le_of_ble_eq_true rfl) (Nat.le_of_ble_eq_true rfl) (Nat.le_of_ble_eq_true rfl) dX1_init_61 (fun t9 l9 => (show okA G t9 l9 (0, 6, fun _ => ((-2147483648), 2147483647)) (.inl (G.2 0, (6, .inl (fun _ => 0)))) from ⟨_, rfl, fun _ _ => ⟨show ((-2147483648) : Int) ≤ (0 : Int32).toInt from by decide, show (0 : Int32).toInt ≤ (2147483647 : Int) from by decide⟩⟩)) (fun q15 tag L F H hT mq15 gq15 kq15 Fq15 hEq15 hxq15 => ?_)
  have f0_0 := (((hxq15 _ m0).2 0).1).trans f0_0
  have f0_1 := (((hxq15 _ m0).2 1).1).trans f0_1
  have f0_2 := (((hxq15 _ m0).2 2).1).trans f0_2
  have f0_3 := (((hxq15 _ m0).2 3).1).trans f0_3
  have f0_4 := (((hxq15 _ m0).2 4).1).trans f0_4
  have f0_5 := (((hxq15 _ m0).2 5).1).trans f0_5
  have f0_6 := (((hxq15 _ m0).2 6).1).trans f0_6
  have vu2 := (((hxq15 _ m0).2 7).1).trans vu2
  have f0_8 := (((hxq15 _ m0).2 8).1).trans f0_8
  have vu4 := (((hxq15 _ m0).2 9).1).trans vu4
  have f0_10 := (((hxq15 _ m0).2 10).1).trans f0_10
  have vu6 := (((hxq15 _ m0).2 11).1).trans vu6
  have vu8 := (((hxq15 _ m0).2 12).1).trans vu8
  have vu10 := (((hxq15 _ m0).2 13).1).trans vu10
  have f0_14 := (((hxq15 _ m0).2 14).1).trans f0_14
  have vu12 := (((hxq15 _ m0).2 15).1).trans vu12
  have f0_16 := (((hxq15 _ m0).2 16).1).trans f0_16
  have vu14 := (((hxq15 _ m0).2 17).1).trans vu14
  have f0_18 := (((hxq15 _ m0).2 18).1).trans f0_18
  have f0_19 := (((hxq15 _ m0).2 19).1).trans f0_19
  have g0 := (hxq15 _ m0).1.trans g0
  have gq1 := (hxq15 _ mq1).1.trans gq1
  have gq3 := (hxq15 _ mq3).1.trans gq3
  have gq5 := (hxq15 _ mq5).1.trans gq5
  have gq7 := (hxq15 _ mq7).1.trans gq7
  have gq9 := (hxq15 _ mq9).1.trans gq9
  have gq11 := (hxq15 _ mq11).1.trans gq11
  have gq13 := (hxq15 _ mq13).1.trans gq13
  have zq15 : ∀ b ∈ L0, b ≠ q15 := fun b hb h => kq15 (h ▸ (hE.1 b hb).1)
  have nq15_p0 : p0 ≠ q15 := fun h => kq15 (h ▸ m0)
  have nq15_q1 : q1 ≠ q15 := fun h => kq15 (h ▸ mq1)
  have nq15_q3 : q3 ≠ q15 := fun h => kq15 (h ▸ mq3)
  have nq15_q5 : q5 ≠ q15 := fun h => kq15 (h ▸ mq5)
  have nq15_q7 : q7 ≠ q15 := fun h => kq15 (h ▸ mq7)
  have nq15_q9 : q9 ≠ q15 := fun h => kq15 (h ▸ mq9)
  have nq15_q11 : q11 ≠ q15 := fun h => kq15 (h ▸ mq11)
  have nq15_q13 : q13 ≠ q15 := fun h => kq15 (h ▸ mq13)
  have hE := EXTR.tr hE hEq15 (fun b hb _ => zq15 b hb) (fun h => (hEq15.1 _ ((hE.1 _ h).1)).1)
  have m0 := (hEq15.1 _ m0).1
  have mq1 := (hEq15.1 _ mq1).1
  have mq3 := (hEq15.1 _ mq3).1
  have mq5 := (hEq15.1 _ mq5).1
  have mq7 := (hEq15.1 _ mq7).1
  have mq9 := (hEq15.1 _ mq9).1
  have mq11 := (hEq15.1 _ mq11).1
  have mq13 := (hEq15.1 _ mq13).1
  refine t_putF (C := RX1) (T := TX1) (N := 20) (v := .ref q15) X hi hT m0 g0 rfl tyX1 tyX1_ok nmX1 rfl 18 (by decide) qw_57 inlX1 rfl rfl (by first | rfl | decide) (by first | rfl | decide) rfl trivial dX1_init_63 (fun F H locs hT vu16 h1u16 h2u16 => ?_)
  have f0_0 := (h1u16 0 (by decide)).trans f0_0
  have f0_1 := (h1u16 1 (by decide)).trans f0_1
  have f0_2 := (h1u16 2 (by decide)).trans f0_2
  have f0_3 := (h1u16 3 (by decide)).trans f0_3
  have f0_4 := (h1u16 4 (by decide)).trans f0_4
  have f0_5 := (h1u16 5 (by decide)).trans f0_5
  have f0_6 := (h1u16 6 (by decide)).trans f0_6
  have vu2 := (h1u16 7 (by decide)).trans vu2
  have f0_8 := (h1u16 8 (by decide)).trans f0_8
  have vu4 := (h1u16 9 (by decide)).trans vu4
  have f0_10 := (h1u16 10 (by decide)).trans f0_10
  have vu6 := (h1u16 11 (by decide)).trans vu6
  have vu8 := (h1u16 12 (by decide)).trans vu8
  have vu10 := (h1u16 13 (by decide)).trans vu10
  have f0_14 := (h1u16 14 (by decide)).trans f0_14
  have vu12 := (h1u16 15 (by decide)).trans vu12
  have f0_16 := (h1u16 16 (by decide)).trans f0_16
  have vu14 := (h1u16 17 (by decide)).trans vu14
  have f0_19 := (h1u16 19 (by decide)).trans f0_19
  have hE := EXTR.tr (u := (tag, L, F)) hE (show EXTR p0 tag L _ (tag, L, F) from ⟨fun b hb => ⟨hb, fun _ => rfl⟩, fun b j _ hb => h2u16 b j hb⟩) (fun _ _ h => h) (fun h => (hE.1 _ h).1)
  refine lv_aload_n hx hb dX1_init_66 rfl (lv_at hl 0 rfl) ?_
  refine lv_bipush (v := 6) hx hb dX1_init_67 (by decide) ?_
  refine t_newa (atype := .int) (a0 := (6, .inl (fun _ => 0))) (t := 7) X hT 0 rfl qw_13 (fun _ => rfl) (by decide) (by decide) (Nat.le_of_ble_eq_true rfl) (Nat.le_of_ble_eq_true rfl) (Nat.le_of_ble_eq_true rfl) dX1_init_69 (fun t9 l9 => (show okA G t9 l9 (0, 6, fun _ => ((-2147483648), 2147483647)) (.inl (G.2 0, (6, .inl (fun _ => 0)))) from ⟨_, rfl, fun _ _ => ⟨show ((-2147483648) : Int) ≤ (0 : Int32).toInt from by decide, show (0 : Int32).toInt ≤ (2147483647 : Int) from by decide⟩⟩)) (fun q17 tag L F H hT mq17 gq17 kq17 Fq17 hEq17 hxq17 => ?_)
  have f0_0 := (((hxq17 _ m0).2 0).1).trans f0_0
  have f0_1 := (((hxq17 _ m0).2 1).1).trans f0_1
  have f0_2 := (((hxq17 _ m0).2 2).1).trans f0_2
  have f0_3 := (((hxq17 _ m0).2 3).1).trans f0_3
  have f0_4 := (((hxq17 _ m0).2 4).1).trans f0_4
  have f0_5 := (((hxq17 _ m0).2 5).1).trans f0_5
  have f0_6 := (((hxq17 _ m0).2 6).1).trans f0_6
  have vu2 := (((hxq17 _ m0).2 7).1).trans vu2
  have f0_8 := (((hxq17 _ m0).2 8).1).trans f0_8
  have vu4 := (((hxq17 _ m0).2 9).1).trans vu4
  have f0_10 := (((hxq17 _ m0).2 10).1).trans f0_10
  have vu6 := (((hxq17 _ m0).2 11).1).trans vu6
  have vu8 := (((hxq17 _ m0).2 12).1).trans vu8
  have vu10 := (((hxq17 _ m0).2 13).1).trans vu10
  have f0_14 := (((hxq17 _ m0).2 14).1).trans f0_14
  have vu12 := (((hxq17 _ m0).2 15).1).trans vu12
  have f0_16 := (((hxq17 _ m0).2 16).1).trans f0_16
  have vu14 := (((hxq17 _ m0).2 17).1).trans vu14
  have vu16 := (((hxq17 _ m0).2 18).1).trans vu16
  have f0_19 := (((hxq17 _ m0).2 19).1).trans f0_19
  have g0 := (hxq17 _ m0).1.trans g0
  have gq1 := (hxq17 _ mq1).1.trans gq1
  have gq3 := (hxq17 _ mq3).1.trans gq3
  have gq5 := (hxq17 _ mq5).1.trans gq5
  have gq7 := (hxq17 _ mq7).1.trans gq7
  have gq9 := (hxq17 _ mq9).1.trans gq9
  have gq11 := (hxq17 _ mq11).1.trans gq11
  have gq13 := (hxq17 _ mq13).1.trans gq13
  have gq15 := (hxq17 _ mq15).1.trans gq15
  have zq17 : ∀ b ∈ L0, b ≠ q17 := fun b hb h => kq17 (h ▸ (hE.1 b hb).1)
  have nq17_p0 : p0 ≠ q17 := fun h => kq17 (h ▸ m0)
  have nq17_q1 : q1 ≠ q17 := fun h => kq17 (h ▸ mq1)
  have nq17_q3 : q3 ≠ q17 := fun h => kq17 (h ▸ mq3)
  have nq17_q5 : q5 ≠ q17 := fun h => kq17 (h ▸ mq5)
  have nq17_q7 : q7 ≠ q17 := fun h => kq17 (h ▸ mq7)
  have nq17_q9 : q9 ≠ q17 := fun h => kq17 (h ▸ mq9)
  have nq17_q11 : q11 ≠ q17 := fun h => kq17 (h ▸ mq11)
  have nq17_q13 : q13 ≠ q17 := fun h => kq17 (h ▸ mq13)
  have nq17_q15 : q15 ≠ q17 := fun h => kq17 (h ▸ mq15)
  have hE := EXTR.tr hE hEq17 (fun b hb _ => zq17 b hb) (fun h => (hEq17.1 _ ((hE.1 _ h).1)).1)
  have m0 := (hEq17.1 _ m0).1
  have mq1 := (hEq17.1 _ mq1).1
  have mq3 := (hEq17.1 _ mq3).1
  have mq5 := (hEq17.1 _ mq5).1
  have mq7 := (hEq17.1 _ mq7).1
  have mq9 := (hEq17.1 _ mq9).1
  have mq11 := (hEq17.1 _ mq11).1
  have mq13 := (hEq17.1 _ mq13).1
  have mq15 := (hEq17.1 _ mq15).1
  refine t_putF (C := RX1) (T := TX1) (N := 20) (v := .ref q17) X hi hT m0 g0 rfl tyX1 tyX1_ok nmX1 rfl 19 (by decide) qw_58 inlX1 rfl rfl (by first | rfl | decide) (by first | rfl | decide) rfl trivial dX1_init_71 (fun F H locs hT vu18 h1u18 h2u18 => ?_)
  have f0_0 := (h1u18 0 (by decide)).trans f0_0
  have f0_1 := (h1u18 1 (by decide)).trans f0_1
  have f0_2 := (h1u18 2 (by decide)).trans f0_2
  have f0_3 := (h1u18 3 (by decide)).trans f0_3
  have f0_4 := (h1u18 4 (by decide)).trans f0_4
  have f0_5 := (h1u18 5 (by decide)).trans f0_5
  have f0_6 := (h1u18 6 (by decide)).trans f0_6
  have vu2 := (h1u18 7 (by decide)).trans vu2
  have f0_8 := (h1u18 8 (by decide)).trans f0_8
  have vu4 := (h1u18 9 (by decide)).trans vu4
  have f0_10 := (h1u18 10 (by decide)).trans f0_10
  have vu6 := (h1u18 11 (by decide)).trans vu6
  have vu8 := (h1u18 12 (by decide)).trans vu8
  have vu10 := (h1u18 13 (by decide)).trans vu10
  have f0_14 := (h1u18 14 (by decide)).trans f0_14
  have vu12 := (h1u18 15 (by decide)).trans vu12
  have f0_16 := (h1u18 16 (by decide)).trans f0_16
  have vu14 := (h1u18 17 (by decide)).trans vu14
  have vu16 := (h1u18 18 (by decide)).trans vu16
  have hE := EXTR.tr (u := (tag, L, F)) hE (show EXTR p0 tag L _ (tag, L, F) from ⟨fun b hb => ⟨hb, fun _ => rfl⟩, fun b j _ hb => h2u18 b j hb⟩) (fun _ _ h => h) (fun h => (hE.1 _ h).1)
  have hT := th_done (t := 18) hT m0 g0 rfl rfl rfl (nl_of (by decide)) (fun k f hk => by
    match k, hk with
    | 0, hk => obtain rfl := Option.some.inj (show some ((0, 0, 12) : FT) = some f from hk); rw [f0_0]; exact ⟨0, rfl, by decide, by decide⟩
    | 1, hk => obtain rfl := Option.some.inj (show some ((0, 0, 12) : FT) = some f from hk); rw [f0_1]; exact ⟨0, rfl, by decide, by decide⟩
    | 2, hk => obtain rfl := Option.some.inj (show some ((0, 0, 1) : FT) = some f from hk); rw [f0_2]; exact ⟨0, rfl, by decide, by decide⟩
    | 3, hk => obtain rfl := Option.some.inj (show some ((0, 0, 1) : FT) = some f from hk); rw [f0_3]; exact ⟨0, rfl, by decide, by decide⟩
    | 4, hk => obtain rfl := Option.some.inj (show some ((0, (-2147483648), 2147483647) : FT) = some f from hk); rw [f0_4]; exact ⟨0, rfl, by decide, by decide⟩
    | 5, hk => obtain rfl := Option.some.inj (show some ((0, (-2147483648), 2147483647) : FT) = some f from hk); rw [f0_5]; exact ⟨0, rfl, by decide, by decide⟩
    | 6, hk => obtain rfl := Option.some.inj (show some ((0, (-2147483648), 2147483647) : FT) = some f from hk); rw [f0_6]; exact ⟨0, rfl, by decide, by decide⟩
    | 7, hk => obtain rfl := Option.some.inj (show some ((1, 2, 0) : FT) = some f from hk); rw [vu2]; exact ⟨q1, rfl, mq1, by rw [tup_ne (tne gq1 g0 (by decide))]; rw [gq1]; rfl⟩
    | 8, hk => obtain rfl := Option.some.inj (show some ((0, (-2147483648), 2147483647) : FT) = some f from hk); rw [f0_8]; exact ⟨0, rfl, by decide, by decide⟩
    | 9, hk => obtain rfl := Option.some.inj (show some ((1, 3, 0) : FT) = some f from hk); rw [vu4]; exact ⟨q3, rfl, mq3, by rw [tup_ne (tne gq3 g0 (by decide))]; rw [gq3]; rfl⟩
    | 10, hk => obtain rfl := Option.some.inj (show some ((0, 0, 4) : FT) = some f from hk); rw [f0_10]; exact ⟨0, rfl, by decide, by decide⟩
    | 11, hk => obtain rfl := Option.some.inj (show some ((1, 4, 0) : FT) = some f from hk); rw [vu6]; exact ⟨q5, rfl, mq5, by rw [tup_ne (tne gq5 g0 (by decide))]; rw [gq5]; rfl⟩
    | 12, hk => obtain rfl := Option.some.inj (show some ((1, 4, 0) : FT) = some f from hk); rw [vu8]; exact ⟨q7, rfl, mq7, by rw [tup_ne (tne gq7 g0 (by decide))]; rw [gq7]; rfl⟩
    | 13, hk => obtain rfl := Option.some.inj (show some ((1, 5, 0) : FT) = some f from hk); rw [vu10]; exact ⟨q9, rfl, mq9, by rw [tup_ne (tne gq9 g0 (by decide))]; rw [gq9]; rfl⟩
    | 14, hk => obtain rfl := Option.some.inj (show some ((0, 0, 6) : FT) = some f from hk); rw [f0_14]; exact ⟨0, rfl, by decide, by decide⟩
    | 15, hk => obtain rfl := Option.some.inj (show some ((1, 6, 0) : FT) = some f from hk); rw [vu12]; exact ⟨q11, rfl, mq11, by rw [tup_ne (tne gq11 g0 (by decide))]; rw [gq11]; rfl⟩
    | 16, hk => obtain rfl := Option.some.inj (show some ((0, 0, 6) : FT) = some f from hk); rw [f0_16]; exact ⟨0, rfl, by decide, by decide⟩
    | 17, hk => obtain rfl := Option.some.inj (show some ((1, 7, 0) : FT) = some f from hk); rw [vu14]; exact ⟨q13, rfl, mq13, by rw [tup_ne (tne gq13 g0 (by decide))]; rw [gq13]; rfl⟩
    | 18, hk => obtain rfl := Option.some.inj (show some ((1, 7, 0) : FT) = some f from hk); rw [vu16]; exact ⟨q15, rfl, mq15, by rw [tup_ne (tne gq15 g0 (by decide))]; rw [gq15]; rfl⟩
    | 19, hk => obtain rfl := Option.some.inj (show some ((1, 7, 0) : FT) = some f from hk); rw [vu18]; exact ⟨q17, rfl, mq17, by rw [tup_ne (tne gq17 g0 (by decide))]; rw [gq17]; rfl⟩
    | k + 20, hk => exact absurd hk (by simp))
  exact t_vreta hQ X hT ⟨extr_re hE, m0, tup_self⟩ (Nat.le_of_ble_eq_true rfl) (Nat.le_of_ble_eq_true rfl) dX1_init_74
set_option maxHeartbeats 4000000 in
set_option maxRecDepth 100000 in
theorem ka_X7_init (l : Launch) (G : KG) (tag0 : Nat → Nat) (L0 : List Nat) (Fo : Nat → va_E) (ho : okT G ttC tag0 L0 Fo) (p0 : Nat) (m0 : p0 ∈ L0) (g0 : tag0 p0 = 48) (f0_0 : fld Fo p0 0 = .int 0) (f0_1 : fld Fo p0 1 = .int 0) (f0_2 : fld Fo p0 2 = .null) (f0_3 : fld Fo p0 3 = .null) (f0_4 : fld Fo p0 4 = .null) (f0_5 : fld Fo p0 5 = .null) (f0_6 : fld Fo p0 6 = .null) : TMa l yX7_init cX7_init 1 { frames := 1, cells := 5, slots := 210, locals := 12 } G ttC tag0 L0 Fo [.ref p0] (fun u => EXTR p0 tag0 L0 Fo u ∧ p0 ∈ u.2.1 ∧ u.1 p0 = 19) := by
  refine t_bodya (y := yX7_init) (cd := cX7_init) (mL := 1) (rm := { frames := 1, cells := 5, slots := 210, locals := 12 }) (av := [.ref p0]) (by decide) (Nat.le_of_ble_eq_true rfl) ho ?_
  intro p e s m args below meth c ls A Q hQ X hi hT hl
  have hx := X.1.1
  have hb := X.1.2.1
  have hi : meth.name = "<init>" := hi
  have hl : lv_has ls 1 [(0, .ref p0)] := hl
  obtain ⟨tag, htg⟩ : ∃ t : Nat → Nat, t = tag0 := ⟨_, rfl⟩
  obtain ⟨L, hLL⟩ : ∃ t : List Nat, t = L0 := ⟨_, rfl⟩
  obtain ⟨F, hFF⟩ : ∃ t : Nat → va_E, t = Fo := ⟨_, rfl⟩
  have hE : EXTR p0 tag0 L0 Fo (tag, L, F) := by rw [htg, hLL, hFF]; exact EXTR.rf
  rw [← htg, ← hLL, ← hFF] at hT
  have m0 : p0 ∈ L := by rw [hLL]; exact m0
  have g0 : tag p0 = 48 := by rw [htg]; exact g0
  rw [← hFF] at f0_0 f0_1 f0_2 f0_3 f0_4 f0_5 f0_6
  refine lv_aload_n hx hb dX7_init_0 rfl (lv_at hl 0 rfl) ?_
  refine m_objI X hl qw_61 qw_11 qw_12 dX7_init_1 (Nat.le_of_ble_eq_true rfl) (Nat.le_of_ble_eq_true rfl) ?_
  refine lv_aload_n hx hb dX7_init_4 rfl (lv_at hl 0 rfl) ?_
  refine lv_iconst (v := 4) hx hb dX7_init_5 (by decide) ?_
  refine t_newa (atype := .int) (a0 := (4, .inl (fun _ => 0))) (t := 8) X hT 0 rfl qw_13 (fun _ => rfl) (by decide) (by decide) (Nat.le_of_ble_eq_true rfl) (Nat.le_of_ble_eq_true rfl) (Nat.le_of_ble_eq_true rfl) dX7_init_6 (fun t9 l9 => (show okA G t9 l9 (0, 4, fun _ => (0, 6)) (.inl (G.2 0, (4, .inl (fun _ => 0)))) from ⟨_, rfl, fun _ _ => ⟨show (0 : Int) ≤ (0 : Int32).toInt from by decide, show (0 : Int32).toInt ≤ (6 : Int) from by decide⟩⟩)) (fun q1 tag L F H hT mq1 gq1 kq1 Fq1 hEq1 hxq1 => ?_)
  have f0_0 := (((hxq1 _ m0).2 0).1).trans f0_0
  have f0_1 := (((hxq1 _ m0).2 1).1).trans f0_1
  have f0_2 := (((hxq1 _ m0).2 2).1).trans f0_2
  have f0_3 := (((hxq1 _ m0).2 3).1).trans f0_3
  have f0_4 := (((hxq1 _ m0).2 4).1).trans f0_4
  have f0_5 := (((hxq1 _ m0).2 5).1).trans f0_5
  have f0_6 := (((hxq1 _ m0).2 6).1).trans f0_6
  have g0 := (hxq1 _ m0).1.trans g0
  have zq1 : ∀ b ∈ L0, b ≠ q1 := fun b hb h => kq1 (h ▸ (hE.1 b hb).1)
  have nq1_p0 : p0 ≠ q1 := fun h => kq1 (h ▸ m0)
  have hE := EXTR.tr hE hEq1 (fun b hb _ => zq1 b hb) (fun h => (hEq1.1 _ ((hE.1 _ h).1)).1)
  have m0 := (hEq1.1 _ m0).1
  refine t_putF (C := RX7) (T := TX7) (N := 7) (v := .ref q1) X hi hT m0 g0 rfl tyX7 tyX7_ok nmX7 rfl 2 (by decide) qw_62 inlX7 rfl rfl (by first | rfl | decide) (by first | rfl | decide) rfl trivial dX7_init_8 (fun F H locs hT vu2 h1u2 h2u2 => ?_)
  have f0_0 := (h1u2 0 (by decide)).trans f0_0
  have f0_1 := (h1u2 1 (by decide)).trans f0_1
  have f0_3 := (h1u2 3 (by decide)).trans f0_3
  have f0_4 := (h1u2 4 (by decide)).trans f0_4
  have f0_5 := (h1u2 5 (by decide)).trans f0_5
  have f0_6 := (h1u2 6 (by decide)).trans f0_6
  have hE := EXTR.tr (u := (tag, L, F)) hE (show EXTR p0 tag L _ (tag, L, F) from ⟨fun b hb => ⟨hb, fun _ => rfl⟩, fun b j _ hb => h2u2 b j hb⟩) (fun _ _ h => h) (fun h => (hE.1 _ h).1)
  refine lv_aload_n hx hb dX7_init_11 rfl (lv_at hl 0 rfl) ?_
  refine lv_iconst (v := 4) hx hb dX7_init_12 (by decide) ?_
  refine t_newa (atype := .int) (a0 := (4, .inl (fun _ => 0))) (t := 5) X hT 0 rfl qw_13 (fun _ => rfl) (by decide) (by decide) (Nat.le_of_ble_eq_true rfl) (Nat.le_of_ble_eq_true rfl) (Nat.le_of_ble_eq_true rfl) dX7_init_13 (fun t9 l9 => (show okA G t9 l9 (0, 4, fun _ => ((-2147483648), 2147483647)) (.inl (G.2 0, (4, .inl (fun _ => 0)))) from ⟨_, rfl, fun _ _ => ⟨show ((-2147483648) : Int) ≤ (0 : Int32).toInt from by decide, show (0 : Int32).toInt ≤ (2147483647 : Int) from by decide⟩⟩)) (fun q3 tag L F H hT mq3 gq3 kq3 Fq3 hEq3 hxq3 => ?_)
  have f0_0 := (((hxq3 _ m0).2 0).1).trans f0_0
  have f0_1 := (((hxq3 _ m0).2 1).1).trans f0_1
  have vu2 := (((hxq3 _ m0).2 2).1).trans vu2
  have f0_3 := (((hxq3 _ m0).2 3).1).trans f0_3
  have f0_4 := (((hxq3 _ m0).2 4).1).trans f0_4
  have f0_5 := (((hxq3 _ m0).2 5).1).trans f0_5
  have f0_6 := (((hxq3 _ m0).2 6).1).trans f0_6
  have g0 := (hxq3 _ m0).1.trans g0
  have gq1 := (hxq3 _ mq1).1.trans gq1
  have zq3 : ∀ b ∈ L0, b ≠ q3 := fun b hb h => kq3 (h ▸ (hE.1 b hb).1)
  have nq3_p0 : p0 ≠ q3 := fun h => kq3 (h ▸ m0)
  have nq3_q1 : q1 ≠ q3 := fun h => kq3 (h ▸ mq1)
  have hE := EXTR.tr hE hEq3 (fun b hb _ => zq3 b hb) (fun h => (hEq3.1 _ ((hE.1 _ h).1)).1)
  have m0 := (hEq3.1 _ m0).1
  have mq1 := (hEq3.1 _ mq1).1
  refine t_putF (C := RX7) (T := TX7) (N := 7) (v := .ref q3) X hi hT m0 g0 rfl tyX7 tyX7_ok nmX7 rfl 3 (by decide) qw_63 inlX7 rfl rfl (by first | rfl | decide) (by first | rfl | decide) rfl trivial dX7_init_15 (fun F H locs hT vu4 h1u4 h2u4 => ?_)
  have f0_0 := (h1u4 0 (by decide)).trans f0_0
  have f0_1 := (h1u4 1 (by decide)).trans f0_1
  have vu2 := (h1u4 2 (by decide)).trans vu2
  have f0_4 := (h1u4 4 (by decide)).trans f0_4
  have f0_5 := (h1u4 5 (by decide)).trans f0_5
  have f0_6 := (h1u4 6 (by decide)).trans f0_6
  have hE := EXTR.tr (u := (tag, L, F)) hE (show EXTR p0 tag L _ (tag, L, F) from ⟨fun b hb => ⟨hb, fun _ => rfl⟩, fun b j _ hb => h2u4 b j hb⟩) (fun _ _ h => h) (fun h => (hE.1 _ h).1)
  refine lv_aload_n hx hb dX7_init_18 rfl (lv_at hl 0 rfl) ?_
  refine lv_iconst (v := 4) hx hb dX7_init_19 (by decide) ?_
  refine t_newa (atype := .int) (a0 := (4, .inl (fun _ => 0))) (t := 5) X hT 0 rfl qw_13 (fun _ => rfl) (by decide) (by decide) (Nat.le_of_ble_eq_true rfl) (Nat.le_of_ble_eq_true rfl) (Nat.le_of_ble_eq_true rfl) dX7_init_20 (fun t9 l9 => (show okA G t9 l9 (0, 4, fun _ => ((-2147483648), 2147483647)) (.inl (G.2 0, (4, .inl (fun _ => 0)))) from ⟨_, rfl, fun _ _ => ⟨show ((-2147483648) : Int) ≤ (0 : Int32).toInt from by decide, show (0 : Int32).toInt ≤ (2147483647 : Int) from by decide⟩⟩)) (fun q5 tag L F H hT mq5 gq5 kq5 Fq5 hEq5 hxq5 => ?_)
  have f0_0 := (((hxq5 _ m0).2 0).1).trans f0_0
  have f0_1 := (((hxq5 _ m0).2 1).1).trans f0_1
  have vu2 := (((hxq5 _ m0).2 2).1).trans vu2
  have vu4 := (((hxq5 _ m0).2 3).1).trans vu4
  have f0_4 := (((hxq5 _ m0).2 4).1).trans f0_4
  have f0_5 := (((hxq5 _ m0).2 5).1).trans f0_5
  have f0_6 := (((hxq5 _ m0).2 6).1).trans f0_6
  have g0 := (hxq5 _ m0).1.trans g0
  have gq1 := (hxq5 _ mq1).1.trans gq1
  have gq3 := (hxq5 _ mq3).1.trans gq3
  have zq5 : ∀ b ∈ L0, b ≠ q5 := fun b hb h => kq5 (h ▸ (hE.1 b hb).1)
  have nq5_p0 : p0 ≠ q5 := fun h => kq5 (h ▸ m0)
  have nq5_q1 : q1 ≠ q5 := fun h => kq5 (h ▸ mq1)
  have nq5_q3 : q3 ≠ q5 := fun h => kq5 (h ▸ mq3)
  have hE := EXTR.tr hE hEq5 (fun b hb _ => zq5 b hb) (fun h => (hEq5.1 _ ((hE.1 _ h).1)).1)
  have m0 := (hEq5.1 _ m0).1
  have mq1 := (hEq5.1 _ mq1).1
  have mq3 := (hEq5.1 _ mq3).1
  refine t_putF (C := RX7) (T := TX7) (N := 7) (v := .ref q5) X hi hT m0 g0 rfl tyX7 tyX7_ok nmX7 rfl 4 (by decide) qw_64 inlX7 rfl rfl (by first | rfl | decide) (by first | rfl | decide) rfl trivial dX7_init_22 (fun F H locs hT vu6 h1u6 h2u6 => ?_)
  have f0_0 := (h1u6 0 (by decide)).trans f0_0
  have f0_1 := (h1u6 1 (by decide)).trans f0_1
  have vu2 := (h1u6 2 (by decide)).trans vu2
  have vu4 := (h1u6 3 (by decide)).trans vu4
  have f0_5 := (h1u6 5 (by decide)).trans f0_5
  have f0_6 := (h1u6 6 (by decide)).trans f0_6
  have hE := EXTR.tr (u := (tag, L, F)) hE (show EXTR p0 tag L _ (tag, L, F) from ⟨fun b hb => ⟨hb, fun _ => rfl⟩, fun b j _ hb => h2u6 b j hb⟩) (fun _ _ h => h) (fun h => (hE.1 _ h).1)
  refine lv_aload_n hx hb dX7_init_25 rfl (lv_at hl 0 rfl) ?_
  refine lv_bipush (v := 6) hx hb dX7_init_26 (by decide) ?_
  refine t_newa (atype := .int) (a0 := (6, .inl (fun _ => 0))) (t := 7) X hT 0 rfl qw_13 (fun _ => rfl) (by decide) (by decide) (Nat.le_of_ble_eq_true rfl) (Nat.le_of_ble_eq_true rfl) (Nat.le_of_ble_eq_true rfl) dX7_init_28 (fun t9 l9 => (show okA G t9 l9 (0, 6, fun _ => ((-2147483648), 2147483647)) (.inl (G.2 0, (6, .inl (fun _ => 0)))) from ⟨_, rfl, fun _ _ => ⟨show ((-2147483648) : Int) ≤ (0 : Int32).toInt from by decide, show (0 : Int32).toInt ≤ (2147483647 : Int) from by decide⟩⟩)) (fun q7 tag L F H hT mq7 gq7 kq7 Fq7 hEq7 hxq7 => ?_)
  have f0_0 := (((hxq7 _ m0).2 0).1).trans f0_0
  have f0_1 := (((hxq7 _ m0).2 1).1).trans f0_1
  have vu2 := (((hxq7 _ m0).2 2).1).trans vu2
  have vu4 := (((hxq7 _ m0).2 3).1).trans vu4
  have vu6 := (((hxq7 _ m0).2 4).1).trans vu6
  have f0_5 := (((hxq7 _ m0).2 5).1).trans f0_5
  have f0_6 := (((hxq7 _ m0).2 6).1).trans f0_6
  have g0 := (hxq7 _ m0).1.trans g0
  have gq1 := (hxq7 _ mq1).1.trans gq1
  have gq3 := (hxq7 _ mq3).1.trans gq3
  have gq5 := (hxq7 _ mq5).1.trans gq5
  have zq7 : ∀ b ∈ L0, b ≠ q7 := fun b hb h => kq7 (h ▸ (hE.1 b hb).1)
  have nq7_p0 : p0 ≠ q7 := fun h => kq7 (h ▸ m0)
  have nq7_q1 : q1 ≠ q7 := fun h => kq7 (h ▸ mq1)
  have nq7_q3 : q3 ≠ q7 := fun h => kq7 (h ▸ mq3)
  have nq7_q5 : q5 ≠ q7 := fun h => kq7 (h ▸ mq5)
  have hE := EXTR.tr hE hEq7 (fun b hb _ => zq7 b hb) (fun h => (hEq7.1 _ ((hE.1 _ h).1)).1)
  have m0 := (hEq7.1 _ m0).1
  have mq1 := (hEq7.1 _ mq1).1
  have mq3 := (hEq7.1 _ mq3).1
  have mq5 := (hEq7.1 _ mq5).1
  refine t_putF (C := RX7) (T := TX7) (N := 7) (v := .ref q7) X hi hT m0 g0 rfl tyX7 tyX7_ok nmX7 rfl 5 (by decide) qw_65 inlX7 rfl rfl (by first | rfl | decide) (by first | rfl | decide) rfl trivial dX7_init_30 (fun F H locs hT vu8 h1u8 h2u8 => ?_)
  have f0_0 := (h1u8 0 (by decide)).trans f0_0
  have f0_1 := (h1u8 1 (by decide)).trans f0_1
  have vu2 := (h1u8 2 (by decide)).trans vu2
  have vu4 := (h1u8 3 (by decide)).trans vu4
  have vu6 := (h1u8 4 (by decide)).trans vu6
  have f0_6 := (h1u8 6 (by decide)).trans f0_6
  have hE := EXTR.tr (u := (tag, L, F)) hE (show EXTR p0 tag L _ (tag, L, F) from ⟨fun b hb => ⟨hb, fun _ => rfl⟩, fun b j _ hb => h2u8 b j hb⟩) (fun _ _ h => h) (fun h => (hE.1 _ h).1)
  refine lv_aload_n hx hb dX7_init_33 rfl (lv_at hl 0 rfl) ?_
  refine lv_sipush (v := 192) hx hb dX7_init_34 (by decide) ?_
  refine t_newa (atype := .int) (a0 := (192, .inl (fun _ => 0))) (t := 9) X hT 0 rfl qw_13 (fun _ => rfl) (by decide) (by decide) (Nat.le_of_ble_eq_true rfl) (Nat.le_of_ble_eq_true rfl) (Nat.le_of_ble_eq_true rfl) dX7_init_37 (fun t9 l9 => (show okA G t9 l9 (0, 192, fun _ => ((-2147483648), 2147483647)) (.inl (G.2 0, (192, .inl (fun _ => 0)))) from ⟨_, rfl, fun _ _ => ⟨show ((-2147483648) : Int) ≤ (0 : Int32).toInt from by decide, show (0 : Int32).toInt ≤ (2147483647 : Int) from by decide⟩⟩)) (fun q9 tag L F H hT mq9 gq9 kq9 Fq9 hEq9 hxq9 => ?_)
  have f0_0 := (((hxq9 _ m0).2 0).1).trans f0_0
  have f0_1 := (((hxq9 _ m0).2 1).1).trans f0_1
  have vu2 := (((hxq9 _ m0).2 2).1).trans vu2
  have vu4 := (((hxq9 _ m0).2 3).1).trans vu4
  have vu6 := (((hxq9 _ m0).2 4).1).trans vu6
  have vu8 := (((hxq9 _ m0).2 5).1).trans vu8
  have f0_6 := (((hxq9 _ m0).2 6).1).trans f0_6
  have g0 := (hxq9 _ m0).1.trans g0
  have gq1 := (hxq9 _ mq1).1.trans gq1
  have gq3 := (hxq9 _ mq3).1.trans gq3
  have gq5 := (hxq9 _ mq5).1.trans gq5
  have gq7 := (hxq9 _ mq7).1.trans gq7
  have zq9 : ∀ b ∈ L0, b ≠ q9 := fun b hb h => kq9 (h ▸ (hE.1 b hb).1)
  have nq9_p0 : p0 ≠ q9 := fun h => kq9 (h ▸ m0)
  have nq9_q1 : q1 ≠ q9 := fun h => kq9 (h ▸ mq1)
  have nq9_q3 : q3 ≠ q9 := fun h => kq9 (h ▸ mq3)
  have nq9_q5 : q5 ≠ q9 := fun h => kq9 (h ▸ mq5)
  have nq9_q7 : q7 ≠ q9 := fun h => kq9 (h ▸ mq7)
  have hE := EXTR.tr hE hEq9 (fun b hb _ => zq9 b hb) (fun h => (hEq9.1 _ ((hE.1 _ h).1)).1)
  have m0 := (hEq9.1 _ m0).1
  have mq1 := (hEq9.1 _ mq1).1
  have mq3 := (hEq9.1 _ mq3).1
  have mq5 := (hEq9.1 _ mq5).1
  have mq7 := (hEq9.1 _ mq7).1
  refine t_putF (C := RX7) (T := TX7) (N := 7) (v := .ref q9) X hi hT m0 g0 rfl tyX7 tyX7_ok nmX7 rfl 6 (by decide) qw_66 inlX7 rfl rfl (by first | rfl | decide) (by first | rfl | decide) rfl trivial dX7_init_39 (fun F H locs hT vu10 h1u10 h2u10 => ?_)
  have f0_0 := (h1u10 0 (by decide)).trans f0_0
  have f0_1 := (h1u10 1 (by decide)).trans f0_1
  have vu2 := (h1u10 2 (by decide)).trans vu2
  have vu4 := (h1u10 3 (by decide)).trans vu4
  have vu6 := (h1u10 4 (by decide)).trans vu6
  have vu8 := (h1u10 5 (by decide)).trans vu8
  have hE := EXTR.tr (u := (tag, L, F)) hE (show EXTR p0 tag L _ (tag, L, F) from ⟨fun b hb => ⟨hb, fun _ => rfl⟩, fun b j _ hb => h2u10 b j hb⟩) (fun _ _ h => h) (fun h => (hE.1 _ h).1)
  have hT := th_done (t := 19) hT m0 g0 rfl rfl rfl (nl_of (by decide)) (fun k f hk => by
    match k, hk with
    | 0, hk => obtain rfl := Option.some.inj (show some ((0, (-2147483648), 2147483647) : FT) = some f from hk); rw [f0_0]; exact ⟨0, rfl, by decide, by decide⟩
    | 1, hk => obtain rfl := Option.some.inj (show some ((0, (-2147483648), 2147483647) : FT) = some f from hk); rw [f0_1]; exact ⟨0, rfl, by decide, by decide⟩
    | 2, hk => obtain rfl := Option.some.inj (show some ((1, 8, 0) : FT) = some f from hk); rw [vu2]; exact ⟨q1, rfl, mq1, by rw [tup_ne (tne gq1 g0 (by decide))]; rw [gq1]; rfl⟩
    | 3, hk => obtain rfl := Option.some.inj (show some ((1, 5, 0) : FT) = some f from hk); rw [vu4]; exact ⟨q3, rfl, mq3, by rw [tup_ne (tne gq3 g0 (by decide))]; rw [gq3]; rfl⟩
    | 4, hk => obtain rfl := Option.some.inj (show some ((1, 5, 0) : FT) = some f from hk); rw [vu6]; exact ⟨q5, rfl, mq5, by rw [tup_ne (tne gq5 g0 (by decide))]; rw [gq5]; rfl⟩
    | 5, hk => obtain rfl := Option.some.inj (show some ((1, 7, 0) : FT) = some f from hk); rw [vu8]; exact ⟨q7, rfl, mq7, by rw [tup_ne (tne gq7 g0 (by decide))]; rw [gq7]; rfl⟩
    | 6, hk => obtain rfl := Option.some.inj (show some ((1, 9, 0) : FT) = some f from hk); rw [vu10]; exact ⟨q9, rfl, mq9, by rw [tup_ne (tne gq9 g0 (by decide))]; rw [gq9]; rfl⟩
    | k + 7, hk => exact absurd hk (by simp))
  exact t_vreta hQ X hT ⟨extr_re hE, m0, tup_self⟩ (Nat.le_of_ble_eq_true rfl) (Nat.le_of_ble_eq_true rfl) dX7_init_42
set_option maxHeartbeats 4000000 in
set_option maxRecDepth 100000 in
theorem ka_X8_init (l : Launch) (G : KG) (tag0 : Nat → Nat) (L0 : List Nat) (Fo : Nat → va_E) (ho : okT G ttC tag0 L0 Fo) (p0 : Nat) (m0 : p0 ∈ L0) (g0 : tag0 p0 = 54) (f0_0 : fld Fo p0 0 = .null) (f0_1 : fld Fo p0 1 = .int 0) (f0_2 : fld Fo p0 2 = .int 0) (f0_3 : fld Fo p0 3 = .int 0) (f0_4 : fld Fo p0 4 = .int 0) (f0_5 : fld Fo p0 5 = .int 0) (f0_6 : fld Fo p0 6 = .int 0) (f0_7 : fld Fo p0 7 = .long 0) : TMa l yX8_init cX8_init 1 { frames := 1, cells := 0, slots := 0, locals := 12 } G ttC tag0 L0 Fo [.ref p0] (fun u => EXTR p0 tag0 L0 Fo u ∧ p0 ∈ u.2.1 ∧ u.1 p0 = 24) := by
  refine t_bodya (y := yX8_init) (cd := cX8_init) (mL := 1) (rm := { frames := 1, cells := 0, slots := 0, locals := 12 }) (av := [.ref p0]) (by decide) (Nat.le_of_ble_eq_true rfl) ho ?_
  intro p e s m args below meth c ls A Q hQ X hi hT hl
  have hx := X.1.1
  have hb := X.1.2.1
  have hi : meth.name = "<init>" := hi
  have hl : lv_has ls 1 [(0, .ref p0)] := hl
  obtain ⟨tag, htg⟩ : ∃ t : Nat → Nat, t = tag0 := ⟨_, rfl⟩
  obtain ⟨L, hLL⟩ : ∃ t : List Nat, t = L0 := ⟨_, rfl⟩
  obtain ⟨F, hFF⟩ : ∃ t : Nat → va_E, t = Fo := ⟨_, rfl⟩
  have hE : EXTR p0 tag0 L0 Fo (tag, L, F) := by rw [htg, hLL, hFF]; exact EXTR.rf
  rw [← htg, ← hLL, ← hFF] at hT
  have m0 : p0 ∈ L := by rw [hLL]; exact m0
  have g0 : tag p0 = 54 := by rw [htg]; exact g0
  rw [← hFF] at f0_0 f0_1 f0_2 f0_3 f0_4 f0_5 f0_6 f0_7
  refine lv_aload_n hx hb dX8_init_0 rfl (lv_at hl 0 rfl) ?_
  refine m_objI X hl qw_79 qw_11 qw_12 dX8_init_1 (Nat.le_of_ble_eq_true rfl) (Nat.le_of_ble_eq_true rfl) ?_
  have hT := th_done (t := 24) hT m0 g0 rfl rfl rfl (nl_of (by decide)) (fun k f hk => by
    match k, hk with
    | 0, hk => obtain rfl := Option.some.inj (show some ((2, 1, 0) : FT) = some f from hk); rw [f0_0]; exact Or.inl rfl
    | 1, hk => obtain rfl := Option.some.inj (show some ((0, 0, 1000) : FT) = some f from hk); rw [f0_1]; exact ⟨0, rfl, by decide, by decide⟩
    | 2, hk => obtain rfl := Option.some.inj (show some ((0, 0, 1000) : FT) = some f from hk); rw [f0_2]; exact ⟨0, rfl, by decide, by decide⟩
    | 3, hk => obtain rfl := Option.some.inj (show some ((0, (-2147483648), 2147483647) : FT) = some f from hk); rw [f0_3]; exact ⟨0, rfl, by decide, by decide⟩
    | 4, hk => obtain rfl := Option.some.inj (show some ((0, 0, 1000) : FT) = some f from hk); rw [f0_4]; exact ⟨0, rfl, by decide, by decide⟩
    | 5, hk => obtain rfl := Option.some.inj (show some ((0, (-2147483648), 2147483647) : FT) = some f from hk); rw [f0_5]; exact ⟨0, rfl, by decide, by decide⟩
    | 6, hk => obtain rfl := Option.some.inj (show some ((0, (-2147483648), 2147483647) : FT) = some f from hk); rw [f0_6]; exact ⟨0, rfl, by decide, by decide⟩
    | 7, hk => obtain rfl := Option.some.inj (show some ((3, 0, 0) : FT) = some f from hk); rw [f0_7]; exact ⟨_, rfl⟩
    | k + 8, hk => exact absurd hk (by simp))
  exact t_vreta hQ X hT ⟨extr_re hE, m0, tup_self⟩ (Nat.le_of_ble_eq_true rfl) (Nat.le_of_ble_eq_true rfl) dX8_init_4
set_option maxHeartbeats 4000000 in
set_option maxRecDepth 100000 in
theorem ka_X3_init (l : Launch) (G : KG) (tag0 : Nat → Nat) (L0 : List Nat) (Fo : Nat → va_E) (ho : okT G ttC tag0 L0 Fo) (p0 : Nat) (m0 : p0 ∈ L0) (g0 : tag0 p0 = 55) (f0_0 : fld Fo p0 0 = .null) (f0_1 : fld Fo p0 1 = .null) (f0_2 : fld Fo p0 2 = .null) (f0_3 : fld Fo p0 3 = .int 0) (f0_4 : fld Fo p0 4 = .int 0) (f0_5 : fld Fo p0 5 = .int 0) (f0_6 : fld Fo p0 6 = .int 0) (f0_7 : fld Fo p0 7 = .int 0) (f0_8 : fld Fo p0 8 = .int 0) (f0_9 : fld Fo p0 9 = .null) (f0_10 : fld Fo p0 10 = .null) (f0_11 : fld Fo p0 11 = .null) (f0_12 : fld Fo p0 12 = .int 0) : TMa l yX3_init cX3_init 1 { frames := 2, cells := 4, slots := 68, locals := 32 } G ttC tag0 L0 Fo [.ref p0] (fun u => EXTR p0 tag0 L0 Fo u ∧ p0 ∈ u.2.1 ∧ u.1 p0 = 25 ∧ (∃ xs xn : Nat, fld u.2.2 p0 10 = .ref xs ∧ fld u.2.2 p0 11 = .ref xn ∧ xs ∈ u.2.1 ∧ xn ∈ u.2.1 ∧ u.1 xs = 14 ∧ u.1 xn = 15 ∧ (∀ j : Nat, elm u.2.2 xs j = 0))) := by
  refine t_bodya (y := yX3_init) (cd := cX3_init) (mL := 1) (rm := { frames := 2, cells := 4, slots := 68, locals := 32 }) (av := [.ref p0]) (by decide) (Nat.le_of_ble_eq_true rfl) ho ?_
  intro p e s m args below meth c ls A Q hQ X hi hT hl
  have hx := X.1.1
  have hb := X.1.2.1
  have hi : meth.name = "<init>" := hi
  have hl : lv_has ls 1 [(0, .ref p0)] := hl
  obtain ⟨tag, htg⟩ : ∃ t : Nat → Nat, t = tag0 := ⟨_, rfl⟩
  obtain ⟨L, hLL⟩ : ∃ t : List Nat, t = L0 := ⟨_, rfl⟩
  obtain ⟨F, hFF⟩ : ∃ t : Nat → va_E, t = Fo := ⟨_, rfl⟩
  have hE : EXTR p0 tag0 L0 Fo (tag, L, F) := by rw [htg, hLL, hFF]; exact EXTR.rf
  rw [← htg, ← hLL, ← hFF] at hT
  have m0 : p0 ∈ L := by rw [hLL]; exact m0
  have g0 : tag p0 = 55 := by rw [htg]; exact g0
  rw [← hFF] at f0_0 f0_1 f0_2 f0_3 f0_4 f0_5 f0_6 f0_7 f0_8 f0_9 f0_10 f0_11 f0_12
  refine lv_aload_n hx hb dX3_init_0 rfl (lv_at hl 0 rfl) ?_
  refine m_objI X hl qw_69 qw_11 qw_12 dX3_init_1 (Nat.le_of_ble_eq_true rfl) (Nat.le_of_ble_eq_true rfl) ?_
  refine lv_aload_n hx hb dX3_init_4 rfl (lv_at hl 0 rfl) ?_
  refine t_new (C := RX8) (T := TX8) (N := 8) (ci := 5) (fs := [.null, .int 0, .int 0, .int 0, .int 0, .int 0, .int 0, .long 0]) (t := 54) X hT tyX8 tyX8_ok inlX8 qw_70 qw_71 qw_72 rfl (by decide +kernel) (Nat.le_of_ble_eq_true rfl) (Nat.le_of_ble_eq_true rfl) dX3_init_5 rfl rfl (by decide) (fun q1 tag L F H hT mq1 gq1 kq1 Fq1 hEq1 hxq1 => ?_)
  have f0_0 := (((hxq1 _ m0).2 0).1).trans f0_0
  have f0_1 := (((hxq1 _ m0).2 1).1).trans f0_1
  have f0_2 := (((hxq1 _ m0).2 2).1).trans f0_2
  have f0_3 := (((hxq1 _ m0).2 3).1).trans f0_3
  have f0_4 := (((hxq1 _ m0).2 4).1).trans f0_4
  have f0_5 := (((hxq1 _ m0).2 5).1).trans f0_5
  have f0_6 := (((hxq1 _ m0).2 6).1).trans f0_6
  have f0_7 := (((hxq1 _ m0).2 7).1).trans f0_7
  have f0_8 := (((hxq1 _ m0).2 8).1).trans f0_8
  have f0_9 := (((hxq1 _ m0).2 9).1).trans f0_9
  have f0_10 := (((hxq1 _ m0).2 10).1).trans f0_10
  have f0_11 := (((hxq1 _ m0).2 11).1).trans f0_11
  have f0_12 := (((hxq1 _ m0).2 12).1).trans f0_12
  have g0 := (hxq1 _ m0).1.trans g0
  have zq1 : ∀ b ∈ L0, b ≠ q1 := fun b hb h => kq1 (h ▸ (hE.1 b hb).1)
  have nq1_p0 : p0 ≠ q1 := fun h => kq1 (h ▸ m0)
  have hE := EXTR.tr hE hEq1 (fun b hb _ => zq1 b hb) (fun h => (hEq1.1 _ ((hE.1 _ h).1)).1)
  have m0 := (hEq1.1 _ m0).1
  refine lv_dup hx hb dX3_init_8 rfl ?_
  refine t_caN (n := 0) (host := "YearSkins") (As := []) (rest := [.ref q1, .ref p0]) X hT (ka_X8_init l G tag L F hT.2.2.2 q1 mq1 gq1 (by unfold fld; rw [Fq1]; rfl) (by unfold fld; rw [Fq1]; rfl) (by unfold fld; rw [Fq1]; rfl) (by unfold fld; rw [Fq1]; rfl) (by unfold fld; rw [Fq1]; rfl) (by unfold fld; rw [Fq1]; rfl) (by unfold fld; rw [Fq1]; rfl) (by unfold fld; rw [Fq1]; rfl)) (List.mem_of_getElem? (i := 3) rfl) qw_77 qw_72 qw_78 rfl ⟨by decide +kernel, by decide +kernel, by decide +kernel⟩ ⟨(Nat.le_of_ble_eq_true rfl), (Nat.le_of_ble_eq_true rfl)⟩ hl rfl rfl (Nat.le_of_ble_eq_true rfl) dX3_init_9 ⟨(Nat.le_of_ble_eq_true rfl), (Nat.le_of_ble_eq_true rfl)⟩ (fun u2 H locs hT hu2 => ?_)
  obtain ⟨tag, L, F⟩ := u2
  have hT : TH G ttC A s tag L F H locs := hT
  obtain ⟨hEu2, mq1, gq1⟩ := hu2
  have mq1 : q1 ∈ L := mq1
  have gq1 : tag q1 = 24 := gq1
  have f0_0 := ((hEu2.2 _ 0 m0 nq1_p0).1).trans f0_0
  have f0_1 := ((hEu2.2 _ 1 m0 nq1_p0).1).trans f0_1
  have f0_2 := ((hEu2.2 _ 2 m0 nq1_p0).1).trans f0_2
  have f0_3 := ((hEu2.2 _ 3 m0 nq1_p0).1).trans f0_3
  have f0_4 := ((hEu2.2 _ 4 m0 nq1_p0).1).trans f0_4
  have f0_5 := ((hEu2.2 _ 5 m0 nq1_p0).1).trans f0_5
  have f0_6 := ((hEu2.2 _ 6 m0 nq1_p0).1).trans f0_6
  have f0_7 := ((hEu2.2 _ 7 m0 nq1_p0).1).trans f0_7
  have f0_8 := ((hEu2.2 _ 8 m0 nq1_p0).1).trans f0_8
  have f0_9 := ((hEu2.2 _ 9 m0 nq1_p0).1).trans f0_9
  have f0_10 := ((hEu2.2 _ 10 m0 nq1_p0).1).trans f0_10
  have f0_11 := ((hEu2.2 _ 11 m0 nq1_p0).1).trans f0_11
  have f0_12 := ((hEu2.2 _ 12 m0 nq1_p0).1).trans f0_12
  have g0 : tag p0 = 55 := ((hEu2.1 _ m0).2 nq1_p0).trans g0
  have hE := EXTR.tr hE hEu2 (fun b hb _ => zq1 b hb) (fun h => (hEu2.1 _ ((hE.1 _ h).1)).1)
  have m0 : p0 ∈ L := (hEu2.1 _ m0).1
  refine t_putF (C := RX3) (T := TX3) (N := 13) (v := .ref q1) X hi hT m0 g0 rfl tyX3 tyX3_ok nmX3 rfl 0 (by decide) qw_73 inlX3 rfl rfl (by first | rfl | decide) (by first | rfl | decide) rfl trivial dX3_init_12 (fun F H locs hT vu3 h1u3 h2u3 => ?_)
  have f0_1 := (h1u3 1 (by decide)).trans f0_1
  have f0_2 := (h1u3 2 (by decide)).trans f0_2
  have f0_3 := (h1u3 3 (by decide)).trans f0_3
  have f0_4 := (h1u3 4 (by decide)).trans f0_4
  have f0_5 := (h1u3 5 (by decide)).trans f0_5
  have f0_6 := (h1u3 6 (by decide)).trans f0_6
  have f0_7 := (h1u3 7 (by decide)).trans f0_7
  have f0_8 := (h1u3 8 (by decide)).trans f0_8
  have f0_9 := (h1u3 9 (by decide)).trans f0_9
  have f0_10 := (h1u3 10 (by decide)).trans f0_10
  have f0_11 := (h1u3 11 (by decide)).trans f0_11
  have f0_12 := (h1u3 12 (by decide)).trans f0_12
  have hE := EXTR.tr (u := (tag, L, F)) hE (show EXTR p0 tag L _ (tag, L, F) from ⟨fun b hb => ⟨hb, fun _ => rfl⟩, fun b j _ hb => h2u3 b j hb⟩) (fun _ _ h => h) (fun h => (hE.1 _ h).1)
  refine lv_aload_n hx hb dX3_init_15 rfl (lv_at hl 0 rfl) ?_
  refine lv_bipush (v := 20) hx hb dX3_init_16 (by decide) ?_
  refine t_newa (atype := .long) (a0 := (20, .inr (.inl (fun _ => 0)))) (t := 13) X hT 2 rfl qw_6 (fun _ => rfl) (by decide) (by decide) (Nat.le_of_ble_eq_true rfl) (Nat.le_of_ble_eq_true rfl) (Nat.le_of_ble_eq_true rfl) dX3_init_18 (fun t9 l9 => (show okA G t9 l9 (2, 20, fun _ => (-2147483648, 2147483647)) (.inl (G.2 2, (20, .inr (.inl (fun _ => 0))))) from ⟨_, rfl⟩)) (fun q4 tag L F H hT mq4 gq4 kq4 Fq4 hEq4 hxq4 => ?_)
  have vu3 := (((hxq4 _ m0).2 0).1).trans vu3
  have f0_1 := (((hxq4 _ m0).2 1).1).trans f0_1
  have f0_2 := (((hxq4 _ m0).2 2).1).trans f0_2
  have f0_3 := (((hxq4 _ m0).2 3).1).trans f0_3
  have f0_4 := (((hxq4 _ m0).2 4).1).trans f0_4
  have f0_5 := (((hxq4 _ m0).2 5).1).trans f0_5
  have f0_6 := (((hxq4 _ m0).2 6).1).trans f0_6
  have f0_7 := (((hxq4 _ m0).2 7).1).trans f0_7
  have f0_8 := (((hxq4 _ m0).2 8).1).trans f0_8
  have f0_9 := (((hxq4 _ m0).2 9).1).trans f0_9
  have f0_10 := (((hxq4 _ m0).2 10).1).trans f0_10
  have f0_11 := (((hxq4 _ m0).2 11).1).trans f0_11
  have f0_12 := (((hxq4 _ m0).2 12).1).trans f0_12
  have g0 := (hxq4 _ m0).1.trans g0
  have gq1 := (hxq4 _ mq1).1.trans gq1
  have zq4 : ∀ b ∈ L0, b ≠ q4 := fun b hb h => kq4 (h ▸ (hE.1 b hb).1)
  have nq4_p0 : p0 ≠ q4 := fun h => kq4 (h ▸ m0)
  have nq4_q1 : q1 ≠ q4 := fun h => kq4 (h ▸ mq1)
  have hE := EXTR.tr hE hEq4 (fun b hb _ => zq4 b hb) (fun h => (hEq4.1 _ ((hE.1 _ h).1)).1)
  have m0 := (hEq4.1 _ m0).1
  have mq1 := (hEq4.1 _ mq1).1
  refine t_putF (C := RX3) (T := TX3) (N := 13) (v := .ref q4) X hi hT m0 g0 rfl tyX3 tyX3_ok nmX3 rfl 9 (by decide) qw_74 inlX3 rfl rfl (by first | rfl | decide) (by first | rfl | decide) rfl trivial dX3_init_20 (fun F H locs hT vu5 h1u5 h2u5 => ?_)
  have vu3 := (h1u5 0 (by decide)).trans vu3
  have f0_1 := (h1u5 1 (by decide)).trans f0_1
  have f0_2 := (h1u5 2 (by decide)).trans f0_2
  have f0_3 := (h1u5 3 (by decide)).trans f0_3
  have f0_4 := (h1u5 4 (by decide)).trans f0_4
  have f0_5 := (h1u5 5 (by decide)).trans f0_5
  have f0_6 := (h1u5 6 (by decide)).trans f0_6
  have f0_7 := (h1u5 7 (by decide)).trans f0_7
  have f0_8 := (h1u5 8 (by decide)).trans f0_8
  have f0_10 := (h1u5 10 (by decide)).trans f0_10
  have f0_11 := (h1u5 11 (by decide)).trans f0_11
  have f0_12 := (h1u5 12 (by decide)).trans f0_12
  have hE := EXTR.tr (u := (tag, L, F)) hE (show EXTR p0 tag L _ (tag, L, F) from ⟨fun b hb => ⟨hb, fun _ => rfl⟩, fun b j _ hb => h2u5 b j hb⟩) (fun _ _ h => h) (fun h => (hE.1 _ h).1)
  refine lv_aload_n hx hb dX3_init_23 rfl (lv_at hl 0 rfl) ?_
  refine lv_bipush (v := 20) hx hb dX3_init_24 (by decide) ?_
  refine t_newa (atype := .int) (a0 := (20, .inl (fun _ => 0))) (t := 14) X hT 0 rfl qw_13 (fun _ => rfl) (by decide) (by decide) (Nat.le_of_ble_eq_true rfl) (Nat.le_of_ble_eq_true rfl) (Nat.le_of_ble_eq_true rfl) dX3_init_26 (fun t9 l9 => (show okA G t9 l9 (0, 20, fun _ => ((-2147483648), 2147483647)) (.inl (G.2 0, (20, .inl (fun _ => 0)))) from ⟨_, rfl, fun _ _ => ⟨show ((-2147483648) : Int) ≤ (0 : Int32).toInt from by decide, show (0 : Int32).toInt ≤ (2147483647 : Int) from by decide⟩⟩)) (fun q6 tag L F H hT mq6 gq6 kq6 Fq6 hEq6 hxq6 => ?_)
  have vu3 := (((hxq6 _ m0).2 0).1).trans vu3
  have f0_1 := (((hxq6 _ m0).2 1).1).trans f0_1
  have f0_2 := (((hxq6 _ m0).2 2).1).trans f0_2
  have f0_3 := (((hxq6 _ m0).2 3).1).trans f0_3
  have f0_4 := (((hxq6 _ m0).2 4).1).trans f0_4
  have f0_5 := (((hxq6 _ m0).2 5).1).trans f0_5
  have f0_6 := (((hxq6 _ m0).2 6).1).trans f0_6
  have f0_7 := (((hxq6 _ m0).2 7).1).trans f0_7
  have f0_8 := (((hxq6 _ m0).2 8).1).trans f0_8
  have vu5 := (((hxq6 _ m0).2 9).1).trans vu5
  have f0_10 := (((hxq6 _ m0).2 10).1).trans f0_10
  have f0_11 := (((hxq6 _ m0).2 11).1).trans f0_11
  have f0_12 := (((hxq6 _ m0).2 12).1).trans f0_12
  have g0 := (hxq6 _ m0).1.trans g0
  have gq1 := (hxq6 _ mq1).1.trans gq1
  have gq4 := (hxq6 _ mq4).1.trans gq4
  have zq6 : ∀ b ∈ L0, b ≠ q6 := fun b hb h => kq6 (h ▸ (hE.1 b hb).1)
  have nq6_p0 : p0 ≠ q6 := fun h => kq6 (h ▸ m0)
  have nq6_q1 : q1 ≠ q6 := fun h => kq6 (h ▸ mq1)
  have nq6_q4 : q4 ≠ q6 := fun h => kq6 (h ▸ mq4)
  have hE := EXTR.tr hE hEq6 (fun b hb _ => zq6 b hb) (fun h => (hEq6.1 _ ((hE.1 _ h).1)).1)
  have m0 := (hEq6.1 _ m0).1
  have mq1 := (hEq6.1 _ mq1).1
  have mq4 := (hEq6.1 _ mq4).1
  have wq6 : ∀ j : Nat, elm F q6 j = 0 := fun j => by unfold elm; rw [Fq6]
  refine t_putF (C := RX3) (T := TX3) (N := 13) (v := .ref q6) X hi hT m0 g0 rfl tyX3 tyX3_ok nmX3 rfl 10 (by decide) qw_75 inlX3 rfl rfl (by first | rfl | decide) (by first | rfl | decide) rfl trivial dX3_init_28 (fun F H locs hT vu7 h1u7 h2u7 => ?_)
  have vu3 := (h1u7 0 (by decide)).trans vu3
  have f0_1 := (h1u7 1 (by decide)).trans f0_1
  have f0_2 := (h1u7 2 (by decide)).trans f0_2
  have f0_3 := (h1u7 3 (by decide)).trans f0_3
  have f0_4 := (h1u7 4 (by decide)).trans f0_4
  have f0_5 := (h1u7 5 (by decide)).trans f0_5
  have f0_6 := (h1u7 6 (by decide)).trans f0_6
  have f0_7 := (h1u7 7 (by decide)).trans f0_7
  have f0_8 := (h1u7 8 (by decide)).trans f0_8
  have vu5 := (h1u7 9 (by decide)).trans vu5
  have f0_11 := (h1u7 11 (by decide)).trans f0_11
  have f0_12 := (h1u7 12 (by decide)).trans f0_12
  have wq6 := (fun j => ((h2u7 _ j (tne gq6 g0 (by decide))).2.1).trans (wq6 j))
  have hE := EXTR.tr (u := (tag, L, F)) hE (show EXTR p0 tag L _ (tag, L, F) from ⟨fun b hb => ⟨hb, fun _ => rfl⟩, fun b j _ hb => h2u7 b j hb⟩) (fun _ _ h => h) (fun h => (hE.1 _ h).1)
  refine lv_aload_n hx hb dX3_init_31 rfl (lv_at hl 0 rfl) ?_
  refine lv_bipush (v := 20) hx hb dX3_init_32 (by decide) ?_
  refine t_newa (atype := .int) (a0 := (20, .inl (fun _ => 0))) (t := 15) X hT 0 rfl qw_13 (fun _ => rfl) (by decide) (by decide) (Nat.le_of_ble_eq_true rfl) (Nat.le_of_ble_eq_true rfl) (Nat.le_of_ble_eq_true rfl) dX3_init_34 (fun t9 l9 => (show okA G t9 l9 (0, 20, fun _ => ((-2147483648), 2147483647)) (.inl (G.2 0, (20, .inl (fun _ => 0)))) from ⟨_, rfl, fun _ _ => ⟨show ((-2147483648) : Int) ≤ (0 : Int32).toInt from by decide, show (0 : Int32).toInt ≤ (2147483647 : Int) from by decide⟩⟩)) (fun q8 tag L F H hT mq8 gq8 kq8 Fq8 hEq8 hxq8 => ?_)
  have vu3 := (((hxq8 _ m0).2 0).1).trans vu3
  have f0_1 := (((hxq8 _ m0).2 1).1).trans f0_1
  have f0_2 := (((hxq8 _ m0).2 2).1).trans f0_2
  have f0_3 := (((hxq8 _ m0).2 3).1).trans f0_3
  have f0_4 := (((hxq8 _ m0).2 4).1).trans f0_4
  have f0_5 := (((hxq8 _ m0).2 5).1).trans f0_5
  have f0_6 := (((hxq8 _ m0).2 6).1).trans f0_6
  have f0_7 := (((hxq8 _ m0).2 7).1).trans f0_7
  have f0_8 := (((hxq8 _ m0).2 8).1).trans f0_8
  have vu5 := (((hxq8 _ m0).2 9).1).trans vu5
  have vu7 := (((hxq8 _ m0).2 10).1).trans vu7
  have f0_11 := (((hxq8 _ m0).2 11).1).trans f0_11
  have f0_12 := (((hxq8 _ m0).2 12).1).trans f0_12
  have wq6 := (fun j => (((hxq8 _ mq6).2 j).2.1).trans (wq6 j))
  have g0 := (hxq8 _ m0).1.trans g0
  have gq1 := (hxq8 _ mq1).1.trans gq1
  have gq4 := (hxq8 _ mq4).1.trans gq4
  have gq6 := (hxq8 _ mq6).1.trans gq6
  have zq8 : ∀ b ∈ L0, b ≠ q8 := fun b hb h => kq8 (h ▸ (hE.1 b hb).1)
  have nq8_p0 : p0 ≠ q8 := fun h => kq8 (h ▸ m0)
  have nq8_q1 : q1 ≠ q8 := fun h => kq8 (h ▸ mq1)
  have nq8_q4 : q4 ≠ q8 := fun h => kq8 (h ▸ mq4)
  have nq8_q6 : q6 ≠ q8 := fun h => kq8 (h ▸ mq6)
  have hE := EXTR.tr hE hEq8 (fun b hb _ => zq8 b hb) (fun h => (hEq8.1 _ ((hE.1 _ h).1)).1)
  have m0 := (hEq8.1 _ m0).1
  have mq1 := (hEq8.1 _ mq1).1
  have mq4 := (hEq8.1 _ mq4).1
  have mq6 := (hEq8.1 _ mq6).1
  have wq8 : ∀ j : Nat, elm F q8 j = 0 := fun j => by unfold elm; rw [Fq8]
  refine t_putF (C := RX3) (T := TX3) (N := 13) (v := .ref q8) X hi hT m0 g0 rfl tyX3 tyX3_ok nmX3 rfl 11 (by decide) qw_76 inlX3 rfl rfl (by first | rfl | decide) (by first | rfl | decide) rfl trivial dX3_init_36 (fun F H locs hT vu9 h1u9 h2u9 => ?_)
  have vu3 := (h1u9 0 (by decide)).trans vu3
  have f0_1 := (h1u9 1 (by decide)).trans f0_1
  have f0_2 := (h1u9 2 (by decide)).trans f0_2
  have f0_3 := (h1u9 3 (by decide)).trans f0_3
  have f0_4 := (h1u9 4 (by decide)).trans f0_4
  have f0_5 := (h1u9 5 (by decide)).trans f0_5
  have f0_6 := (h1u9 6 (by decide)).trans f0_6
  have f0_7 := (h1u9 7 (by decide)).trans f0_7
  have f0_8 := (h1u9 8 (by decide)).trans f0_8
  have vu5 := (h1u9 9 (by decide)).trans vu5
  have vu7 := (h1u9 10 (by decide)).trans vu7
  have f0_12 := (h1u9 12 (by decide)).trans f0_12
  have wq6 := (fun j => ((h2u9 _ j (tne gq6 g0 (by decide))).2.1).trans (wq6 j))
  have wq8 := (fun j => ((h2u9 _ j (tne gq8 g0 (by decide))).2.1).trans (wq8 j))
  have hE := EXTR.tr (u := (tag, L, F)) hE (show EXTR p0 tag L _ (tag, L, F) from ⟨fun b hb => ⟨hb, fun _ => rfl⟩, fun b j _ hb => h2u9 b j hb⟩) (fun _ _ h => h) (fun h => (hE.1 _ h).1)
  have hT := th_done (t := 25) hT m0 g0 rfl rfl rfl (nl_of (by decide)) (fun k f hk => by
    match k, hk with
    | 0, hk => obtain rfl := Option.some.inj (show some ((1, 24, 0) : FT) = some f from hk); rw [vu3]; exact ⟨q1, rfl, mq1, by rw [tup_ne (tne gq1 g0 (by decide))]; rw [gq1]; rfl⟩
    | 1, hk => obtain rfl := Option.some.inj (show some ((2, 18, 0) : FT) = some f from hk); rw [f0_1]; exact Or.inl rfl
    | 2, hk => obtain rfl := Option.some.inj (show some ((2, 19, 0) : FT) = some f from hk); rw [f0_2]; exact Or.inl rfl
    | 3, hk => obtain rfl := Option.some.inj (show some ((0, 0, 7) : FT) = some f from hk); rw [f0_3]; exact ⟨0, rfl, by decide, by decide⟩
    | 4, hk => obtain rfl := Option.some.inj (show some ((0, (-2147483648), 2147483647) : FT) = some f from hk); rw [f0_4]; exact ⟨0, rfl, by decide, by decide⟩
    | 5, hk => obtain rfl := Option.some.inj (show some ((0, 0, 1) : FT) = some f from hk); rw [f0_5]; exact ⟨0, rfl, by decide, by decide⟩
    | 6, hk => obtain rfl := Option.some.inj (show some ((0, 0, 1) : FT) = some f from hk); rw [f0_6]; exact ⟨0, rfl, by decide, by decide⟩
    | 7, hk => obtain rfl := Option.some.inj (show some ((0, (-2147483648), 2147483647) : FT) = some f from hk); rw [f0_7]; exact ⟨0, rfl, by decide, by decide⟩
    | 8, hk => obtain rfl := Option.some.inj (show some ((0, (-2147483648), 2147483647) : FT) = some f from hk); rw [f0_8]; exact ⟨0, rfl, by decide, by decide⟩
    | 9, hk => obtain rfl := Option.some.inj (show some ((1, 13, 0) : FT) = some f from hk); rw [vu5]; exact ⟨q4, rfl, mq4, by rw [tup_ne (tne gq4 g0 (by decide))]; rw [gq4]; rfl⟩
    | 10, hk => obtain rfl := Option.some.inj (show some ((1, 14, 0) : FT) = some f from hk); rw [vu7]; exact ⟨q6, rfl, mq6, by rw [tup_ne (tne gq6 g0 (by decide))]; rw [gq6]; rfl⟩
    | 11, hk => obtain rfl := Option.some.inj (show some ((1, 15, 0) : FT) = some f from hk); rw [vu9]; exact ⟨q8, rfl, mq8, by rw [tup_ne (tne gq8 g0 (by decide))]; rw [gq8]; rfl⟩
    | 12, hk => obtain rfl := Option.some.inj (show some ((0, 0, 20) : FT) = some f from hk); rw [f0_12]; exact ⟨0, rfl, by decide, by decide⟩
    | k + 13, hk => exact absurd hk (by simp))
  exact t_vreta hQ X hT ⟨extr_re hE, m0, tup_self, ⟨q6, q8, vu7, vu9, mq6, mq8, (tup_ne (tne gq6 g0 (by decide))).trans gq6, (tup_ne (tne gq8 g0 (by decide))).trans gq8, wq6⟩⟩ (Nat.le_of_ble_eq_true rfl) (Nat.le_of_ble_eq_true rfl) dX3_init_39
