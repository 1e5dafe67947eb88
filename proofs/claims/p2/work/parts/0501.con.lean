set_option maxHeartbeats 4000000 in
set_option maxRecDepth 100000 in
theorem ka_X12_init (l : Launch) (G : KG) (tag0 : Nat → Nat) (L0 : List Nat) (Fo : Nat → va_E) (ho : okT G ttC tag0 L0 Fo) (p0 : Nat) (m0 : p0 ∈ L0) (g0 : tag0 p0 = 57) (f0_0 : fld Fo p0 0 = .int 0) (f0_1 : fld Fo p0 1 = .int 0) (f0_2 : fld Fo p0 2 = .int 0) (f0_3 : fld Fo p0 3 = .int 0) (f0_4 : fld Fo p0 4 = .int 0) (f0_5 : fld Fo p0 5 = .int 0) (f0_6 : fld Fo p0 6 = .int 0) (f0_7 : fld Fo p0 7 = .int 0) (f0_8 : fld Fo p0 8 = .int 0) (f0_9 : fld Fo p0 9 = .int 0) (f0_10 : fld Fo p0 10 = .int 0) (f0_11 : fld Fo p0 11 = .int 0) (f0_12 : fld Fo p0 12 = .int 0) (f0_13 : fld Fo p0 13 = .int 0) (f0_14 : fld Fo p0 14 = .int 0) (f0_15 : fld Fo p0 15 = .null) (f0_16 : fld Fo p0 16 = .null) (f0_17 : fld Fo p0 17 = .null) (f0_18 : fld Fo p0 18 = .null) (f0_19 : fld Fo p0 19 = .null) (f0_20 : fld Fo p0 20 = .null) (f0_21 : fld Fo p0 21 = .null) (f0_22 : fld Fo p0 22 = .null) (f0_23 : fld Fo p0 23 = .null) (f0_24 : fld Fo p0 24 = .null) (f0_25 : fld Fo p0 25 = .null) (f0_26 : fld Fo p0 26 = .null) (f0_27 : fld Fo p0 27 = .null) (f0_28 : fld Fo p0 28 = .null) (f0_29 : fld Fo p0 29 = .null) (f0_30 : fld Fo p0 30 = .null) : TMa l yX12_init cX12_init 1 { frames := 1, cells := 16, slots := 504, locals := 12 } G ttC tag0 L0 Fo [.ref p0] (fun u => EXTR p0 tag0 L0 Fo u ∧ p0 ∈ u.2.1 ∧ u.1 p0 = 44 ∧ (∃ xs xn : Nat, fld u.2.2 p0 28 = .ref xs ∧ fld u.2.2 p0 29 = .ref xn ∧ xs ∈ u.2.1 ∧ xn ∈ u.2.1 ∧ u.1 xs = 35 ∧ u.1 xn = 36 ∧ (∀ j : Nat, elm u.2.2 xs j = 0 ∧ elm u.2.2 xn j = 0) ∧ (fld u.2.2 p0 12 = .int 0 ∧ fld u.2.2 p0 7 = .int 0 ∧ fld u.2.2 p0 8 = .int 0 ∧ fld u.2.2 p0 9 = .int 0 ∧ fld u.2.2 p0 10 = .int 0 ∧ fld u.2.2 p0 0 = .int 0))) := by
  refine t_bodya (y := yX12_init) (cd := cX12_init) (mL := 1) (rm := { frames := 1, cells := 16, slots := 504, locals := 12 }) (av := [.ref p0]) (by decide) (Nat.le_of_ble_eq_true rfl) ho ?_
  intro p e s m args below meth c ls A Q hQ X hi hT hl
  have hx := X.1.1
  have hb := X.1.2.1
  have hi : meth.name = "<init>" := hi
  have hl : lv_has ls 1 [(0, .ref p0)] := hl
  obtain ⟨tag, htg⟩ : ∃ t : Nat → Nat, t = tag0 := ⟨_, rfl⟩
  obtain ⟨L, hLL⟩ : ∃ t : List Nat, t = L0 := ⟨_, rfl⟩
  obtain ⟨F, hFF⟩ : ∃ t : Nat → va_E, t = Fo := ⟨_, rfl⟩
  have hE : EXTR p0 tag0 L0 Fo (tag, L, F) := by rw [htg, hLL, hFF]; exact EXTR.rf
  rw [← htg, ← hLL, ← hFF] at hT
  have m0 : p0 ∈ L := by rw [hLL]; exact m0
  have g0 : tag p0 = 57 := by rw [htg]; exact g0
  rw [← hFF] at f0_0 f0_1 f0_2 f0_3 f0_4 f0_5 f0_6 f0_7 f0_8 f0_9 f0_10 f0_11 f0_12 f0_13 f0_14 f0_15 f0_16 f0_17 f0_18 f0_19 f0_20 f0_21 f0_22 f0_23 f0_24 f0_25 f0_26 f0_27 f0_28 f0_29 f0_30
  refine lv_aload_n hx hb dX12_init_0 rfl (lv_at hl 0 rfl) ?_
  refine m_objI X hl qw_490 qw_11 qw_12 dX12_init_1 (Nat.le_of_ble_eq_true rfl) (Nat.le_of_ble_eq_true rfl) ?_
  refine lv_aload_n hx hb dX12_init_4 rfl (lv_at hl 0 rfl) ?_
  refine lv_iconst (v := (-1)) hx hb dX12_init_5 (by decide) ?_
  refine t_putX (C := RX12) (T := TX12) (N := 31) (v := .int (-1)) X hT m0 g0 rfl tyX12 tyX12_ok nmX12 rfl 2 (by decide) qw_491 inlX12 rfl (by first | rfl | decide) (by first | rfl | decide) rfl trivial dX12_init_6 (fun F H locs hT vu1 h1u1 h2u1 => ?_)
  have f0_0 := (h1u1 0 (by decide)).trans f0_0
  have f0_1 := (h1u1 1 (by decide)).trans f0_1
  have f0_3 := (h1u1 3 (by decide)).trans f0_3
  have f0_4 := (h1u1 4 (by decide)).trans f0_4
  have f0_5 := (h1u1 5 (by decide)).trans f0_5
  have f0_6 := (h1u1 6 (by decide)).trans f0_6
  have f0_7 := (h1u1 7 (by decide)).trans f0_7
  have f0_8 := (h1u1 8 (by decide)).trans f0_8
  have f0_9 := (h1u1 9 (by decide)).trans f0_9
  have f0_10 := (h1u1 10 (by decide)).trans f0_10
  have f0_11 := (h1u1 11 (by decide)).trans f0_11
  have f0_12 := (h1u1 12 (by decide)).trans f0_12
  have f0_13 := (h1u1 13 (by decide)).trans f0_13
  have f0_14 := (h1u1 14 (by decide)).trans f0_14
  have f0_15 := (h1u1 15 (by decide)).trans f0_15
  have f0_16 := (h1u1 16 (by decide)).trans f0_16
  have f0_17 := (h1u1 17 (by decide)).trans f0_17
  have f0_18 := (h1u1 18 (by decide)).trans f0_18
  have f0_19 := (h1u1 19 (by decide)).trans f0_19
  have f0_20 := (h1u1 20 (by decide)).trans f0_20
  have f0_21 := (h1u1 21 (by decide)).trans f0_21
  have f0_22 := (h1u1 22 (by decide)).trans f0_22
  have f0_23 := (h1u1 23 (by decide)).trans f0_23
  have f0_24 := (h1u1 24 (by decide)).trans f0_24
  have f0_25 := (h1u1 25 (by decide)).trans f0_25
  have f0_26 := (h1u1 26 (by decide)).trans f0_26
  have f0_27 := (h1u1 27 (by decide)).trans f0_27
  have f0_28 := (h1u1 28 (by decide)).trans f0_28
  have f0_29 := (h1u1 29 (by decide)).trans f0_29
  have f0_30 := (h1u1 30 (by decide)).trans f0_30
  have hE := EXTR.tr (u := (tag, L, F)) hE (show EXTR p0 tag L _ (tag, L, F) from ⟨fun b hb => ⟨hb, fun _ => rfl⟩, fun b j _ hb => h2u1 b j hb⟩) (fun _ _ h => h) (fun h => (hE.1 _ h).1)
  refine lv_aload_n hx hb dX12_init_9 rfl (lv_at hl 0 rfl) ?_
  refine lv_sipush (v := 144) hx hb dX12_init_10 (by decide) ?_
  refine t_newa (atype := .boolean) (a0 := (144, .inl (fun _ => 0))) (t := 28) X hT 1 rfl qw_49 (fun _ => rfl) (by decide) (by decide) (Nat.le_of_ble_eq_true rfl) (Nat.le_of_ble_eq_true rfl) (Nat.le_of_ble_eq_true rfl) dX12_init_13 (fun t9 l9 => (show okA G t9 l9 (1, 144, fun _ => (0, 1)) (.inl (G.2 1, (144, .inl (fun _ => 0)))) from ⟨_, rfl, fun _ _ => ⟨show (0 : Int) ≤ (0 : Int32).toInt from by decide, show (0 : Int32).toInt ≤ (1 : Int) from by decide⟩⟩)) (fun q2 tag L F H hT mq2 gq2 kq2 Fq2 hEq2 hxq2 => ?_)
  have f0_0 := (((hxq2 _ m0).2 0).1).trans f0_0
  have f0_1 := (((hxq2 _ m0).2 1).1).trans f0_1
  have vu1 := (((hxq2 _ m0).2 2).1).trans vu1
  have f0_3 := (((hxq2 _ m0).2 3).1).trans f0_3
  have f0_4 := (((hxq2 _ m0).2 4).1).trans f0_4
  have f0_5 := (((hxq2 _ m0).2 5).1).trans f0_5
  have f0_6 := (((hxq2 _ m0).2 6).1).trans f0_6
  have f0_7 := (((hxq2 _ m0).2 7).1).trans f0_7
  have f0_8 := (((hxq2 _ m0).2 8).1).trans f0_8
  have f0_9 := (((hxq2 _ m0).2 9).1).trans f0_9
  have f0_10 := (((hxq2 _ m0).2 10).1).trans f0_10
  have f0_11 := (((hxq2 _ m0).2 11).1).trans f0_11
  have f0_12 := (((hxq2 _ m0).2 12).1).trans f0_12
  have f0_13 := (((hxq2 _ m0).2 13).1).trans f0_13
  have f0_14 := (((hxq2 _ m0).2 14).1).trans f0_14
  have f0_15 := (((hxq2 _ m0).2 15).1).trans f0_15
  have f0_16 := (((hxq2 _ m0).2 16).1).trans f0_16
  have f0_17 := (((hxq2 _ m0).2 17).1).trans f0_17
  have f0_18 := (((hxq2 _ m0).2 18).1).trans f0_18
  have f0_19 := (((hxq2 _ m0).2 19).1).trans f0_19
  have f0_20 := (((hxq2 _ m0).2 20).1).trans f0_20
  have f0_21 := (((hxq2 _ m0).2 21).1).trans f0_21
  have f0_22 := (((hxq2 _ m0).2 22).1).trans f0_22
  have f0_23 := (((hxq2 _ m0).2 23).1).trans f0_23
  have f0_24 := (((hxq2 _ m0).2 24).1).trans f0_24
  have f0_25 := (((hxq2 _ m0).2 25).1).trans f0_25
  have f0_26 := (((hxq2 _ m0).2 26).1).trans f0_26
  have f0_27 := (((hxq2 _ m0).2 27).1).trans f0_27
  have f0_28 := (((hxq2 _ m0).2 28).1).trans f0_28
  have f0_29 := (((hxq2 _ m0).2 29).1).trans f0_29
  have f0_30 := (((hxq2 _ m0).2 30).1).trans f0_30
  have g0 := (hxq2 _ m0).1.trans g0
  have zq2 : ∀ b ∈ L0, b ≠ q2 := fun b hb h => kq2 (h ▸ (hE.1 b hb).1)
  have nq2_p0 : p0 ≠ q2 := fun h => kq2 (h ▸ m0)
  have hE := EXTR.tr hE hEq2 (fun b hb _ => zq2 b hb) (fun h => (hEq2.1 _ ((hE.1 _ h).1)).1)
  have m0 := (hEq2.1 _ m0).1
  refine t_putF (C := RX12) (T := TX12) (N := 31) (v := .ref q2) X hi hT m0 g0 rfl tyX12 tyX12_ok nmX12 rfl 15 (by decide) qw_492 inlX12 rfl rfl (by first | rfl | decide) (by first | rfl | decide) rfl trivial dX12_init_15 (fun F H locs hT vu3 h1u3 h2u3 => ?_)
  have f0_0 := (h1u3 0 (by decide)).trans f0_0
  have f0_1 := (h1u3 1 (by decide)).trans f0_1
  have vu1 := (h1u3 2 (by decide)).trans vu1
  have f0_3 := (h1u3 3 (by decide)).trans f0_3
  have f0_4 := (h1u3 4 (by decide)).trans f0_4
  have f0_5 := (h1u3 5 (by decide)).trans f0_5
  have f0_6 := (h1u3 6 (by decide)).trans f0_6
  have f0_7 := (h1u3 7 (by decide)).trans f0_7
  have f0_8 := (h1u3 8 (by decide)).trans f0_8
  have f0_9 := (h1u3 9 (by decide)).trans f0_9
  have f0_10 := (h1u3 10 (by decide)).trans f0_10
  have f0_11 := (h1u3 11 (by decide)).trans f0_11
  have f0_12 := (h1u3 12 (by decide)).trans f0_12
  have f0_13 := (h1u3 13 (by decide)).trans f0_13
  have f0_14 := (h1u3 14 (by decide)).trans f0_14
  have f0_16 := (h1u3 16 (by decide)).trans f0_16
  have f0_17 := (h1u3 17 (by decide)).trans f0_17
  have f0_18 := (h1u3 18 (by decide)).trans f0_18
  have f0_19 := (h1u3 19 (by decide)).trans f0_19
  have f0_20 := (h1u3 20 (by decide)).trans f0_20
  have f0_21 := (h1u3 21 (by decide)).trans f0_21
  have f0_22 := (h1u3 22 (by decide)).trans f0_22
  have f0_23 := (h1u3 23 (by decide)).trans f0_23
  have f0_24 := (h1u3 24 (by decide)).trans f0_24
  have f0_25 := (h1u3 25 (by decide)).trans f0_25
  have f0_26 := (h1u3 26 (by decide)).trans f0_26
  have f0_27 := (h1u3 27 (by decide)).trans f0_27
  have f0_28 := (h1u3 28 (by decide)).trans f0_28
  have f0_29 := (h1u3 29 (by decide)).trans f0_29
  have f0_30 := (h1u3 30 (by decide)).trans f0_30
  have hE := EXTR.tr (u := (tag, L, F)) hE (show EXTR p0 tag L _ (tag, L, F) from ⟨fun b hb => ⟨hb, fun _ => rfl⟩, fun b j _ hb => h2u3 b j hb⟩) (fun _ _ h => h) (fun h => (hE.1 _ h).1)
  refine lv_aload_n hx hb dX12_init_18 rfl (lv_at hl 0 rfl) ?_
  refine lv_iconst (v := 4) hx hb dX12_init_19 (by decide) ?_
  refine t_newa (atype := .int) (a0 := (4, .inl (fun _ => 0))) (t := 29) X hT 0 rfl qw_13 (fun _ => rfl) (by decide) (by decide) (Nat.le_of_ble_eq_true rfl) (Nat.le_of_ble_eq_true rfl) (Nat.le_of_ble_eq_true rfl) dX12_init_20 (fun t9 l9 => (show okA G t9 l9 (0, 4, fun _ => ((-2147483648), 2147483647)) (.inl (G.2 0, (4, .inl (fun _ => 0)))) from ⟨_, rfl, fun _ _ => ⟨show ((-2147483648) : Int) ≤ (0 : Int32).toInt from by decide, show (0 : Int32).toInt ≤ (2147483647 : Int) from by decide⟩⟩)) (fun q4 tag L F H hT mq4 gq4 kq4 Fq4 hEq4 hxq4 => ?_)
  have f0_0 := (((hxq4 _ m0).2 0).1).trans f0_0
  have f0_1 := (((hxq4 _ m0).2 1).1).trans f0_1
  have vu1 := (((hxq4 _ m0).2 2).1).trans vu1
  have f0_3 := (((hxq4 _ m0).2 3).1).trans f0_3
  have f0_4 := (((hxq4 _ m0).2 4).1).trans f0_4
  have f0_5 := (((hxq4 _ m0).2 5).1).trans f0_5
  have f0_6 := (((hxq4 _ m0).2 6).1).trans f0_6
  have f0_7 := (((hxq4 _ m0).2 7).1).trans f0_7
  have f0_8 := (((hxq4 _ m0).2 8).1).trans f0_8
  have f0_9 := (((hxq4 _ m0).2 9).1).trans f0_9
  have f0_10 := (((hxq4 _ m0).2 10).1).trans f0_10
  have f0_11 := (((hxq4 _ m0).2 11).1).trans f0_11
  have f0_12 := (((hxq4 _ m0).2 12).1).trans f0_12
  have f0_13 := (((hxq4 _ m0).2 13).1).trans f0_13
  have f0_14 := (((hxq4 _ m0).2 14).1).trans f0_14
  have vu3 := (((hxq4 _ m0).2 15).1).trans vu3
  have f0_16 := (((hxq4 _ m0).2 16).1).trans f0_16
  have f0_17 := (((hxq4 _ m0).2 17).1).trans f0_17
  have f0_18 := (((hxq4 _ m0).2 18).1).trans f0_18
  have f0_19 := (((hxq4 _ m0).2 19).1).trans f0_19
  have f0_20 := (((hxq4 _ m0).2 20).1).trans f0_20
  have f0_21 := (((hxq4 _ m0).2 21).1).trans f0_21
  have f0_22 := (((hxq4 _ m0).2 22).1).trans f0_22
  have f0_23 := (((hxq4 _ m0).2 23).1).trans f0_23
  have f0_24 := (((hxq4 _ m0).2 24).1).trans f0_24
  have f0_25 := (((hxq4 _ m0).2 25).1).trans f0_25
  have f0_26 := (((hxq4 _ m0).2 26).1).trans f0_26
  have f0_27 := (((hxq4 _ m0).2 27).1).trans f0_27
  have f0_28 := (((hxq4 _ m0).2 28).1).trans f0_28
  have f0_29 := (((hxq4 _ m0).2 29).1).trans f0_29
  have f0_30 := (((hxq4 _ m0).2 30).1).trans f0_30
  have g0 := (hxq4 _ m0).1.trans g0
  have gq2 := (hxq4 _ mq2).1.trans gq2
  have zq4 : ∀ b ∈ L0, b ≠ q4 := fun b hb h => kq4 (h ▸ (hE.1 b hb).1)
  have nq4_p0 : p0 ≠ q4 := fun h => kq4 (h ▸ m0)
  have nq4_q2 : q2 ≠ q4 := fun h => kq4 (h ▸ mq2)
  have hE := EXTR.tr hE hEq4 (fun b hb _ => zq4 b hb) (fun h => (hEq4.1 _ ((hE.1 _ h).1)).1)
  have m0 := (hEq4.1 _ m0).1
  have mq2 := (hEq4.1 _ mq2).1
  refine t_putF (C := RX12) (T := TX12) (N := 31) (v := .ref q4) X hi hT m0 g0 rfl tyX12 tyX12_ok nmX12 rfl 16 (by decide) qw_493 inlX12 rfl rfl (by first | rfl | decide) (by first | rfl | decide) rfl trivial dX12_init_22 (fun F H locs hT vu5 h1u5 h2u5 => ?_)
  have f0_0 := (h1u5 0 (by decide)).trans f0_0
  have f0_1 := (h1u5 1 (by decide)).trans f0_1
  have vu1 := (h1u5 2 (by decide)).trans vu1
  have f0_3 := (h1u5 3 (by decide)).trans f0_3
  have f0_4 := (h1u5 4 (by decide)).trans f0_4
  have f0_5 := (h1u5 5 (by decide)).trans f0_5
  have f0_6 := (h1u5 6 (by decide)).trans f0_6
  have f0_7 := (h1u5 7 (by decide)).trans f0_7
  have f0_8 := (h1u5 8 (by decide)).trans f0_8
  have f0_9 := (h1u5 9 (by decide)).trans f0_9
  have f0_10 := (h1u5 10 (by decide)).trans f0_10
  have f0_11 := (h1u5 11 (by decide)).trans f0_11
  have f0_12 := (h1u5 12 (by decide)).trans f0_12
  have f0_13 := (h1u5 13 (by decide)).trans f0_13
  have f0_14 := (h1u5 14 (by decide)).trans f0_14
  have vu3 := (h1u5 15 (by decide)).trans vu3
  have f0_17 := (h1u5 17 (by decide)).trans f0_17
  have f0_18 := (h1u5 18 (by decide)).trans f0_18
  have f0_19 := (h1u5 19 (by decide)).trans f0_19
  have f0_20 := (h1u5 20 (by decide)).trans f0_20
  have f0_21 := (h1u5 21 (by decide)).trans f0_21
  have f0_22 := (h1u5 22 (by decide)).trans f0_22
  have f0_23 := (h1u5 23 (by decide)).trans f0_23
  have f0_24 := (h1u5 24 (by decide)).trans f0_24
  have f0_25 := (h1u5 25 (by decide)).trans f0_25
  have f0_26 := (h1u5 26 (by decide)).trans f0_26
  have f0_27 := (h1u5 27 (by decide)).trans f0_27
  have f0_28 := (h1u5 28 (by decide)).trans f0_28
  have f0_29 := (h1u5 29 (by decide)).trans f0_29
  have f0_30 := (h1u5 30 (by decide)).trans f0_30
  have hE := EXTR.tr (u := (tag, L, F)) hE (show EXTR p0 tag L _ (tag, L, F) from ⟨fun b hb => ⟨hb, fun _ => rfl⟩, fun b j _ hb => h2u5 b j hb⟩) (fun _ _ h => h) (fun h => (hE.1 _ h).1)
  refine lv_aload_n hx hb dX12_init_25 rfl (lv_at hl 0 rfl) ?_
  refine lv_iconst (v := 4) hx hb dX12_init_26 (by decide) ?_
  refine t_newa (atype := .int) (a0 := (4, .inl (fun _ => 0))) (t := 29) X hT 0 rfl qw_13 (fun _ => rfl) (by decide) (by decide) (Nat.le_of_ble_eq_true rfl) (Nat.le_of_ble_eq_true rfl) (Nat.le_of_ble_eq_true rfl) dX12_init_27 (fun t9 l9 => (show okA G t9 l9 (0, 4, fun _ => ((-2147483648), 2147483647)) (.inl (G.2 0, (4, .inl (fun _ => 0)))) from ⟨_, rfl, fun _ _ => ⟨show ((-2147483648) : Int) ≤ (0 : Int32).toInt from by decide, show (0 : Int32).toInt ≤ (2147483647 : Int) from by decide⟩⟩)) (fun q6 tag L F H hT mq6 gq6 kq6 Fq6 hEq6 hxq6 => ?_)
  have f0_0 := (((hxq6 _ m0).2 0).1).trans f0_0
  have f0_1 := (((hxq6 _ m0).2 1).1).trans f0_1
  have vu1 := (((hxq6 _ m0).2 2).1).trans vu1
  have f0_3 := (((hxq6 _ m0).2 3).1).trans f0_3
  have f0_4 := (((hxq6 _ m0).2 4).1).trans f0_4
  have f0_5 := (((hxq6 _ m0).2 5).1).trans f0_5
  have f0_6 := (((hxq6 _ m0).2 6).1).trans f0_6
  have f0_7 := (((hxq6 _ m0).2 7).1).trans f0_7
  have f0_8 := (((hxq6 _ m0).2 8).1).trans f0_8
  have f0_9 := (((hxq6 _ m0).2 9).1).trans f0_9
  have f0_10 := (((hxq6 _ m0).2 10).1).trans f0_10
  have f0_11 := (((hxq6 _ m0).2 11).1).trans f0_11
  have f0_12 := (((hxq6 _ m0).2 12).1).trans f0_12
  have f0_13 := (((hxq6 _ m0).2 13).1).trans f0_13
  have f0_14 := (((hxq6 _ m0).2 14).1).trans f0_14
  have vu3 := (((hxq6 _ m0).2 15).1).trans vu3
  have vu5 := (((hxq6 _ m0).2 16).1).trans vu5
  have f0_17 := (((hxq6 _ m0).2 17).1).trans f0_17
  have f0_18 := (((hxq6 _ m0).2 18).1).trans f0_18
  have f0_19 := (((hxq6 _ m0).2 19).1).trans f0_19
  have f0_20 := (((hxq6 _ m0).2 20).1).trans f0_20
  have f0_21 := (((hxq6 _ m0).2 21).1).trans f0_21
  have f0_22 := (((hxq6 _ m0).2 22).1).trans f0_22
  have f0_23 := (((hxq6 _ m0).2 23).1).trans f0_23
  have f0_24 := (((hxq6 _ m0).2 24).1).trans f0_24
  have f0_25 := (((hxq6 _ m0).2 25).1).trans f0_25
  have f0_26 := (((hxq6 _ m0).2 26).1).trans f0_26
  have f0_27 := (((hxq6 _ m0).2 27).1).trans f0_27
  have f0_28 := (((hxq6 _ m0).2 28).1).trans f0_28
  have f0_29 := (((hxq6 _ m0).2 29).1).trans f0_29
  have f0_30 := (((hxq6 _ m0).2 30).1).trans f0_30
  have g0 := (hxq6 _ m0).1.trans g0
  have gq2 := (hxq6 _ mq2).1.trans gq2
  have gq4 := (hxq6 _ mq4).1.trans gq4
  have zq6 : ∀ b ∈ L0, b ≠ q6 := fun b hb h => kq6 (h ▸ (hE.1 b hb).1)
  have nq6_p0 : p0 ≠ q6 := fun h => kq6 (h ▸ m0)
  have nq6_q2 : q2 ≠ q6 := fun h => kq6 (h ▸ mq2)
  have nq6_q4 : q4 ≠ q6 := fun h => kq6 (h ▸ mq4)
  have hE := EXTR.tr hE hEq6 (fun b hb _ => zq6 b hb) (fun h => (hEq6.1 _ ((hE.1 _ h).1)).1)
  have m0 := (hEq6.1 _ m0).1
  have mq2 := (hEq6.1 _ mq2).1
  have mq4 := (hEq6.1 _ mq4).1
  refine t_putF (C := RX12) (T := TX12) (N := 31) (v := .ref q6) X hi hT m0 g0 rfl tyX12 tyX12_ok nmX12 rfl 17 (by decide) qw_494 inlX12 rfl rfl (by first | rfl | decide) (by first | rfl | decide) rfl trivial dX12_init_29 (fun F H locs hT vu7 h1u7 h2u7 => ?_)
  have f0_0 := (h1u7 0 (by decide)).trans f0_0
  have f0_1 := (h1u7 1 (by decide)).trans f0_1
  have vu1 := (h1u7 2 (by decide)).trans vu1
  have f0_3 := (h1u7 3 (by decide)).trans f0_3
  have f0_4 := (h1u7 4 (by decide)).trans f0_4
  have f0_5 := (h1u7 5 (by decide)).trans f0_5
  have f0_6 := (h1u7 6 (by decide)).trans f0_6
  have f0_7 := (h1u7 7 (by decide)).trans f0_7
  have f0_8 := (h1u7 8 (by decide)).trans f0_8
  have f0_9 := (h1u7 9 (by decide)).trans f0_9
  have f0_10 := (h1u7 10 (by decide)).trans f0_10
  have f0_11 := (h1u7 11 (by decide)).trans f0_11
  have f0_12 := (h1u7 12 (by decide)).trans f0_12
  have f0_13 := (h1u7 13 (by decide)).trans f0_13
  have f0_14 := (h1u7 14 (by decide)).trans f0_14
  have vu3 := (h1u7 15 (by decide)).trans vu3
  have vu5 := (h1u7 16 (by decide)).trans vu5
  have f0_18 := (h1u7 18 (by decide)).trans f0_18
  have f0_19 := (h1u7 19 (by decide)).trans f0_19
  have f0_20 := (h1u7 20 (by decide)).trans f0_20
  have f0_21 := (h1u7 21 (by decide)).trans f0_21
  have f0_22 := (h1u7 22 (by decide)).trans f0_22
  have f0_23 := (h1u7 23 (by decide)).trans f0_23
  have f0_24 := (h1u7 24 (by decide)).trans f0_24
  have f0_25 := (h1u7 25 (by decide)).trans f0_25
  have f0_26 := (h1u7 26 (by decide)).trans f0_26
  have f0_27 := (h1u7 27 (by decide)).trans f0_27
  have f0_28 := (h1u7 28 (by decide)).trans f0_28
  have f0_29 := (h1u7 29 (by decide)).trans f0_29
  have f0_30 := (h1u7 30 (by decide)).trans f0_30
  have hE := EXTR.tr (u := (tag, L, F)) hE (show EXTR p0 tag L _ (tag, L, F) from ⟨fun b hb => ⟨hb, fun _ => rfl⟩, fun b j _ hb => h2u7 b j hb⟩) (fun _ _ h => h) (fun h => (hE.1 _ h).1)
  refine lv_aload_n hx hb dX12_init_32 rfl (lv_at hl 0 rfl) ?_
  refine lv_iconst (v := 4) hx hb dX12_init_33 (by decide) ?_
  refine t_newa (atype := .int) (a0 := (4, .inl (fun _ => 0))) (t := 29) X hT 0 rfl qw_13 (fun _ => rfl) (by decide) (by decide) (Nat.le_of_ble_eq_true rfl) (Nat.le_of_ble_eq_true rfl) (Nat.le_of_ble_eq_true rfl) dX12_init_34 (fun t9 l9 => (show okA G t9 l9 (0, 4, fun _ => ((-2147483648), 2147483647)) (.inl (G.2 0, (4, .inl (fun _ => 0)))) from ⟨_, rfl, fun _ _ => ⟨show ((-2147483648) : Int) ≤ (0 : Int32).toInt from by decide, show (0 : Int32).toInt ≤ (2147483647 : Int) from by decide⟩⟩)) (fun q8 tag L F H hT mq8 gq8 kq8 Fq8 hEq8 hxq8 => ?_)
  have f0_0 := (((hxq8 _ m0).2 0).1).trans f0_0
  have f0_1 := (((hxq8 _ m0).2 1).1).trans f0_1
  have vu1 := (((hxq8 _ m0).2 2).1).trans vu1
  have f0_3 := (((hxq8 _ m0).2 3).1).trans f0_3
  have f0_4 := (((hxq8 _ m0).2 4).1).trans f0_4
  have f0_5 := (((hxq8 _ m0).2 5).1).trans f0_5
  have f0_6 := (((hxq8 _ m0).2 6).1).trans f0_6
  have f0_7 := (((hxq8 _ m0).2 7).1).trans f0_7
  have f0_8 := (((hxq8 _ m0).2 8).1).trans f0_8
  have f0_9 := (((hxq8 _ m0).2 9).1).trans f0_9
  have f0_10 := (((hxq8 _ m0).2 10).1).trans f0_10
  have f0_11 := (((hxq8 _ m0).2 11).1).trans f0_11
  have f0_12 := (((hxq8 _ m0).2 12).1).trans f0_12
  have f0_13 := (((hxq8 _ m0).2 13).1).trans f0_13
  have f0_14 := (((hxq8 _ m0).2 14).1).trans f0_14
  have vu3 := (((hxq8 _ m0).2 15).1).trans vu3
  have vu5 := (((hxq8 _ m0).2 16).1).trans vu5
  have vu7 := (((hxq8 _ m0).2 17).1).trans vu7
  have f0_18 := (((hxq8 _ m0).2 18).1).trans f0_18
  have f0_19 := (((hxq8 _ m0).2 19).1).trans f0_19
  have f0_20 := (((hxq8 _ m0).2 20).1).trans f0_20
  have f0_21 := (((hxq8 _ m0).2 21).1).trans f0_21
  have f0_22 := (((hxq8 _ m0).2 22).1).trans f0_22
  have f0_23 := (((hxq8 _ m0).2 23).1).trans f0_23
  have f0_24 := (((hxq8 _ m0).2 24).1).trans f0_24
  have f0_25 := (((hxq8 _ m0).2 25).1).trans f0_25
  have f0_26 := (((hxq8 _ m0).2 26).1).trans f0_26
  have f0_27 := (((hxq8 _ m0).2 27).1).trans f0_27
  have f0_28 := (((hxq8 _ m0).2 28).1).trans f0_28
  have f0_29 := (((hxq8 _ m0).2 29).1).trans f0_29
  have f0_30 := (((hxq8 _ m0).2 30).1).trans f0_30
  have g0 := (hxq8 _ m0).1.trans g0
  have gq2 := (hxq8 _ mq2).1.trans gq2
  have gq4 := (hxq8 _ mq4).1.trans gq4
  have gq6 := (hxq8 _ mq6).1.trans gq6
  have zq8 : ∀ b ∈ L0, b ≠ q8 := fun b hb h => kq8 (h ▸ (hE.1 b hb).1)
  have nq8_p0 : p0 ≠ q8 := fun h => kq8 (h ▸ m0)
  have nq8_q2 : q2 ≠ q8 := fun h => kq8 (h ▸ mq2)
  have nq8_q4 : q4 ≠ q8 := fun h => kq8 (h ▸ mq4)
  have nq8_q6 : q6 ≠ q8 := fun h => kq8 (h ▸ mq6)
  have hE := EXTR.tr hE hEq8 (fun b hb _ => zq8 b hb) (fun h => (hEq8.1 _ ((hE.1 _ h).1)).1)
  have m0 := (hEq8.1 _ m0).1
  have mq2 := (hEq8.1 _ mq2).1
  have mq4 := (hEq8.1 _ mq4).1
  have mq6 := (hEq8.1 _ mq6).1
  refine t_putF (C := RX12) (T := TX12) (N := 31) (v := .ref q8) X hi hT m0 g0 rfl tyX12 tyX12_ok nmX12 rfl 18 (by decide) qw_495 inlX12 rfl rfl (by first | rfl | decide) (by first | rfl | decide) rfl trivial dX12_init_36 (fun F H locs hT vu9 h1u9 h2u9 => ?_)
  have f0_0 := (h1u9 0 (by decide)).trans f0_0
  have f0_1 := (h1u9 1 (by decide)).trans f0_1
  have vu1 := (h1u9 2 (by decide)).trans vu1
  have f0_3 := (h1u9 3 (by decide)).trans f0_3
  have f0_4 := (h1u9 4 (by decide)).trans f0_4
  have f0_5 := (h1u9 5 (by decide)).trans f0_5
  have f0_6 := (h1u9 6 (by decide)).trans f0_6
  have f0_7 := (h1u9 7 (by decide)).trans f0_7
  have f0_8 := (h1u9 8 (by decide)).trans f0_8
  have f0_9 := (h1u9 9 (by decide)).trans f0_9
  have f0_10 := (h1u9 10 (by decide)).trans f0_10
  have f0_11 := (h1u9 11 (by decide)).trans f0_11
  have f0_12 := (h1u9 12 (by decide)).trans f0_12
  have f0_13 := (h1u9 13 (by decide)).trans f0_13
  have f0_14 := (h1u9 14 (by decide)).trans f0_14
  have vu3 := (h1u9 15 (by decide)).trans vu3
  have vu5 := (h1u9 16 (by decide)).trans vu5
  have vu7 := (h1u9 17 (by decide)).trans vu7
  have f0_19 := (h1u9 19 (by decide)).trans f0_19
  have f0_20 := (h1u9 20 (by decide)).trans f0_20
  have f0_21 := (h1u9 21 (by decide)).trans f0_21
  have f0_22 := (h1u9 22 (by decide)).trans f0_22
  have f0_23 := (h1u9 23 (by decide)).trans f0_23
  have f0_24 := (h1u9 24 (by decide)).trans f0_24
  have f0_25 := (h1u9 25 (by decide)).trans f0_25
  have f0_26 := (h1u9 26 (by decide)).trans f0_26
  have f0_27 := (h1u9 27 (by decide)).trans f0_27
  have f0_28 := (h1u9 28 (by decide)).trans f0_28
  have f0_29 := (h1u9 29 (by decide)).trans f0_29
  have f0_30 := (h1u9 30 (by decide)).trans f0_30
  have hE := EXTR.tr (u := (tag, L, F)) hE (show EXTR p0 tag L _ (tag, L, F) from ⟨fun b hb => ⟨hb, fun _ => rfl⟩, fun b j _ hb => h2u9 b j hb⟩) (fun _ _ h => h) (fun h => (hE.1 _ h).1)
  refine lv_aload_n hx hb dX12_init_39 rfl (lv_at hl 0 rfl) ?_
  refine lv_iconst (v := 4) hx hb dX12_init_40 (by decide) ?_
  refine t_newa (atype := .int) (a0 := (4, .inl (fun _ => 0))) (t := 29) X hT 0 rfl qw_13 (fun _ => rfl) (by decide) (by decide) (Nat.le_of_ble_eq_true rfl) (Nat.le_of_ble_eq_true rfl) (Nat.le_of_ble_eq_true rfl) dX12_init_41 (fun t9 l9 => (show okA G t9 l9 (0, 4, fun _ => ((-2147483648), 2147483647)) (.inl (G.2 0, (4, .inl (fun _ => 0)))) from ⟨_, rfl, fun _ _ => ⟨show ((-2147483648) : Int) ≤ (0 : Int32).toInt from by decide, show (0 : Int32).toInt ≤ (2147483647 : Int) from by decide⟩⟩)) (fun q10 tag L F H hT mq10 gq10 kq10 Fq10 hEq10 hxq10 => ?_)
  have f0_0 := (((hxq10 _ m0).2 0).1).trans f0_0
  have f0_1 := (((hxq10 _ m0).2 1).1).trans f0_1
  have vu1 := (((hxq10 _ m0).2 2).1).trans vu1
  have f0_3 := (((hxq10 _ m0).2 3).1).trans f0_3
  have f0_4 := (((hxq10 _ m0).2 4).1).trans f0_4
  have f0_5 := (((hxq10 _ m0).2 5).1).trans f0_5
  have f0_6 := (((hxq10 _ m0).2 6).1).trans f0_6
  have f0_7 := (((hxq10 _ m0).2 7).1).trans f0_7
  have f0_8 := (((hxq10 _ m0).2 8).1).trans f0_8
  have f0_9 := (((hxq10 _ m0).2 9).1).trans f0_9
  have f0_10 := (((hxq10 _ m0).2 10).1).trans f0_10
  have f0_11 := (((hxq10 _ m0).2 11).1).trans f0_11
  have f0_12 := (((hxq10 _ m0).2 12).1).trans f0_12
  have f0_13 := (((hxq10 _ m0).2 13).1).trans f0_13
  have f0_14 := (((hxq10 _ m0).2 14).1).trans f0_14
  have vu3 := (((hxq10 _ m0).2 15).1).trans vu3
  have vu5 := (((hxq10 _ m0).2 16).1).trans vu5
  have vu7 := (((hxq10 _ m0).2 17).1).trans vu7
  have vu9 := (((hxq10 _ m0).2 18).1).trans vu9
  have f0_19 := (((hxq10 _ m0).2 19).1).trans f0_19
  have f0_20 := (((hxq10 _ m0).2 20).1).trans f0_20
  have f0_21 := (((hxq10 _ m0).2 21).1).trans f0_21
  have f0_22 := (((hxq10 _ m0).2 22).1).trans f0_22
  have f0_23 := (((hxq10 _ m0).2 23).1).trans f0_23
  have f0_24 := (((hxq10 _ m0).2 24).1).trans f0_24
  have f0_25 := (((hxq10 _ m0).2 25).1).trans f0_25
  have f0_26 := (((hxq10 _ m0).2 26).1).trans f0_26
  have f0_27 := (((hxq10 _ m0).2 27).1).trans f0_27
  have f0_28 := (((hxq10 _ m0).2 28).1).trans f0_28
  have f0_29 := (((hxq10 _ m0).2 29).1).trans f0_29
  have f0_30 := (((hxq10 _ m0).2 30).1).trans f0_30
  have g0 := (hxq10 _ m0).1.trans g0
  have gq2 := (hxq10 _ mq2).1.trans gq2
  have gq4 := (hxq10 _ mq4).1.trans gq4
  have gq6 := (hxq10 _ mq6).1.trans gq6
  have gq8 := (hxq10 _ mq8).1.trans gq8
  have zq10 : ∀ b ∈ L0, b ≠ q10 := fun b hb h => kq10 (h ▸ (hE.1 b hb).1)
  have nq10_p0 : p0 ≠ q10 := fun h => kq10 (h ▸ m0)
  have nq10_q2 : q2 ≠ q10 := fun h => kq10 (h ▸ mq2)
  have nq10_q4 : q4 ≠ q10 := fun h => kq10 (h ▸ mq4)
  have nq10_q6 : q6 ≠ q10 := fun h => kq10 (h ▸ mq6)
  have nq10_q8 : q8 ≠ q10 := fun h => kq10 (h ▸ mq8)
  have hE := EXTR.tr hE hEq10 (fun b hb _ => zq10 b hb) (fun h => (hEq10.1 _ ((hE.1 _ h).1)).1)
  have m0 := (hEq10.1 _ m0).1
  have mq2 := (hEq10.1 _ mq2).1
  have mq4 := (hEq10.1 _ mq4).1
  have mq6 := (hEq10.1 _ mq6).1
  have mq8 := (hEq10.1 _ mq8).1
  refine t_putF (C := RX12) (T := TX12) (N := 31) (v := .ref q10) X hi hT m0 g0 rfl tyX12 tyX12_ok nmX12 rfl 19 (by decide) qw_496 inlX12 rfl rfl (by first | rfl | decide) (by first | rfl | decide) rfl trivial dX12_init_43 (fun F H locs hT vu11 h1u11 h2u11 => ?_)
  have f0_0 := (h1u11 0 (by decide)).trans f0_0
  have f0_1 := (h1u11 1 (by decide)).trans f0_1
  have vu1 := (h1u11 2 (by decide)).trans vu1
  have f0_3 := (h1u11 3 (by decide)).trans f0_3
  have f0_4 := (h1u11 4 (by decide)).trans f0_4
  have f0_5 := (h1u11 5 (by decide)).trans f0_5
  have f0_6 := (h1u11 6 (by decide)).trans f0_6
  have f0_7 := (h1u11 7 (by decide)).trans f0_7
  have f0_8 := (h1u11 8 (by decide)).trans f0_8
  have f0_9 := (h1u11 9 (by decide)).trans f0_9
  have f0_10 := (h1u11 10 (by decide)).trans f0_10
  have f0_11 := (h1u11 11 (by decide)).trans f0_11
  have f0_12 := (h1u11 12 (by decide)).trans f0_12
  have f0_13 := (h1u11 13 (by decide)).trans f0_13
  have f0_14 := (h1u11 14 (by decide)).trans f0_14
  have vu3 := (h1u11 15 (by decide)).trans vu3
  have vu5 := (h1u11 16 (by decide)).trans vu5
  have vu7 := (h1u11 17 (by decide)).trans vu7
  have vu9 := (h1u11 18 (by decide)).trans vu9
  have f0_20 := (h1u11 20 (by decide)).trans f0_20
  have f0_21 := (h1u11 21 (by decide)).trans f0_21
  have f0_22 := (h1u11 22 (by decide)).trans f0_22
  have f0_23 := (h1u11 23 (by decide)).trans f0_23
  have f0_24 := (h1u11 24 (by decide)).trans f0_24
  have f0_25 := (h1u11 25 (by decide)).trans f0_25
  have f0_26 := (h1u11 26 (by decide)).trans f0_26
  have f0_27 := (h1u11 27 (by decide)).trans f0_27
  have f0_28 := (h1u11 28 (by decide)).trans f0_28
  have f0_29 := (h1u11 29 (by decide)).trans f0_29
  have f0_30 := (h1u11 30 (by decide)).trans f0_30
  have hE := EXTR.tr (u := (tag, L, F)) hE (show EXTR p0 tag L _ (tag, L, F) from ⟨fun b hb => ⟨hb, fun _ => rfl⟩, fun b j _ hb => h2u11 b j hb⟩) (fun _ _ h => h) (fun h => (hE.1 _ h).1)
  refine lv_aload_n hx hb dX12_init_46 rfl (lv_at hl 0 rfl) ?_
  refine lv_iconst (v := 4) hx hb dX12_init_47 (by decide) ?_
  refine t_newa (atype := .int) (a0 := (4, .inl (fun _ => 0))) (t := 29) X hT 0 rfl qw_13 (fun _ => rfl) (by decide) (by decide) (Nat.le_of_ble_eq_true rfl) (Nat.le_of_ble_eq_true rfl) (Nat.le_of_ble_eq_true rfl) dX12_init_48 (fun t9 l9 => (show okA G t9 l9 (0, 4, fun _ => ((-2147483648), 2147483647)) (.inl (G.2 0, (4, .inl (fun _ => 0)))) from ⟨_, rfl, fun _ _ => ⟨show ((-2147483648) : Int) ≤ (0 : Int32).toInt from by decide, show (0 : Int32).toInt ≤ (2147483647 : Int) from by decide⟩⟩)) (fun q12 tag L F H hT mq12 gq12 kq12 Fq12 hEq12 hxq12 => ?_)
  have f0_0 := (((hxq12 _ m0).2 0).1).trans f0_0
  have f0_1 := (((hxq12 _ m0).2 1).1).trans f0_1
  have vu1 := (((hxq12 _ m0).2 2).1).trans vu1
  have f0_3 := (((hxq12 _ m0).2 3).1).trans f0_3
  have f0_4 := (((hxq12 _ m0).2 4).1).trans f0_4
  have f0_5 := (((hxq12 _ m0).2 5).1).trans f0_5
  have f0_6 := (((hxq12 _ m0).2 6).1).trans f0_6
  have f0_7 := (((hxq12 _ m0).2 7).1).trans f0_7
  have f0_8 := (((hxq12 _ m0).2 8).1).trans f0_8
  have f0_9 := (((hxq12 _ m0).2 9).1).trans f0_9
  have f0_10 := (((hxq12 _ m0).2 10).1).trans f0_10
  have f0_11 := (((hxq12 _ m0).2 11).1).trans f0_11
  have f0_12 := (((hxq12 _ m0).2 12).1).trans f0_12
  have f0_13 := (((hxq12 _ m0).2 13).1).trans f0_13
  have f0_14 := (((hxq12 _ m0).2 14).1).trans f0_14
  have vu3 := (((hxq12 _ m0).2 15).1).trans vu3
  have vu5 := (((hxq12 _ m0).2 16).1).trans vu5
  have vu7 := (((hxq12 _ m0).2 17).1).trans vu7
  have vu9 := (((hxq12 _ m0).2 18).1).trans vu9
  have vu11 := (((hxq12 _ m0).2 19).1).trans vu11
  have f0_20 := (((hxq12 _ m0).2 20).1).trans f0_20
  have f0_21 := (((hxq12 _ m0).2 21).1).trans f0_21
  have f0_22 := (((hxq12 _ m0).2 22).1).trans f0_22
  have f0_23 := (((hxq12 _ m0).2 23).1).trans f0_23
  have f0_24 := (((hxq12 _ m0).2 24).1).trans f0_24
  have f0_25 := (((hxq12 _ m0).2 25).1).trans f0_25
  have f0_26 := (((hxq12 _ m0).2 26).1).trans f0_26
  have f0_27 := (((hxq12 _ m0).2 27).1).trans f0_27
  have f0_28 := (((hxq12 _ m0).2 28).1).trans f0_28
  have f0_29 := (((hxq12 _ m0).2 29).1).trans f0_29
  have f0_30 := (((hxq12 _ m0).2 30).1).trans f0_30
  have g0 := (hxq12 _ m0).1.trans g0
  have gq2 := (hxq12 _ mq2).1.trans gq2
  have gq4 := (hxq12 _ mq4).1.trans gq4
  have gq6 := (hxq12 _ mq6).1.trans gq6
  have gq8 := (hxq12 _ mq8).1.trans gq8
  have gq10 := (hxq12 _ mq10).1.trans gq10
  have zq12 : ∀ b ∈ L0, b ≠ q12 := fun b hb h => kq12 (h ▸ (hE.1 b hb).1)
  have nq12_p0 : p0 ≠ q12 := fun h => kq12 (h ▸ m0)
  have nq12_q2 : q2 ≠ q12 := fun h => kq12 (h ▸ mq2)
  have nq12_q4 : q4 ≠ q12 := fun h => kq12 (h ▸ mq4)
  have nq12_q6 : q6 ≠ q12 := fun h => kq12 (h ▸ mq6)
  have nq12_q8 : q8 ≠ q12 := fun h => kq12 (h ▸ mq8)
  have nq12_q10 : q10 ≠ q12 := fun h => kq12 (h ▸ mq10)
  have hE := EXTR.tr hE hEq12 (fun b hb _ => zq12 b hb) (fun h => (hEq12.1 _ ((hE.1 _ h).1)).1)
  have m0 := (hEq12.1 _ m0).1
  have mq2 := (hEq12.1 _ mq2).1
  have mq4 := (hEq12.1 _ mq4).1
  have mq6 := (hEq12.1 _ mq6).1
  have mq8 := (hEq12.1 _ mq8).1
  have mq10 := (hEq12.1 _ mq10).1
  refine t_putF (C := RX12) (T := TX12) (N := 31) (v := .ref q12) X hi hT m0 g0 rfl tyX12 tyX12_ok nmX12 rfl 20 (by decide) qw_497 inlX12 rfl rfl (by first | rfl | decide) (by first | rfl | decide) rfl trivial dX12_init_50 (fun F H locs hT vu13 h1u13 h2u13 => ?_)
  have f0_0 := (h1u13 0 (by decide)).trans f0_0
  have f0_1 := (h1u13 1 (by decide)).trans f0_1
  have vu1 := (h1u13 2 (by decide)).trans vu1
  have f0_3 := (h1u13 3 (by decide)).trans f0_3
  have f0_4 := (h1u13 4 (by decide)).trans f0_4
  have f0_5 := (h1u13 5 (by decide)).trans f0_5
  have f0_6 := (h1u13 6 (by decide)).trans f0_6
  have f0_7 := (h1u13 7 (by decide)).trans f0_7
  have f0_8 := (h1u13 8 (by decide)).trans f0_8
  have f0_9 := (h1u13 9 (by decide)).trans f0_9
  have f0_10 := (h1u13 10 (by decide)).trans f0_10
  have f0_11 := (h1u13 11 (by decide)).trans f0_11
  have f0_12 := (h1u13 12 (by decide)).trans f0_12
  have f0_13 := (h1u13 13 (by decide)).trans f0_13
  have f0_14 := (h1u13 14 (by decide)).trans f0_14
  have vu3 := (h1u13 15 (by decide)).trans vu3
  have vu5 := (h1u13 16 (by decide)).trans vu5
  have vu7 := (h1u13 17 (by decide)).trans vu7
  have vu9 := (h1u13 18 (by decide)).trans vu9
  have vu11 := (h1u13 19 (by decide)).trans vu11
  have f0_21 := (h1u13 21 (by decide)).trans f0_21
  have f0_22 := (h1u13 22 (by decide)).trans f0_22
  have f0_23 := (h1u13 23 (by decide)).trans f0_23
  have f0_24 := (h1u13 24 (by decide)).trans f0_24
  have f0_25 := (h1u13 25 (by decide)).trans f0_25
  have f0_26 := (h1u13 26 (by decide)).trans f0_26
  have f0_27 := (h1u13 27 (by decide)).trans f0_27
  have f0_28 := (h1u13 28 (by decide)).trans f0_28
  have f0_29 := (h1u13 29 (by decide)).trans f0_29
  have f0_30 := (h1u13 30 (by decide)).trans f0_30
  have hE := EXTR.tr (u := (tag, L, F)) hE (show EXTR p0 tag L _ (tag, L, F) from ⟨fun b hb => ⟨hb, fun _ => rfl⟩, fun b j _ hb => h2u13 b j hb⟩) (fun _ _ h => h) (fun h => (hE.1 _ h).1)
  refine lv_aload_n hx hb dX12_init_53 rfl (lv_at hl 0 rfl) ?_
  refine lv_iconst (v := 4) hx hb dX12_init_54 (by decide) ?_
  refine t_newa (atype := .int) (a0 := (4, .inl (fun _ => 0))) (t := 30) X hT 0 rfl qw_13 (fun _ => rfl) (by decide) (by decide) (Nat.le_of_ble_eq_true rfl) (Nat.le_of_ble_eq_true rfl) (Nat.le_of_ble_eq_true rfl) dX12_init_55 (fun t9 l9 => (show okA G t9 l9 (0, 4, fun _ => (0, 143)) (.inl (G.2 0, (4, .inl (fun _ => 0)))) from ⟨_, rfl, fun _ _ => ⟨show (0 : Int) ≤ (0 : Int32).toInt from by decide, show (0 : Int32).toInt ≤ (143 : Int) from by decide⟩⟩)) (fun q14 tag L F H hT mq14 gq14 kq14 Fq14 hEq14 hxq14 => ?_)
  have f0_0 := (((hxq14 _ m0).2 0).1).trans f0_0
  have f0_1 := (((hxq14 _ m0).2 1).1).trans f0_1
  have vu1 := (((hxq14 _ m0).2 2).1).trans vu1
  have f0_3 := (((hxq14 _ m0).2 3).1).trans f0_3
  have f0_4 := (((hxq14 _ m0).2 4).1).trans f0_4
  have f0_5 := (((hxq14 _ m0).2 5).1).trans f0_5
  have f0_6 := (((hxq14 _ m0).2 6).1).trans f0_6
  have f0_7 := (((hxq14 _ m0).2 7).1).trans f0_7
  have f0_8 := (((hxq14 _ m0).2 8).1).trans f0_8
  have f0_9 := (((hxq14 _ m0).2 9).1).trans f0_9
  have f0_10 := (((hxq14 _ m0).2 10).1).trans f0_10
  have f0_11 := (((hxq14 _ m0).2 11).1).trans f0_11
  have f0_12 := (((hxq14 _ m0).2 12).1).trans f0_12
  have f0_13 := (((hxq14 _ m0).2 13).1).trans f0_13
  have f0_14 := (((hxq14 _ m0).2 14).1).trans f0_14
  have vu3 := (((hxq14 _ m0).2 15).1).trans vu3
  have vu5 := (((hxq14 _ m0).2 16).1).trans vu5
  have vu7 := (((hxq14 _ m0).2 17).1).trans vu7
  have vu9 := (((hxq14 _ m0).2 18).1).trans vu9
  have vu11 := (((hxq14 _ m0).2 19).1).trans vu11
  have vu13 := (((hxq14 _ m0).2 20).1).trans vu13
  have f0_21 := (((hxq14 _ m0).2 21).1).trans f0_21
  have f0_22 := (((hxq14 _ m0).2 22).1).trans f0_22
  have f0_23 := (((hxq14 _ m0).2 23).1).trans f0_23
  have f0_24 := (((hxq14 _ m0).2 24).1).trans f0_24
  have f0_25 := (((hxq14 _ m0).2 25).1).trans f0_25
  have f0_26 := (((hxq14 _ m0).2 26).1).trans f0_26
  have f0_27 := (((hxq14 _ m0).2 27).1).trans f0_27
  have f0_28 := (((hxq14 _ m0).2 28).1).trans f0_28
  have f0_29 := (((hxq14 _ m0).2 29).1).trans f0_29
  have f0_30 := (((hxq14 _ m0).2 30).1).trans f0_30
  have g0 := (hxq14 _ m0).1.trans g0
  have gq2 := (hxq14 _ mq2).1.trans gq2
  have gq4 := (hxq14 _ mq4).1.trans gq4
  have gq6 := (hxq14 _ mq6).1.trans gq6
  have gq8 := (hxq14 _ mq8).1.trans gq8
  have gq10 := (hxq14 _ mq10).1.trans gq10
  have gq12 := (hxq14 _ mq12).1.trans gq12
  have zq14 : ∀ b ∈ L0, b ≠ q14 := fun b hb h => kq14 (h ▸ (hE.1 b hb).1)
  have nq14_p0 : p0 ≠ q14 := fun h => kq14 (h ▸ m0)
  have nq14_q2 : q2 ≠ q14 := fun h => kq14 (h ▸ mq2)
  have nq14_q4 : q4 ≠ q14 := fun h => kq14 (h ▸ mq4)
  have nq14_q6 : q6 ≠ q14 := fun h => kq14 (h ▸ mq6)
  have nq14_q8 : q8 ≠ q14 := fun h => kq14 (h ▸ mq8)
  have nq14_q10 : q10 ≠ q14 := fun h => kq14 (h ▸ mq10)
  have nq14_q12 : q12 ≠ q14 := fun h => kq14 (h ▸ mq12)
  have hE := EXTR.tr hE hEq14 (fun b hb _ => zq14 b hb) (fun h => (hEq14.1 _ ((hE.1 _ h).1)).1)
  have m0 := (hEq14.1 _ m0).1
  have mq2 := (hEq14.1 _ mq2).1
  have mq4 := (hEq14.1 _ mq4).1
  have mq6 := (hEq14.1 _ mq6).1
  have mq8 := (hEq14.1 _ mq8).1
  have mq10 := (hEq14.1 _ mq10).1
  have mq12 := (hEq14.1 _ mq12).1
  refine t_putF (C := RX12) (T := TX12) (N := 31) (v := .ref q14) X hi hT m0 g0 rfl tyX12 tyX12_ok nmX12 rfl 21 (by decide) qw_498 inlX12 rfl rfl (by first | rfl | decide) (by first | rfl | decide) rfl trivial dX12_init_57 (fun F H locs hT vu15 h1u15 h2u15 => ?_)
  have f0_0 := (h1u15 0 (by decide)).trans f0_0
  have f0_1 := (h1u15 1 (by decide)).trans f0_1
  have vu1 := (h1u15 2 (by decide)).trans vu1
  have f0_3 := (h1u15 3 (by decide)).trans f0_3
  have f0_4 := (h1u15 4 (by decide)).trans f0_4
  have f0_5 := (h1u15 5 (by decide)).trans f0_5
  have f0_6 := (h1u15 6 (by decide)).trans f0_6
  have f0_7 := (h1u15 7 (by decide)).trans f0_7
  have f0_8 := (h1u15 8 (by decide)).trans f0_8
  have f0_9 := (h1u15 9 (by decide)).trans f0_9
  have f0_10 := (h1u15 10 (by decide)).trans f0_10
  have f0_11 := (h1u15 11 (by decide)).trans f0_11
  have f0_12 := (h1u15 12 (by decide)).trans f0_12
  have f0_13 := (h1u15 13 (by decide)).trans f0_13
  have f0_14 := (h1u15 14 (by decide)).trans f0_14
  have vu3 := (h1u15 15 (by decide)).trans vu3
  have vu5 := (h1u15 16 (by decide)).trans vu5
  have vu7 := (h1u15 17 (by decide)).trans vu7
  have vu9 := (h1u15 18 (by decide)).trans vu9
  have vu11 := (h1u15 19 (by decide)).trans vu11
  have vu13 := (h1u15 20 (by decide)).trans vu13
  have f0_22 := (h1u15 22 (by decide)).trans f0_22
  have f0_23 := (h1u15 23 (by decide)).trans f0_23
  have f0_24 := (h1u15 24 (by decide)).trans f0_24
  have f0_25 := (h1u15 25 (by decide)).trans f0_25
  have f0_26 := (h1u15 26 (by decide)).trans f0_26
  have f0_27 := (h1u15 27 (by decide)).trans f0_27
  have f0_28 := (h1u15 28 (by decide)).trans f0_28
  have f0_29 := (h1u15 29 (by decide)).trans f0_29
  have f0_30 := (h1u15 30 (by decide)).trans f0_30
  have hE := EXTR.tr (u := (tag, L, F)) hE (show EXTR p0 tag L _ (tag, L, F) from ⟨fun b hb => ⟨hb, fun _ => rfl⟩, fun b j _ hb => h2u15 b j hb⟩) (fun _ _ h => h) (fun h => (hE.1 _ h).1)
  refine lv_aload_n hx hb dX12_init_60 rfl (lv_at hl 0 rfl) ?_
  refine lv_iconst (v := 4) hx hb dX12_init_61 (by decide) ?_
  refine t_newa (atype := .int) (a0 := (4, .inl (fun _ => 0))) (t := 31) X hT 0 rfl qw_13 (fun _ => rfl) (by decide) (by decide) (Nat.le_of_ble_eq_true rfl) (Nat.le_of_ble_eq_true rfl) (Nat.le_of_ble_eq_true rfl) dX12_init_62 (fun t9 l9 => (show okA G t9 l9 (0, 4, fun _ => (0, 3)) (.inl (G.2 0, (4, .inl (fun _ => 0)))) from ⟨_, rfl, fun _ _ => ⟨show (0 : Int) ≤ (0 : Int32).toInt from by decide, show (0 : Int32).toInt ≤ (3 : Int) from by decide⟩⟩)) (fun q16 tag L F H hT mq16 gq16 kq16 Fq16 hEq16 hxq16 => ?_)
  have f0_0 := (((hxq16 _ m0).2 0).1).trans f0_0
  have f0_1 := (((hxq16 _ m0).2 1).1).trans f0_1
  have vu1 := (((hxq16 _ m0).2 2).1).trans vu1
  have f0_3 := (((hxq16 _ m0).2 3).1).trans f0_3
  have f0_4 := (((hxq16 _ m0).2 4).1).trans f0_4
  have f0_5 := (((hxq16 _ m0).2 5).1).trans f0_5
  have f0_6 := (((hxq16 _ m0).2 6).1).trans f0_6
  have f0_7 := (((hxq16 _ m0).2 7).1).trans f0_7
  have f0_8 := (((hxq16 _ m0).2 8).1).trans f0_8
  have f0_9 := (((hxq16 _ m0).2 9).1).trans f0_9
  have f0_10 := (((hxq16 _ m0).2 10).1).trans f0_10
  have f0_11 := (((hxq16 _ m0).2 11).1).trans f0_11
  have f0_12 := (((hxq16 _ m0).2 12).1).trans f0_12
  have f0_13 := (((hxq16 _ m0).2 13).1).trans f0_13
  have f0_14 := (((hxq16 _ m0).2 14).1).trans f0_14
  have vu3 := (((hxq16 _ m0).2 15).1).trans vu3
  have vu5 := (((hxq16 _ m0).2 16).1).trans vu5
  have vu7 := (((hxq16 _ m0).2 17).1).trans vu7
  have vu9 := (((hxq16 _ m0).2 18).1).trans vu9
  have vu11 := (((hxq16 _ m0).2 19).1).trans vu11
  have vu13 := (((hxq16 _ m0).2 20).1).trans vu13
  have vu15 := (((hxq16 _ m0).2 21).1).trans vu15
  have f0_22 := (((hxq16 _ m0).2 22).1).trans f0_22
  have f0_23 := (((hxq16 _ m0).2 23).1).trans f0_23
  have f0_24 := (((hxq16 _ m0).2 24).1).trans f0_24
  have f0_25 := (((hxq16 _ m0).2 25).1).trans f0_25
  have f0_26 := (((hxq16 _ m0).2 26).1).trans f0_26
  have f0_27 := (((hxq16 _ m0).2 27).1).trans f0_27
  have f0_28 := (((hxq16 _ m0).2 28).1).trans f0_28
  have f0_29 := (((hxq16 _ m0).2 29).1).trans f0_29
  have f0_30 := (((hxq16 _ m0).2 30).1).trans f0_30
  have g0 := (hxq16 _ m0).1.trans g0
  have gq2 := (hxq16 _ mq2).1.trans gq2
  have gq4 := (hxq16 _ mq4).1.trans gq4
  have gq6 := (hxq16 _ mq6).1.trans gq6
  have gq8 := (hxq16 _ mq8).1.trans gq8
  have gq10 := (hxq16 _ mq10).1.trans gq10
  have gq12 := (hxq16 _ mq12).1.trans gq12
  have gq14 := (hxq16 _ mq14).1.trans gq14
  have zq16 : ∀ b ∈ L0, b ≠ q16 := fun b hb h => kq16 (h ▸ (hE.1 b hb).1)
  have nq16_p0 : p0 ≠ q16 := fun h => kq16 (h ▸ m0)
  have nq16_q2 : q2 ≠ q16 := fun h => kq16 (h ▸ mq2)
  have nq16_q4 : q4 ≠ q16 := fun h => kq16 (h ▸ mq4)
  have nq16_q6 : q6 ≠ q16 := fun h => kq16 (h ▸ mq6)
  have nq16_q8 : q8 ≠ q16 := fun h => kq16 (h ▸ mq8)
  have nq16_q10 : q10 ≠ q16 := fun h => kq16 (h ▸ mq10)
  have nq16_q12 : q12 ≠ q16 := fun h => kq16 (h ▸ mq12)
  have nq16_q14 : q14 ≠ q16 := fun h => kq16 (h ▸ mq14)
  have hE := EXTR.tr hE hEq16 (fun b hb _ => zq16 b hb) (fun h => (hEq16.1 _ ((hE.1 _ h).1)).1)
  have m0 := (hEq16.1 _ m0).1
  have mq2 := (hEq16.1 _ mq2).1
  have mq4 := (hEq16.1 _ mq4).1
  have mq6 := (hEq16.1 _ mq6).1
  have mq8 := (hEq16.1 _ mq8).1
  have mq10 := (hEq16.1 _ mq10).1
  have mq12 := (hEq16.1 _ mq12).1
  have mq14 := (hEq16.1 _ mq14).1
  refine t_putF (C := RX12) (T := TX12) (N := 31) (v := .ref q16) X hi hT m0 g0 rfl tyX12 tyX12_ok nmX12 rfl 22 (by decide) qw_499 inlX12 rfl rfl (by first | rfl | decide) (by first | rfl | decide) rfl trivial dX12_init_64 (fun F H locs hT vu17 h1u17 h2u17 => ?_)
  have f0_0 := (h1u17 0 (by decide)).trans f0_0
  have f0_1 := (h1u17 1 (by decide)).trans f0_1
  have vu1 := (h1u17 2 (by decide)).trans vu1
  have f0_3 := (h1u17 3 (by decide)).trans f0_3
  have f0_4 := (h1u17 4 (by decide)).trans f0_4
  have f0_5 := (h1u17 5 (by decide)).trans f0_5
  have f0_6 := (h1u17 6 (by decide)).trans f0_6
  have f0_7 := (h1u17 7 (by decide)).trans f0_7
  have f0_8 := (h1u17 8 (by decide)).trans f0_8
  have f0_9 := (h1u17 9 (by decide)).trans f0_9
  have f0_10 := (h1u17 10 (by decide)).trans f0_10
  have f0_11 := (h1u17 11 (by decide)).trans f0_11
  have f0_12 := (h1u17 12 (by decide)).trans f0_12
  have f0_13 := (h1u17 13 (by decide)).trans f0_13
  have f0_14 := (h1u17 14 (by decide)).trans f0_14
  have vu3 := (h1u17 15 (by decide)).trans vu3
  have vu5 := (h1u17 16 (by decide)).trans vu5
  have vu7 := (h1u17 17 (by decide)).trans vu7
  have vu9 := (h1u17 18 (by decide)).trans vu9
  have vu11 := (h1u17 19 (by decide)).trans vu11
  have vu13 := (h1u17 20 (by decide)).trans vu13
  have vu15 := (h1u17 21 (by decide)).trans vu15
  have f0_23 := (h1u17 23 (by decide)).trans f0_23
  have f0_24 := (h1u17 24 (by decide)).trans f0_24
  have f0_25 := (h1u17 25 (by decide)).trans f0_25
  have f0_26 := (h1u17 26 (by decide)).trans f0_26
  have f0_27 := (h1u17 27 (by decide)).trans f0_27
  have f0_28 := (h1u17 28 (by decide)).trans f0_28
  have f0_29 := (h1u17 29 (by decide)).trans f0_29
  have f0_30 := (h1u17 30 (by decide)).trans f0_30
  have hE := EXTR.tr (u := (tag, L, F)) hE (show EXTR p0 tag L _ (tag, L, F) from ⟨fun b hb => ⟨hb, fun _ => rfl⟩, fun b j _ hb => h2u17 b j hb⟩) (fun _ _ h => h) (fun h => (hE.1 _ h).1)
  refine lv_aload_n hx hb dX12_init_67 rfl (lv_at hl 0 rfl) ?_
  refine lv_bipush (v := 6) hx hb dX12_init_68 (by decide) ?_
  refine t_newa (atype := .int) (a0 := (6, .inl (fun _ => 0))) (t := 32) X hT 0 rfl qw_13 (fun _ => rfl) (by decide) (by decide) (Nat.le_of_ble_eq_true rfl) (Nat.le_of_ble_eq_true rfl) (Nat.le_of_ble_eq_true rfl) dX12_init_70 (fun t9 l9 => (show okA G t9 l9 (0, 6, fun _ => (0, 3)) (.inl (G.2 0, (6, .inl (fun _ => 0)))) from ⟨_, rfl, fun _ _ => ⟨show (0 : Int) ≤ (0 : Int32).toInt from by decide, show (0 : Int32).toInt ≤ (3 : Int) from by decide⟩⟩)) (fun q18 tag L F H hT mq18 gq18 kq18 Fq18 hEq18 hxq18 => ?_)
  have f0_0 := (((hxq18 _ m0).2 0).1).trans f0_0
  have f0_1 := (((hxq18 _ m0).2 1).1).trans f0_1
  have vu1 := (((hxq18 _ m0).2 2).1).trans vu1
  have f0_3 := (((hxq18 _ m0).2 3).1).trans f0_3
  have f0_4 := (((hxq18 _ m0).2 4).1).trans f0_4
  have f0_5 := (((hxq18 _ m0).2 5).1).trans f0_5
  have f0_6 := (((hxq18 _ m0).2 6).1).trans f0_6
  have f0_7 := (((hxq18 _ m0).2 7).1).trans f0_7
  have f0_8 := (((hxq18 _ m0).2 8).1).trans f0_8
  have f0_9 := (((hxq18 _ m0).2 9).1).trans f0_9
  have f0_10 := (((hxq18 _ m0).2 10).1).trans f0_10
  have f0_11 := (((hxq18 _ m0).2 11).1).trans f0_11
  have f0_12 := (((hxq18 _ m0).2 12).1).trans f0_12
  have f0_13 := (((hxq18 _ m0).2 13).1).trans f0_13
  have f0_14 := (((hxq18 _ m0).2 14).1).trans f0_14
  have vu3 := (((hxq18 _ m0).2 15).1).trans vu3
  have vu5 := (((hxq18 _ m0).2 16).1).trans vu5
  have vu7 := (((hxq18 _ m0).2 17).1).trans vu7
  have vu9 := (((hxq18 _ m0).2 18).1).trans vu9
  have vu11 := (((hxq18 _ m0).2 19).1).trans vu11
  have vu13 := (((hxq18 _ m0).2 20).1).trans vu13
  have vu15 := (((hxq18 _ m0).2 21).1).trans vu15
  have vu17 := (((hxq18 _ m0).2 22).1).trans vu17
  have f0_23 := (((hxq18 _ m0).2 23).1).trans f0_23
  have f0_24 := (((hxq18 _ m0).2 24).1).trans f0_24
  have f0_25 := (((hxq18 _ m0).2 25).1).trans f0_25
  have f0_26 := (((hxq18 _ m0).2 26).1).trans f0_26
  have f0_27 := (((hxq18 _ m0).2 27).1).trans f0_27
  have f0_28 := (((hxq18 _ m0).2 28).1).trans f0_28
  have f0_29 := (((hxq18 _ m0).2 29).1).trans f0_29
  have f0_30 := (((hxq18 _ m0).2 30).1).trans f0_30
  have g0 := (hxq18 _ m0).1.trans g0
  have gq2 := (hxq18 _ mq2).1.trans gq2
  have gq4 := (hxq18 _ mq4).1.trans gq4
  have gq6 := (hxq18 _ mq6).1.trans gq6
  have gq8 := (hxq18 _ mq8).1.trans gq8
  have gq10 := (hxq18 _ mq10).1.trans gq10
  have gq12 := (hxq18 _ mq12).1.trans gq12
  have gq14 := (hxq18 _ mq14).1.trans gq14
  have gq16 := (hxq18 _ mq16).1.trans gq16
  have zq18 : ∀ b ∈ L0, b ≠ q18 := fun b hb h => kq18 (h ▸ (hE.1 b hb).1)
  have nq18_p0 : p0 ≠ q18 := fun h => kq18 (h ▸ m0)
  have nq18_q2 : q2 ≠ q18 := fun h => kq18 (h ▸ mq2)
  have nq18_q4 : q4 ≠ q18 := fun h => kq18 (h ▸ mq4)
  have nq18_q6 : q6 ≠ q18 := fun h => kq18 (h ▸ mq6)
  have nq18_q8 : q8 ≠ q18 := fun h => kq18 (h ▸ mq8)
  have nq18_q10 : q10 ≠ q18 := fun h => kq18 (h ▸ mq10)
  have nq18_q12 : q12 ≠ q18 := fun h => kq18 (h ▸ mq12)
  have nq18_q14 : q14 ≠ q18 := fun h => kq18 (h ▸ mq14)
  have nq18_q16 : q16 ≠ q18 := fun h => kq18 (h ▸ mq16)
  have hE := EXTR.tr hE hEq18 (fun b hb _ => zq18 b hb) (fun h => (hEq18.1 _ ((hE.1 _ h).1)).1)
  have m0 := (hEq18.1 _ m0).1
  have mq2 := (hEq18.1 _ mq2).1
  have mq4 := (hEq18.1 _ mq4).1
  have mq6 := (hEq18.1 _ mq6).1
  have mq8 := (hEq18.1 _ mq8).1
  have mq10 := (hEq18.1 _ mq10).1
  have mq12 := (hEq18.1 _ mq12).1
  have mq14 := (hEq18.1 _ mq14).1
  have mq16 := (hEq18.1 _ mq16).1
  refine t_putF (C := RX12) (T := TX12) (N := 31) (v := .ref q18) X hi hT m0 g0 rfl tyX12 tyX12_ok nmX12 rfl 23 (by decide) qw_500 inlX12 rfl rfl (by first | rfl | decide) (by first | rfl | decide) rfl trivial dX12_init_72 (fun F H locs hT vu19 h1u19 h2u19 => ?_)
  have f0_0 := (h1u19 0 (by decide)).trans f0_0
  have f0_1 := (h1u19 1 (by decide)).trans f0_1
  have vu1 := (h1u19 2 (by decide)).trans vu1
  have f0_3 := (h1u19 3 (by decide)).trans f0_3
  have f0_4 := (h1u19 4 (by decide)).trans f0_4
  have f0_5 := (h1u19 5 (by decide)).trans f0_5
  have f0_6 := (h1u19 6 (by decide)).trans f0_6
  have f0_7 := (h1u19 7 (by decide)).trans f0_7
  have f0_8 := (h1u19 8 (by decide)).trans f0_8
  have f0_9 := (h1u19 9 (by decide)).trans f0_9
  have f0_10 := (h1u19 10 (by decide)).trans f0_10
  have f0_11 := (h1u19 11 (by decide)).trans f0_11
  have f0_12 := (h1u19 12 (by decide)).trans f0_12
  have f0_13 := (h1u19 13 (by decide)).trans f0_13
  have f0_14 := (h1u19 14 (by decide)).trans f0_14
  have vu3 := (h1u19 15 (by decide)).trans vu3
  have vu5 := (h1u19 16 (by decide)).trans vu5
  have vu7 := (h1u19 17 (by decide)).trans vu7
  have vu9 := (h1u19 18 (by decide)).trans vu9
  have vu11 := (h1u19 19 (by decide)).trans vu11
  have vu13 := (h1u19 20 (by decide)).trans vu13
  have vu15 := (h1u19 21 (by decide)).trans vu15
  have vu17 := (h1u19 22 (by decide)).trans vu17
  have f0_24 := (h1u19 24 (by decide)).trans f0_24
  have f0_25 := (h1u19 25 (by decide)).trans f0_25
  have f0_26 := (h1u19 26 (by decide)).trans f0_26
  have f0_27 := (h1u19 27 (by decide)).trans f0_27
  have f0_28 := (h1u19 28 (by decide)).trans f0_28
  have f0_29 := (h1u19 29 (by decide)).trans f0_29
  have f0_30 := (h1u19 30 (by decide)).trans f0_30
  have hE := EXTR.tr (u := (tag, L, F)) hE (show EXTR p0 tag L _ (tag, L, F) from ⟨fun b hb => ⟨hb, fun _ => rfl⟩, fun b j _ hb => h2u19 b j hb⟩) (fun _ _ h => h) (fun h => (hE.1 _ h).1)
  refine lv_aload_n hx hb dX12_init_75 rfl (lv_at hl 0 rfl) ?_
  refine lv_bipush (v := 6) hx hb dX12_init_76 (by decide) ?_
  refine t_newa (atype := .int) (a0 := (6, .inl (fun _ => 0))) (t := 33) X hT 0 rfl qw_13 (fun _ => rfl) (by decide) (by decide) (Nat.le_of_ble_eq_true rfl) (Nat.le_of_ble_eq_true rfl) (Nat.le_of_ble_eq_true rfl) dX12_init_78 (fun t9 l9 => (show okA G t9 l9 (0, 6, fun _ => ((-2147483648), 2147483647)) (.inl (G.2 0, (6, .inl (fun _ => 0)))) from ⟨_, rfl, fun _ _ => ⟨show ((-2147483648) : Int) ≤ (0 : Int32).toInt from by decide, show (0 : Int32).toInt ≤ (2147483647 : Int) from by decide⟩⟩)) (fun q20 tag L F H hT mq20 gq20 kq20 Fq20 hEq20 hxq20 => ?_)
  have f0_0 := (((hxq20 _ m0).2 0).1).trans f0_0
  have f0_1 := (((hxq20 _ m0).2 1).1).trans f0_1
  have vu1 := (((hxq20 _ m0).2 2).1).trans vu1
  have f0_3 := (((hxq20 _ m0).2 3).1).trans f0_3
  have f0_4 := (((hxq20 _ m0).2 4).1).trans f0_4
  have f0_5 := (((hxq20 _ m0).2 5).1).trans f0_5
  have f0_6 := (((hxq20 _ m0).2 6).1).trans f0_6
  have f0_7 := (((hxq20 _ m0).2 7).1).trans f0_7
  have f0_8 := (((hxq20 _ m0).2 8).1).trans f0_8
  have f0_9 := (((hxq20 _ m0).2 9).1).trans f0_9
  have f0_10 := (((hxq20 _ m0).2 10).1).trans f0_10
  have f0_11 := (((hxq20 _ m0).2 11).1).trans f0_11
  have f0_12 := (((hxq20 _ m0).2 12).1).trans f0_12
  have f0_13 := (((hxq20 _ m0).2 13).1).trans f0_13
  have f0_14 := (((hxq20 _ m0).2 14).1).trans f0_14
  have vu3 := (((hxq20 _ m0).2 15).1).trans vu3
  have vu5 := (((hxq20 _ m0).2 16).1).trans vu5
  have vu7 := (((hxq20 _ m0).2 17).1).trans vu7
  have vu9 := (((hxq20 _ m0).2 18).1).trans vu9
  have vu11 := (((hxq20 _ m0).2 19).1).trans vu11
  have vu13 := (((hxq20 _ m0).2 20).1).trans vu13
  have vu15 := (((hxq20 _ m0).2 21).1).trans vu15
  have vu17 := (((hxq20 _ m0).2 22).1).trans vu17
  have vu19 := (((hxq20 _ m0).2 23).1).trans vu19
  have f0_24 := (((hxq20 _ m0).2 24).1).trans f0_24
  have f0_25 := (((hxq20 _ m0).2 25).1).trans f0_25
  have f0_26 := (((hxq20 _ m0).2 26).1).trans f0_26
  have f0_27 := (((hxq20 _ m0).2 27).1).trans f0_27
  have f0_28 := (((hxq20 _ m0).2 28).1).trans f0_28
  have f0_29 := (((hxq20 _ m0).2 29).1).trans f0_29
  have f0_30 := (((hxq20 _ m0).2 30).1).trans f0_30
  have g0 := (hxq20 _ m0).1.trans g0
  have gq2 := (hxq20 _ mq2).1.trans gq2
  have gq4 := (hxq20 _ mq4).1.trans gq4
  have gq6 := (hxq20 _ mq6).1.trans gq6
  have gq8 := (hxq20 _ mq8).1.trans gq8
  have gq10 := (hxq20 _ mq10).1.trans gq10
  have gq12 := (hxq20 _ mq12).1.trans gq12
  have gq14 := (hxq20 _ mq14).1.trans gq14
  have gq16 := (hxq20 _ mq16).1.trans gq16
  have gq18 := (hxq20 _ mq18).1.trans gq18
  have zq20 : ∀ b ∈ L0, b ≠ q20 := fun b hb h => kq20 (h ▸ (hE.1 b hb).1)
  have nq20_p0 : p0 ≠ q20 := fun h => kq20 (h ▸ m0)
  have nq20_q2 : q2 ≠ q20 := fun h => kq20 (h ▸ mq2)
  have nq20_q4 : q4 ≠ q20 := fun h => kq20 (h ▸ mq4)
  have nq20_q6 : q6 ≠ q20 := fun h => kq20 (h ▸ mq6)
  have nq20_q8 : q8 ≠ q20 := fun h => kq20 (h ▸ mq8)
  have nq20_q10 : q10 ≠ q20 := fun h => kq20 (h ▸ mq10)
  have nq20_q12 : q12 ≠ q20 := fun h => kq20 (h ▸ mq12)
  have nq20_q14 : q14 ≠ q20 := fun h => kq20 (h ▸ mq14)
  have nq20_q16 : q16 ≠ q20 := fun h => kq20 (h ▸ mq16)
  have nq20_q18 : q18 ≠ q20 := fun h => kq20 (h ▸ mq18)
  have hE := EXTR.tr hE hEq20 (fun b hb _ => zq20 b hb) (fun h => (hEq20.1 _ ((hE.1 _ h).1)).1)
  have m0 := (hEq20.1 _ m0).1
  have mq2 := (hEq20.1 _ mq2).1
  have mq4 := (hEq20.1 _ mq4).1
  have mq6 := (hEq20.1 _ mq6).1
  have mq8 := (hEq20.1 _ mq8).1
  have mq10 := (hEq20.1 _ mq10).1
  have mq12 := (hEq20.1 _ mq12).1
  have mq14 := (hEq20.1 _ mq14).1
  have mq16 := (hEq20.1 _ mq16).1
  have mq18 := (hEq20.1 _ mq18).1
  refine t_putF (C := RX12) (T := TX12) (N := 31) (v := .ref q20) X hi hT m0 g0 rfl tyX12 tyX12_ok nmX12 rfl 24 (by decide) qw_501 inlX12 rfl rfl (by first | rfl | decide) (by first | rfl | decide) rfl trivial dX12_init_80 (fun F H locs hT vu21 h1u21 h2u21 => ?_)
  have f0_0 := (h1u21 0 (by decide)).trans f0_0
  have f0_1 := (h1u21 1 (by decide)).trans f0_1
  have vu1 := (h1u21 2 (by decide)).trans vu1
  have f0_3 := (h1u21 3 (by decide)).trans f0_3
  have f0_4 := (h1u21 4 (by decide)).trans f0_4
  have f0_5 := (h1u21 5 (by decide)).trans f0_5
  have f0_6 := (h1u21 6 (by decide)).trans f0_6
  have f0_7 := (h1u21 7 (by decide)).trans f0_7
  have f0_8 := (h1u21 8 (by decide)).trans f0_8
  have f0_9 := (h1u21 9 (by decide)).trans f0_9
  have f0_10 := (h1u21 10 (by decide)).trans f0_10
  have f0_11 := (h1u21 11 (by decide)).trans f0_11
  have f0_12 := (h1u21 12 (by decide)).trans f0_12
  have f0_13 := (h1u21 13 (by decide)).trans f0_13
  have f0_14 := (h1u21 14 (by decide)).trans f0_14
  have vu3 := (h1u21 15 (by decide)).trans vu3
  have vu5 := (h1u21 16 (by decide)).trans vu5
  have vu7 := (h1u21 17 (by decide)).trans vu7
  have vu9 := (h1u21 18 (by decide)).trans vu9
  have vu11 := (h1u21 19 (by decide)).trans vu11
  have vu13 := (h1u21 20 (by decide)).trans vu13
  have vu15 := (h1u21 21 (by decide)).trans vu15
  have vu17 := (h1u21 22 (by decide)).trans vu17
  have vu19 := (h1u21 23 (by decide)).trans vu19
  have f0_25 := (h1u21 25 (by decide)).trans f0_25
  have f0_26 := (h1u21 26 (by decide)).trans f0_26
  have f0_27 := (h1u21 27 (by decide)).trans f0_27
  have f0_28 := (h1u21 28 (by decide)).trans f0_28
  have f0_29 := (h1u21 29 (by decide)).trans f0_29
  have f0_30 := (h1u21 30 (by decide)).trans f0_30
  have hE := EXTR.tr (u := (tag, L, F)) hE (show EXTR p0 tag L _ (tag, L, F) from ⟨fun b hb => ⟨hb, fun _ => rfl⟩, fun b j _ hb => h2u21 b j hb⟩) (fun _ _ h => h) (fun h => (hE.1 _ h).1)
  refine lv_aload_n hx hb dX12_init_83 rfl (lv_at hl 0 rfl) ?_
  refine lv_bipush (v := 6) hx hb dX12_init_84 (by decide) ?_
  refine t_newa (atype := .int) (a0 := (6, .inl (fun _ => 0))) (t := 33) X hT 0 rfl qw_13 (fun _ => rfl) (by decide) (by decide) (Nat.le_of_ble_eq_true rfl) (Nat.le_of_ble_eq_true rfl) (Nat.le_of_ble_eq_true rfl) dX12_init_86 (fun t9 l9 => (show okA G t9 l9 (0, 6, fun _ => ((-2147483648), 2147483647)) (.inl (G.2 0, (6, .inl (fun _ => 0)))) from ⟨_, rfl, fun _ _ => ⟨show ((-2147483648) : Int) ≤ (0 : Int32).toInt from by decide, show (0 : Int32).toInt ≤ (2147483647 : Int) from by decide⟩⟩)) (fun q22 tag L F H hT mq22 gq22 kq22 Fq22 hEq22 hxq22 => ?_)
  have f0_0 := (((hxq22 _ m0).2 0).1).trans f0_0
  have f0_1 := (((hxq22 _ m0).2 1).1).trans f0_1
  have vu1 := (((hxq22 _ m0).2 2).1).trans vu1
  have f0_3 := (((hxq22 _ m0).2 3).1).trans f0_3
  have f0_4 := (((hxq22 _ m0).2 4).1).trans f0_4
  have f0_5 := (((hxq22 _ m0).2 5).1).trans f0_5
  have f0_6 := (((hxq22 _ m0).2 6).1).trans f0_6
  have f0_7 := (((hxq22 _ m0).2 7).1).trans f0_7
  have f0_8 := (((hxq22 _ m0).2 8).1).trans f0_8
  have f0_9 := (((hxq22 _ m0).2 9).1).trans f0_9
  have f0_10 := (((hxq22 _ m0).2 10).1).trans f0_10
  have f0_11 := (((hxq22 _ m0).2 11).1).trans f0_11
  have f0_12 := (((hxq22 _ m0).2 12).1).trans f0_12
  have f0_13 := (((hxq22 _ m0).2 13).1).trans f0_13
  have f0_14 := (((hxq22 _ m0).2 14).1).trans f0_14
  have vu3 := (((hxq22 _ m0).2 15).1).trans vu3
  have vu5 := (((hxq22 _ m0).2 16).1).trans vu5
  have vu7 := (((hxq22 _ m0).2 17).1).trans vu7
  have vu9 := (((hxq22 _ m0).2 18).1).trans vu9
  have vu11 := (((hxq22 _ m0).2 19).1).trans vu11
  have vu13 := (((hxq22 _ m0).2 20).1).trans vu13
  have vu15 := (((hxq22 _ m0).2 21).1).trans vu15
  have vu17 := (((hxq22 _ m0).2 22).1).trans vu17
  have vu19 := (((hxq22 _ m0).2 23).1).trans vu19
  have vu21 := (((hxq22 _ m0).2 24).1).trans vu21
  have f0_25 := (((hxq22 _ m0).2 25).1).trans f0_25
  have f0_26 := (((hxq22 _ m0).2 26).1).trans f0_26
  have f0_27 := (((hxq22 _ m0).2 27).1).trans f0_27
  have f0_28 := (((hxq22 _ m0).2 28).1).trans f0_28
  have f0_29 := (((hxq22 _ m0).2 29).1).trans f0_29
  have f0_30 := (((hxq22 _ m0).2 30).1).trans f0_30
  have g0 := (hxq22 _ m0).1.trans g0
  have gq2 := (hxq22 _ mq2).1.trans gq2
  have gq4 := (hxq22 _ mq4).1.trans gq4
  have gq6 := (hxq22 _ mq6).1.trans gq6
  have gq8 := (hxq22 _ mq8).1.trans gq8
  have gq10 := (hxq22 _ mq10).1.trans gq10
  have gq12 := (hxq22 _ mq12).1.trans gq12
  have gq14 := (hxq22 _ mq14).1.trans gq14
  have gq16 := (hxq22 _ mq16).1.trans gq16
  have gq18 := (hxq22 _ mq18).1.trans gq18
  have gq20 := (hxq22 _ mq20).1.trans gq20
  have zq22 : ∀ b ∈ L0, b ≠ q22 := fun b hb h => kq22 (h ▸ (hE.1 b hb).1)
  have nq22_p0 : p0 ≠ q22 := fun h => kq22 (h ▸ m0)
  have nq22_q2 : q2 ≠ q22 := fun h => kq22 (h ▸ mq2)
  have nq22_q4 : q4 ≠ q22 := fun h => kq22 (h ▸ mq4)
  have nq22_q6 : q6 ≠ q22 := fun h => kq22 (h ▸ mq6)
  have nq22_q8 : q8 ≠ q22 := fun h => kq22 (h ▸ mq8)
  have nq22_q10 : q10 ≠ q22 := fun h => kq22 (h ▸ mq10)
  have nq22_q12 : q12 ≠ q22 := fun h => kq22 (h ▸ mq12)
  have nq22_q14 : q14 ≠ q22 := fun h => kq22 (h ▸ mq14)
  have nq22_q16 : q16 ≠ q22 := fun h => kq22 (h ▸ mq16)
  have nq22_q18 : q18 ≠ q22 := fun h => kq22 (h ▸ mq18)
  have nq22_q20 : q20 ≠ q22 := fun h => kq22 (h ▸ mq20)
  have hE := EXTR.tr hE hEq22 (fun b hb _ => zq22 b hb) (fun h => (hEq22.1 _ ((hE.1 _ h).1)).1)
  have m0 := (hEq22.1 _ m0).1
  have mq2 := (hEq22.1 _ mq2).1
  have mq4 := (hEq22.1 _ mq4).1
  have mq6 := (hEq22.1 _ mq6).1
  have mq8 := (hEq22.1 _ mq8).1
  have mq10 := (hEq22.1 _ mq10).1
  have mq12 := (hEq22.1 _ mq12).1
  have mq14 := (hEq22.1 _ mq14).1
  have mq16 := (hEq22.1 _ mq16).1
  have mq18 := (hEq22.1 _ mq18).1
  have mq20 := (hEq22.1 _ mq20).1
  refine t_putF (C := RX12) (T := TX12) (N := 31) (v := .ref q22) X hi hT m0 g0 rfl tyX12 tyX12_ok nmX12 rfl 25 (by decide) qw_502 inlX12 rfl rfl (by first | rfl | decide) (by first | rfl | decide) rfl trivial dX12_init_88 (fun F H locs hT vu23 h1u23 h2u23 => ?_)
  have f0_0 := (h1u23 0 (by decide)).trans f0_0
  have f0_1 := (h1u23 1 (by decide)).trans f0_1
  have vu1 := (h1u23 2 (by decide)).trans vu1
  have f0_3 := (h1u23 3 (by decide)).trans f0_3
  have f0_4 := (h1u23 4 (by decide)).trans f0_4
  have f0_5 := (h1u23 5 (by decide)).trans f0_5
  have f0_6 := (h1u23 6 (by decide)).trans f0_6
  have f0_7 := (h1u23 7 (by decide)).trans f0_7
  have f0_8 := (h1u23 8 (by decide)).trans f0_8
  have f0_9 := (h1u23 9 (by decide)).trans f0_9
  have f0_10 := (h1u23 10 (by decide)).trans f0_10
  have f0_11 := (h1u23 11 (by decide)).trans f0_11
  have f0_12 := (h1u23 12 (by decide)).trans f0_12
  have f0_13 := (h1u23 13 (by decide)).trans f0_13
  have f0_14 := (h1u23 14 (by decide)).trans f0_14
  have vu3 := (h1u23 15 (by decide)).trans vu3
  have vu5 := (h1u23 16 (by decide)).trans vu5
  have vu7 := (h1u23 17 (by decide)).trans vu7
  have vu9 := (h1u23 18 (by decide)).trans vu9
  have vu11 := (h1u23 19 (by decide)).trans vu11
  have vu13 := (h1u23 20 (by decide)).trans vu13
  have vu15 := (h1u23 21 (by decide)).trans vu15
  have vu17 := (h1u23 22 (by decide)).trans vu17
  have vu19 := (h1u23 23 (by decide)).trans vu19
  have vu21 := (h1u23 24 (by decide)).trans vu21
  have f0_26 := (h1u23 26 (by decide)).trans f0_26
  have f0_27 := (h1u23 27 (by decide)).trans f0_27
  have f0_28 := (h1u23 28 (by decide)).trans f0_28
  have f0_29 := (h1u23 29 (by decide)).trans f0_29
  have f0_30 := (h1u23 30 (by decide)).trans f0_30
  have hE := EXTR.tr (u := (tag, L, F)) hE (show EXTR p0 tag L _ (tag, L, F) from ⟨fun b hb => ⟨hb, fun _ => rfl⟩, fun b j _ hb => h2u23 b j hb⟩) (fun _ _ h => h) (fun h => (hE.1 _ h).1)
  refine lv_aload_n hx hb dX12_init_91 rfl (lv_at hl 0 rfl) ?_
  refine lv_bipush (v := 6) hx hb dX12_init_92 (by decide) ?_
  refine t_newa (atype := .int) (a0 := (6, .inl (fun _ => 0))) (t := 33) X hT 0 rfl qw_13 (fun _ => rfl) (by decide) (by decide) (Nat.le_of_ble_eq_true rfl) (Nat.le_of_ble_eq_true rfl) (Nat.le_of_ble_eq_true rfl) dX12_init_94 (fun t9 l9 => (show okA G t9 l9 (0, 6, fun _ => ((-2147483648), 2147483647)) (.inl (G.2 0, (6, .inl (fun _ => 0)))) from ⟨_, rfl, fun _ _ => ⟨show ((-2147483648) : Int) ≤ (0 : Int32).toInt from by decide, show (0 : Int32).toInt ≤ (2147483647 : Int) from by decide⟩⟩)) (fun q24 tag L F H hT mq24 gq24 kq24 Fq24 hEq24 hxq24 => ?_)
  have f0_0 := (((hxq24 _ m0).2 0).1).trans f0_0
  have f0_1 := (((hxq24 _ m0).2 1).1).trans f0_1
  have vu1 := (((hxq24 _ m0).2 2).1).trans vu1
  have f0_3 := (((hxq24 _ m0).2 3).1).trans f0_3
  have f0_4 := (((hxq24 _ m0).2 4).1).trans f0_4
  have f0_5 := (((hxq24 _ m0).2 5).1).trans f0_5
  have f0_6 := (((hxq24 _ m0).2 6).1).trans f0_6
  have f0_7 := (((hxq24 _ m0).2 7).1).trans f0_7
  have f0_8 := (((hxq24 _ m0).2 8).1).trans f0_8
  have f0_9 := (((hxq24 _ m0).2 9).1).trans f0_9
  have f0_10 := (((hxq24 _ m0).2 10).1).trans f0_10
  have f0_11 := (((hxq24 _ m0).2 11).1).trans f0_11
  have f0_12 := (((hxq24 _ m0).2 12).1).trans f0_12
  have f0_13 := (((hxq24 _ m0).2 13).1).trans f0_13
  have f0_14 := (((hxq24 _ m0).2 14).1).trans f0_14
  have vu3 := (((hxq24 _ m0).2 15).1).trans vu3
  have vu5 := (((hxq24 _ m0).2 16).1).trans vu5
  have vu7 := (((hxq24 _ m0).2 17).1).trans vu7
  have vu9 := (((hxq24 _ m0).2 18).1).trans vu9
  have vu11 := (((hxq24 _ m0).2 19).1).trans vu11
  have vu13 := (((hxq24 _ m0).2 20).1).trans vu13
  have vu15 := (((hxq24 _ m0).2 21).1).trans vu15
  have vu17 := (((hxq24 _ m0).2 22).1).trans vu17
  have vu19 := (((hxq24 _ m0).2 23).1).trans vu19
  have vu21 := (((hxq24 _ m0).2 24).1).trans vu21
  have vu23 := (((hxq24 _ m0).2 25).1).trans vu23
  have f0_26 := (((hxq24 _ m0).2 26).1).trans f0_26
  have f0_27 := (((hxq24 _ m0).2 27).1).trans f0_27
  have f0_28 := (((hxq24 _ m0).2 28).1).trans f0_28
  have f0_29 := (((hxq24 _ m0).2 29).1).trans f0_29
  have f0_30 := (((hxq24 _ m0).2 30).1).trans f0_30
  have g0 := (hxq24 _ m0).1.trans g0
  have gq2 := (hxq24 _ mq2).1.trans gq2
  have gq4 := (hxq24 _ mq4).1.trans gq4
  have gq6 := (hxq24 _ mq6).1.trans gq6
  have gq8 := (hxq24 _ mq8).1.trans gq8
  have gq10 := (hxq24 _ mq10).1.trans gq10
  have gq12 := (hxq24 _ mq12).1.trans gq12
  have gq14 := (hxq24 _ mq14).1.trans gq14
  have gq16 := (hxq24 _ mq16).1.trans gq16
  have gq18 := (hxq24 _ mq18).1.trans gq18
  have gq20 := (hxq24 _ mq20).1.trans gq20
  have gq22 := (hxq24 _ mq22).1.trans gq22
  have zq24 : ∀ b ∈ L0, b ≠ q24 := fun b hb h => kq24 (h ▸ (hE.1 b hb).1)
  have nq24_p0 : p0 ≠ q24 := fun h => kq24 (h ▸ m0)
  have nq24_q2 : q2 ≠ q24 := fun h => kq24 (h ▸ mq2)
  have nq24_q4 : q4 ≠ q24 := fun h => kq24 (h ▸ mq4)
  have nq24_q6 : q6 ≠ q24 := fun h => kq24 (h ▸ mq6)
  have nq24_q8 : q8 ≠ q24 := fun h => kq24 (h ▸ mq8)
  have nq24_q10 : q10 ≠ q24 := fun h => kq24 (h ▸ mq10)
  have nq24_q12 : q12 ≠ q24 := fun h => kq24 (h ▸ mq12)
  have nq24_q14 : q14 ≠ q24 := fun h => kq24 (h ▸ mq14)
  have nq24_q16 : q16 ≠ q24 := fun h => kq24 (h ▸ mq16)
  have nq24_q18 : q18 ≠ q24 := fun h => kq24 (h ▸ mq18)
  have nq24_q20 : q20 ≠ q24 := fun h => kq24 (h ▸ mq20)
  have nq24_q22 : q22 ≠ q24 := fun h => kq24 (h ▸ mq22)
  have hE := EXTR.tr hE hEq24 (fun b hb _ => zq24 b hb) (fun h => (hEq24.1 _ ((hE.1 _ h).1)).1)
  have m0 := (hEq24.1 _ m0).1
  have mq2 := (hEq24.1 _ mq2).1
  have mq4 := (hEq24.1 _ mq4).1
  have mq6 := (hEq24.1 _ mq6).1
  have mq8 := (hEq24.1 _ mq8).1
  have mq10 := (hEq24.1 _ mq10).1
  have mq12 := (hEq24.1 _ mq12).1
  have mq14 := (hEq24.1 _ mq14).1
  have mq16 := (hEq24.1 _ mq16).1
  have mq18 := (hEq24.1 _ mq18).1
  have mq20 := (hEq24.1 _ mq20).1
  have mq22 := (hEq24.1 _ mq22).1
  refine t_putF (C := RX12) (T := TX12) (N := 31) (v := .ref q24) X hi hT m0 g0 rfl tyX12 tyX12_ok nmX12 rfl 26 (by decide) qw_503 inlX12 rfl rfl (by first | rfl | decide) (by first | rfl | decide) rfl trivial dX12_init_96 (fun F H locs hT vu25 h1u25 h2u25 => ?_)
  have f0_0 := (h1u25 0 (by decide)).trans f0_0
  have f0_1 := (h1u25 1 (by decide)).trans f0_1
  have vu1 := (h1u25 2 (by decide)).trans vu1
  have f0_3 := (h1u25 3 (by decide)).trans f0_3
  have f0_4 := (h1u25 4 (by decide)).trans f0_4
  have f0_5 := (h1u25 5 (by decide)).trans f0_5
  have f0_6 := (h1u25 6 (by decide)).trans f0_6
  have f0_7 := (h1u25 7 (by decide)).trans f0_7
  have f0_8 := (h1u25 8 (by decide)).trans f0_8
  have f0_9 := (h1u25 9 (by decide)).trans f0_9
  have f0_10 := (h1u25 10 (by decide)).trans f0_10
  have f0_11 := (h1u25 11 (by decide)).trans f0_11
  have f0_12 := (h1u25 12 (by decide)).trans f0_12
  have f0_13 := (h1u25 13 (by decide)).trans f0_13
  have f0_14 := (h1u25 14 (by decide)).trans f0_14
  have vu3 := (h1u25 15 (by decide)).trans vu3
  have vu5 := (h1u25 16 (by decide)).trans vu5
  have vu7 := (h1u25 17 (by decide)).trans vu7
  have vu9 := (h1u25 18 (by decide)).trans vu9
  have vu11 := (h1u25 19 (by decide)).trans vu11
  have vu13 := (h1u25 20 (by decide)).trans vu13
  have vu15 := (h1u25 21 (by decide)).trans vu15
  have vu17 := (h1u25 22 (by decide)).trans vu17
  have vu19 := (h1u25 23 (by decide)).trans vu19
  have vu21 := (h1u25 24 (by decide)).trans vu21
  have vu23 := (h1u25 25 (by decide)).trans vu23
  have f0_27 := (h1u25 27 (by decide)).trans f0_27
  have f0_28 := (h1u25 28 (by decide)).trans f0_28
  have f0_29 := (h1u25 29 (by decide)).trans f0_29
  have f0_30 := (h1u25 30 (by decide)).trans f0_30
  have hE := EXTR.tr (u := (tag, L, F)) hE (show EXTR p0 tag L _ (tag, L, F) from ⟨fun b hb => ⟨hb, fun _ => rfl⟩, fun b j _ hb => h2u25 b j hb⟩) (fun _ _ h => h) (fun h => (hE.1 _ h).1)
  refine lv_aload_n hx hb dX12_init_99 rfl (lv_at hl 0 rfl) ?_
  refine lv_bipush (v := 32) hx hb dX12_init_100 (by decide) ?_
  refine t_newa (atype := .long) (a0 := (32, .inr (.inl (fun _ => 0)))) (t := 34) X hT 2 rfl qw_6 (fun _ => rfl) (by decide) (by decide) (Nat.le_of_ble_eq_true rfl) (Nat.le_of_ble_eq_true rfl) (Nat.le_of_ble_eq_true rfl) dX12_init_102 (fun t9 l9 => (show okA G t9 l9 (2, 32, fun _ => (-2147483648, 2147483647)) (.inl (G.2 2, (32, .inr (.inl (fun _ => 0))))) from ⟨_, rfl⟩)) (fun q26 tag L F H hT mq26 gq26 kq26 Fq26 hEq26 hxq26 => ?_)
  have f0_0 := (((hxq26 _ m0).2 0).1).trans f0_0
  have f0_1 := (((hxq26 _ m0).2 1).1).trans f0_1
  have vu1 := (((hxq26 _ m0).2 2).1).trans vu1
  have f0_3 := (((hxq26 _ m0).2 3).1).trans f0_3
  have f0_4 := (((hxq26 _ m0).2 4).1).trans f0_4
  have f0_5 := (((hxq26 _ m0).2 5).1).trans f0_5
  have f0_6 := (((hxq26 _ m0).2 6).1).trans f0_6
  have f0_7 := (((hxq26 _ m0).2 7).1).trans f0_7
  have f0_8 := (((hxq26 _ m0).2 8).1).trans f0_8
  have f0_9 := (((hxq26 _ m0).2 9).1).trans f0_9
  have f0_10 := (((hxq26 _ m0).2 10).1).trans f0_10
  have f0_11 := (((hxq26 _ m0).2 11).1).trans f0_11
  have f0_12 := (((hxq26 _ m0).2 12).1).trans f0_12
  have f0_13 := (((hxq26 _ m0).2 13).1).trans f0_13
  have f0_14 := (((hxq26 _ m0).2 14).1).trans f0_14
  have vu3 := (((hxq26 _ m0).2 15).1).trans vu3
  have vu5 := (((hxq26 _ m0).2 16).1).trans vu5
  have vu7 := (((hxq26 _ m0).2 17).1).trans vu7
  have vu9 := (((hxq26 _ m0).2 18).1).trans vu9
  have vu11 := (((hxq26 _ m0).2 19).1).trans vu11
  have vu13 := (((hxq26 _ m0).2 20).1).trans vu13
  have vu15 := (((hxq26 _ m0).2 21).1).trans vu15
  have vu17 := (((hxq26 _ m0).2 22).1).trans vu17
  have vu19 := (((hxq26 _ m0).2 23).1).trans vu19
  have vu21 := (((hxq26 _ m0).2 24).1).trans vu21
  have vu23 := (((hxq26 _ m0).2 25).1).trans vu23
  have vu25 := (((hxq26 _ m0).2 26).1).trans vu25
  have f0_27 := (((hxq26 _ m0).2 27).1).trans f0_27
  have f0_28 := (((hxq26 _ m0).2 28).1).trans f0_28
  have f0_29 := (((hxq26 _ m0).2 29).1).trans f0_29
  have f0_30 := (((hxq26 _ m0).2 30).1).trans f0_30
  have g0 := (hxq26 _ m0).1.trans g0
  have gq2 := (hxq26 _ mq2).1.trans gq2
  have gq4 := (hxq26 _ mq4).1.trans gq4
  have gq6 := (hxq26 _ mq6).1.trans gq6
  have gq8 := (hxq26 _ mq8).1.trans gq8
  have gq10 := (hxq26 _ mq10).1.trans gq10
  have gq12 := (hxq26 _ mq12).1.trans gq12
  have gq14 := (hxq26 _ mq14).1.trans gq14
  have gq16 := (hxq26 _ mq16).1.trans gq16
  have gq18 := (hxq26 _ mq18).1.trans gq18
  have gq20 := (hxq26 _ mq20).1.trans gq20
  have gq22 := (hxq26 _ mq22).1.trans gq22
  have gq24 := (hxq26 _ mq24).1.trans gq24
  have zq26 : ∀ b ∈ L0, b ≠ q26 := fun b hb h => kq26 (h ▸ (hE.1 b hb).1)
  have nq26_p0 : p0 ≠ q26 := fun h => kq26 (h ▸ m0)
  have nq26_q2 : q2 ≠ q26 := fun h => kq26 (h ▸ mq2)
  have nq26_q4 : q4 ≠ q26 := fun h => kq26 (h ▸ mq4)
  have nq26_q6 : q6 ≠ q26 := fun h => kq26 (h ▸ mq6)
  have nq26_q8 : q8 ≠ q26 := fun h => kq26 (h ▸ mq8)
  have nq26_q10 : q10 ≠ q26 := fun h => kq26 (h ▸ mq10)
  have nq26_q12 : q12 ≠ q26 := fun h => kq26 (h ▸ mq12)
  have nq26_q14 : q14 ≠ q26 := fun h => kq26 (h ▸ mq14)
  have nq26_q16 : q16 ≠ q26 := fun h => kq26 (h ▸ mq16)
  have nq26_q18 : q18 ≠ q26 := fun h => kq26 (h ▸ mq18)
  have nq26_q20 : q20 ≠ q26 := fun h => kq26 (h ▸ mq20)
  have nq26_q22 : q22 ≠ q26 := fun h => kq26 (h ▸ mq22)
  have nq26_q24 : q24 ≠ q26 := fun h => kq26 (h ▸ mq24)
  have hE := EXTR.tr hE hEq26 (fun b hb _ => zq26 b hb) (fun h => (hEq26.1 _ ((hE.1 _ h).1)).1)
  have m0 := (hEq26.1 _ m0).1
  have mq2 := (hEq26.1 _ mq2).1
  have mq4 := (hEq26.1 _ mq4).1
  have mq6 := (hEq26.1 _ mq6).1
  have mq8 := (hEq26.1 _ mq8).1
  have mq10 := (hEq26.1 _ mq10).1
  have mq12 := (hEq26.1 _ mq12).1
  have mq14 := (hEq26.1 _ mq14).1
  have mq16 := (hEq26.1 _ mq16).1
  have mq18 := (hEq26.1 _ mq18).1
  have mq20 := (hEq26.1 _ mq20).1
  have mq22 := (hEq26.1 _ mq22).1
  have mq24 := (hEq26.1 _ mq24).1
  refine t_putF (C := RX12) (T := TX12) (N := 31) (v := .ref q26) X hi hT m0 g0 rfl tyX12 tyX12_ok nmX12 rfl 27 (by decide) qw_504 inlX12 rfl rfl (by first | rfl | decide) (by first | rfl | decide) rfl trivial dX12_init_104 (fun F H locs hT vu27 h1u27 h2u27 => ?_)
  have f0_0 := (h1u27 0 (by decide)).trans f0_0
  have f0_1 := (h1u27 1 (by decide)).trans f0_1
  have vu1 := (h1u27 2 (by decide)).trans vu1
  have f0_3 := (h1u27 3 (by decide)).trans f0_3
  have f0_4 := (h1u27 4 (by decide)).trans f0_4
  have f0_5 := (h1u27 5 (by decide)).trans f0_5
  have f0_6 := (h1u27 6 (by decide)).trans f0_6
  have f0_7 := (h1u27 7 (by decide)).trans f0_7
  have f0_8 := (h1u27 8 (by decide)).trans f0_8
  have f0_9 := (h1u27 9 (by decide)).trans f0_9
  have f0_10 := (h1u27 10 (by decide)).trans f0_10
  have f0_11 := (h1u27 11 (by decide)).trans f0_11
  have f0_12 := (h1u27 12 (by decide)).trans f0_12
  have f0_13 := (h1u27 13 (by decide)).trans f0_13
  have f0_14 := (h1u27 14 (by decide)).trans f0_14
  have vu3 := (h1u27 15 (by decide)).trans vu3
  have vu5 := (h1u27 16 (by decide)).trans vu5
  have vu7 := (h1u27 17 (by decide)).trans vu7
  have vu9 := (h1u27 18 (by decide)).trans vu9
  have vu11 := (h1u27 19 (by decide)).trans vu11
  have vu13 := (h1u27 20 (by decide)).trans vu13
  have vu15 := (h1u27 21 (by decide)).trans vu15
  have vu17 := (h1u27 22 (by decide)).trans vu17
  have vu19 := (h1u27 23 (by decide)).trans vu19
  have vu21 := (h1u27 24 (by decide)).trans vu21
  have vu23 := (h1u27 25 (by decide)).trans vu23
  have vu25 := (h1u27 26 (by decide)).trans vu25
  have f0_28 := (h1u27 28 (by decide)).trans f0_28
  have f0_29 := (h1u27 29 (by decide)).trans f0_29
  have f0_30 := (h1u27 30 (by decide)).trans f0_30
  have hE := EXTR.tr (u := (tag, L, F)) hE (show EXTR p0 tag L _ (tag, L, F) from ⟨fun b hb => ⟨hb, fun _ => rfl⟩, fun b j _ hb => h2u27 b j hb⟩) (fun _ _ h => h) (fun h => (hE.1 _ h).1)
  refine lv_aload_n hx hb dX12_init_107 rfl (lv_at hl 0 rfl) ?_
  refine lv_bipush (v := 32) hx hb dX12_init_108 (by decide) ?_
  refine t_newa (atype := .int) (a0 := (32, .inl (fun _ => 0))) (t := 35) X hT 0 rfl qw_13 (fun _ => rfl) (by decide) (by decide) (Nat.le_of_ble_eq_true rfl) (Nat.le_of_ble_eq_true rfl) (Nat.le_of_ble_eq_true rfl) dX12_init_110 (fun t9 l9 => (show okA G t9 l9 (0, 32, fun _ => ((-2147483648), 2147483647)) (.inl (G.2 0, (32, .inl (fun _ => 0)))) from ⟨_, rfl, fun _ _ => ⟨show ((-2147483648) : Int) ≤ (0 : Int32).toInt from by decide, show (0 : Int32).toInt ≤ (2147483647 : Int) from by decide⟩⟩)) (fun q28 tag L F H hT mq28 gq28 kq28 Fq28 hEq28 hxq28 => ?_)
  have f0_0 := (((hxq28 _ m0).2 0).1).trans f0_0
  have f0_1 := (((hxq28 _ m0).2 1).1).trans f0_1
  have vu1 := (((hxq28 _ m0).2 2).1).trans vu1
  have f0_3 := (((hxq28 _ m0).2 3).1).trans f0_3
  have f0_4 := (((hxq28 _ m0).2 4).1).trans f0_4
  have f0_5 := (((hxq28 _ m0).2 5).1).trans f0_5
  have f0_6 := (((hxq28 _ m0).2 6).1).trans f0_6
  have f0_7 := (((hxq28 _ m0).2 7).1).trans f0_7
  have f0_8 := (((hxq28 _ m0).2 8).1).trans f0_8
  have f0_9 := (((hxq28 _ m0).2 9).1).trans f0_9
  have f0_10 := (((hxq28 _ m0).2 10).1).trans f0_10
  have f0_11 := (((hxq28 _ m0).2 11).1).trans f0_11
  have f0_12 := (((hxq28 _ m0).2 12).1).trans f0_12
  have f0_13 := (((hxq28 _ m0).2 13).1).trans f0_13
  have f0_14 := (((hxq28 _ m0).2 14).1).trans f0_14
  have vu3 := (((hxq28 _ m0).2 15).1).trans vu3
  have vu5 := (((hxq28 _ m0).2 16).1).trans vu5
  have vu7 := (((hxq28 _ m0).2 17).1).trans vu7
  have vu9 := (((hxq28 _ m0).2 18).1).trans vu9
  have vu11 := (((hxq28 _ m0).2 19).1).trans vu11
  have vu13 := (((hxq28 _ m0).2 20).1).trans vu13
  have vu15 := (((hxq28 _ m0).2 21).1).trans vu15
  have vu17 := (((hxq28 _ m0).2 22).1).trans vu17
  have vu19 := (((hxq28 _ m0).2 23).1).trans vu19
  have vu21 := (((hxq28 _ m0).2 24).1).trans vu21
  have vu23 := (((hxq28 _ m0).2 25).1).trans vu23
  have vu25 := (((hxq28 _ m0).2 26).1).trans vu25
  have vu27 := (((hxq28 _ m0).2 27).1).trans vu27
  have f0_28 := (((hxq28 _ m0).2 28).1).trans f0_28
  have f0_29 := (((hxq28 _ m0).2 29).1).trans f0_29
  have f0_30 := (((hxq28 _ m0).2 30).1).trans f0_30
  have g0 := (hxq28 _ m0).1.trans g0
  have gq2 := (hxq28 _ mq2).1.trans gq2
  have gq4 := (hxq28 _ mq4).1.trans gq4
  have gq6 := (hxq28 _ mq6).1.trans gq6
  have gq8 := (hxq28 _ mq8).1.trans gq8
  have gq10 := (hxq28 _ mq10).1.trans gq10
  have gq12 := (hxq28 _ mq12).1.trans gq12
  have gq14 := (hxq28 _ mq14).1.trans gq14
  have gq16 := (hxq28 _ mq16).1.trans gq16
  have gq18 := (hxq28 _ mq18).1.trans gq18
  have gq20 := (hxq28 _ mq20).1.trans gq20
  have gq22 := (hxq28 _ mq22).1.trans gq22
  have gq24 := (hxq28 _ mq24).1.trans gq24
  have gq26 := (hxq28 _ mq26).1.trans gq26
  have zq28 : ∀ b ∈ L0, b ≠ q28 := fun b hb h => kq28 (h ▸ (hE.1 b hb).1)
  have nq28_p0 : p0 ≠ q28 := fun h => kq28 (h ▸ m0)
  have nq28_q2 : q2 ≠ q28 := fun h => kq28 (h ▸ mq2)
  have nq28_q4 : q4 ≠ q28 := fun h => kq28 (h ▸ mq4)
  have nq28_q6 : q6 ≠ q28 := fun h => kq28 (h ▸ mq6)
  have nq28_q8 : q8 ≠ q28 := fun h => kq28 (h ▸ mq8)
  have nq28_q10 : q10 ≠ q28 := fun h => kq28 (h ▸ mq10)
  have nq28_q12 : q12 ≠ q28 := fun h => kq28 (h ▸ mq12)
  have nq28_q14 : q14 ≠ q28 := fun h => kq28 (h ▸ mq14)
  have nq28_q16 : q16 ≠ q28 := fun h => kq28 (h ▸ mq16)
  have nq28_q18 : q18 ≠ q28 := fun h => kq28 (h ▸ mq18)
  have nq28_q20 : q20 ≠ q28 := fun h => kq28 (h ▸ mq20)
  have nq28_q22 : q22 ≠ q28 := fun h => kq28 (h ▸ mq22)
  have nq28_q24 : q24 ≠ q28 := fun h => kq28 (h ▸ mq24)
  have nq28_q26 : q26 ≠ q28 := fun h => kq28 (h ▸ mq26)
  have hE := EXTR.tr hE hEq28 (fun b hb _ => zq28 b hb) (fun h => (hEq28.1 _ ((hE.1 _ h).1)).1)
  have m0 := (hEq28.1 _ m0).1
  have mq2 := (hEq28.1 _ mq2).1
  have mq4 := (hEq28.1 _ mq4).1
  have mq6 := (hEq28.1 _ mq6).1
  have mq8 := (hEq28.1 _ mq8).1
  have mq10 := (hEq28.1 _ mq10).1
  have mq12 := (hEq28.1 _ mq12).1
  have mq14 := (hEq28.1 _ mq14).1
  have mq16 := (hEq28.1 _ mq16).1
  have mq18 := (hEq28.1 _ mq18).1
  have mq20 := (hEq28.1 _ mq20).1
  have mq22 := (hEq28.1 _ mq22).1
  have mq24 := (hEq28.1 _ mq24).1
  have mq26 := (hEq28.1 _ mq26).1
  have wq28 : ∀ j : Nat, elm F q28 j = 0 := fun j => by unfold elm; rw [Fq28]
  refine t_putF (C := RX12) (T := TX12) (N := 31) (v := .ref q28) X hi hT m0 g0 rfl tyX12 tyX12_ok nmX12 rfl 28 (by decide) qw_505 inlX12 rfl rfl (by first | rfl | decide) (by first | rfl | decide) rfl trivial dX12_init_112 (fun F H locs hT vu29 h1u29 h2u29 => ?_)
  have f0_0 := (h1u29 0 (by decide)).trans f0_0
  have f0_1 := (h1u29 1 (by decide)).trans f0_1
  have vu1 := (h1u29 2 (by decide)).trans vu1
  have f0_3 := (h1u29 3 (by decide)).trans f0_3
  have f0_4 := (h1u29 4 (by decide)).trans f0_4
  have f0_5 := (h1u29 5 (by decide)).trans f0_5
  have f0_6 := (h1u29 6 (by decide)).trans f0_6
  have f0_7 := (h1u29 7 (by decide)).trans f0_7
  have f0_8 := (h1u29 8 (by decide)).trans f0_8
  have f0_9 := (h1u29 9 (by decide)).trans f0_9
  have f0_10 := (h1u29 10 (by decide)).trans f0_10
  have f0_11 := (h1u29 11 (by decide)).trans f0_11
  have f0_12 := (h1u29 12 (by decide)).trans f0_12
  have f0_13 := (h1u29 13 (by decide)).trans f0_13
  have f0_14 := (h1u29 14 (by decide)).trans f0_14
  have vu3 := (h1u29 15 (by decide)).trans vu3
  have vu5 := (h1u29 16 (by decide)).trans vu5
  have vu7 := (h1u29 17 (by decide)).trans vu7
  have vu9 := (h1u29 18 (by decide)).trans vu9
  have vu11 := (h1u29 19 (by decide)).trans vu11
  have vu13 := (h1u29 20 (by decide)).trans vu13
  have vu15 := (h1u29 21 (by decide)).trans vu15
  have vu17 := (h1u29 22 (by decide)).trans vu17
  have vu19 := (h1u29 23 (by decide)).trans vu19
  have vu21 := (h1u29 24 (by decide)).trans vu21
  have vu23 := (h1u29 25 (by decide)).trans vu23
  have vu25 := (h1u29 26 (by decide)).trans vu25
  have vu27 := (h1u29 27 (by decide)).trans vu27
  have f0_29 := (h1u29 29 (by decide)).trans f0_29
  have f0_30 := (h1u29 30 (by decide)).trans f0_30
  have wq28 := (fun j => ((h2u29 _ j (tne gq28 g0 (by decide))).2.1).trans (wq28 j))
  have hE := EXTR.tr (u := (tag, L, F)) hE (show EXTR p0 tag L _ (tag, L, F) from ⟨fun b hb => ⟨hb, fun _ => rfl⟩, fun b j _ hb => h2u29 b j hb⟩) (fun _ _ h => h) (fun h => (hE.1 _ h).1)
  refine lv_aload_n hx hb dX12_init_115 rfl (lv_at hl 0 rfl) ?_
  refine lv_bipush (v := 32) hx hb dX12_init_116 (by decide) ?_
  refine t_newa (atype := .int) (a0 := (32, .inl (fun _ => 0))) (t := 36) X hT 0 rfl qw_13 (fun _ => rfl) (by decide) (by decide) (Nat.le_of_ble_eq_true rfl) (Nat.le_of_ble_eq_true rfl) (Nat.le_of_ble_eq_true rfl) dX12_init_118 (fun t9 l9 => (show okA G t9 l9 (0, 32, fun _ => ((-2147483648), 2147483647)) (.inl (G.2 0, (32, .inl (fun _ => 0)))) from ⟨_, rfl, fun _ _ => ⟨show ((-2147483648) : Int) ≤ (0 : Int32).toInt from by decide, show (0 : Int32).toInt ≤ (2147483647 : Int) from by decide⟩⟩)) (fun q30 tag L F H hT mq30 gq30 kq30 Fq30 hEq30 hxq30 => ?_)
  have f0_0 := (((hxq30 _ m0).2 0).1).trans f0_0
  have f0_1 := (((hxq30 _ m0).2 1).1).trans f0_1
  have vu1 := (((hxq30 _ m0).2 2).1).trans vu1
  have f0_3 := (((hxq30 _ m0).2 3).1).trans f0_3
  have f0_4 := (((hxq30 _ m0).2 4).1).trans f0_4
  have f0_5 := (((hxq30 _ m0).2 5).1).trans f0_5
  have f0_6 := (((hxq30 _ m0).2 6).1).trans f0_6
  have f0_7 := (((hxq30 _ m0).2 7).1).trans f0_7
  have f0_8 := (((hxq30 _ m0).2 8).1).trans f0_8
  have f0_9 := (((hxq30 _ m0).2 9).1).trans f0_9
  have f0_10 := (((hxq30 _ m0).2 10).1).trans f0_10
  have f0_11 := (((hxq30 _ m0).2 11).1).trans f0_11
  have f0_12 := (((hxq30 _ m0).2 12).1).trans f0_12
  have f0_13 := (((hxq30 _ m0).2 13).1).trans f0_13
  have f0_14 := (((hxq30 _ m0).2 14).1).trans f0_14
  have vu3 := (((hxq30 _ m0).2 15).1).trans vu3
  have vu5 := (((hxq30 _ m0).2 16).1).trans vu5
  have vu7 := (((hxq30 _ m0).2 17).1).trans vu7
  have vu9 := (((hxq30 _ m0).2 18).1).trans vu9
  have vu11 := (((hxq30 _ m0).2 19).1).trans vu11
  have vu13 := (((hxq30 _ m0).2 20).1).trans vu13
  have vu15 := (((hxq30 _ m0).2 21).1).trans vu15
  have vu17 := (((hxq30 _ m0).2 22).1).trans vu17
  have vu19 := (((hxq30 _ m0).2 23).1).trans vu19
  have vu21 := (((hxq30 _ m0).2 24).1).trans vu21
  have vu23 := (((hxq30 _ m0).2 25).1).trans vu23
  have vu25 := (((hxq30 _ m0).2 26).1).trans vu25
  have vu27 := (((hxq30 _ m0).2 27).1).trans vu27
  have vu29 := (((hxq30 _ m0).2 28).1).trans vu29
  have f0_29 := (((hxq30 _ m0).2 29).1).trans f0_29
  have f0_30 := (((hxq30 _ m0).2 30).1).trans f0_30
  have wq28 := (fun j => (((hxq30 _ mq28).2 j).2.1).trans (wq28 j))
  have g0 := (hxq30 _ m0).1.trans g0
  have gq2 := (hxq30 _ mq2).1.trans gq2
  have gq4 := (hxq30 _ mq4).1.trans gq4
  have gq6 := (hxq30 _ mq6).1.trans gq6
  have gq8 := (hxq30 _ mq8).1.trans gq8
  have gq10 := (hxq30 _ mq10).1.trans gq10
  have gq12 := (hxq30 _ mq12).1.trans gq12
  have gq14 := (hxq30 _ mq14).1.trans gq14
  have gq16 := (hxq30 _ mq16).1.trans gq16
  have gq18 := (hxq30 _ mq18).1.trans gq18
  have gq20 := (hxq30 _ mq20).1.trans gq20
  have gq22 := (hxq30 _ mq22).1.trans gq22
  have gq24 := (hxq30 _ mq24).1.trans gq24
  have gq26 := (hxq30 _ mq26).1.trans gq26
  have gq28 := (hxq30 _ mq28).1.trans gq28
  have zq30 : ∀ b ∈ L0, b ≠ q30 := fun b hb h => kq30 (h ▸ (hE.1 b hb).1)
  have nq30_p0 : p0 ≠ q30 := fun h => kq30 (h ▸ m0)
  have nq30_q2 : q2 ≠ q30 := fun h => kq30 (h ▸ mq2)
  have nq30_q4 : q4 ≠ q30 := fun h => kq30 (h ▸ mq4)
  have nq30_q6 : q6 ≠ q30 := fun h => kq30 (h ▸ mq6)
  have nq30_q8 : q8 ≠ q30 := fun h => kq30 (h ▸ mq8)
  have nq30_q10 : q10 ≠ q30 := fun h => kq30 (h ▸ mq10)
  have nq30_q12 : q12 ≠ q30 := fun h => kq30 (h ▸ mq12)
  have nq30_q14 : q14 ≠ q30 := fun h => kq30 (h ▸ mq14)
  have nq30_q16 : q16 ≠ q30 := fun h => kq30 (h ▸ mq16)
  have nq30_q18 : q18 ≠ q30 := fun h => kq30 (h ▸ mq18)
  have nq30_q20 : q20 ≠ q30 := fun h => kq30 (h ▸ mq20)
  have nq30_q22 : q22 ≠ q30 := fun h => kq30 (h ▸ mq22)
  have nq30_q24 : q24 ≠ q30 := fun h => kq30 (h ▸ mq24)
  have nq30_q26 : q26 ≠ q30 := fun h => kq30 (h ▸ mq26)
  have nq30_q28 : q28 ≠ q30 := fun h => kq30 (h ▸ mq28)
  have hE := EXTR.tr hE hEq30 (fun b hb _ => zq30 b hb) (fun h => (hEq30.1 _ ((hE.1 _ h).1)).1)
  have m0 := (hEq30.1 _ m0).1
  have mq2 := (hEq30.1 _ mq2).1
  have mq4 := (hEq30.1 _ mq4).1
  have mq6 := (hEq30.1 _ mq6).1
  have mq8 := (hEq30.1 _ mq8).1
  have mq10 := (hEq30.1 _ mq10).1
  have mq12 := (hEq30.1 _ mq12).1
  have mq14 := (hEq30.1 _ mq14).1
  have mq16 := (hEq30.1 _ mq16).1
  have mq18 := (hEq30.1 _ mq18).1
  have mq20 := (hEq30.1 _ mq20).1
  have mq22 := (hEq30.1 _ mq22).1
  have mq24 := (hEq30.1 _ mq24).1
  have mq26 := (hEq30.1 _ mq26).1
  have mq28 := (hEq30.1 _ mq28).1
  have wq30 : ∀ j : Nat, elm F q30 j = 0 := fun j => by unfold elm; rw [Fq30]
  refine t_putF (C := RX12) (T := TX12) (N := 31) (v := .ref q30) X hi hT m0 g0 rfl tyX12 tyX12_ok nmX12 rfl 29 (by decide) qw_506 inlX12 rfl rfl (by first | rfl | decide) (by first | rfl | decide) rfl trivial dX12_init_120 (fun F H locs hT vu31 h1u31 h2u31 => ?_)
  have f0_0 := (h1u31 0 (by decide)).trans f0_0
  have f0_1 := (h1u31 1 (by decide)).trans f0_1
  have vu1 := (h1u31 2 (by decide)).trans vu1
  have f0_3 := (h1u31 3 (by decide)).trans f0_3
  have f0_4 := (h1u31 4 (by decide)).trans f0_4
  have f0_5 := (h1u31 5 (by decide)).trans f0_5
  have f0_6 := (h1u31 6 (by decide)).trans f0_6
  have f0_7 := (h1u31 7 (by decide)).trans f0_7
  have f0_8 := (h1u31 8 (by decide)).trans f0_8
  have f0_9 := (h1u31 9 (by decide)).trans f0_9
  have f0_10 := (h1u31 10 (by decide)).trans f0_10
  have f0_11 := (h1u31 11 (by decide)).trans f0_11
  have f0_12 := (h1u31 12 (by decide)).trans f0_12
  have f0_13 := (h1u31 13 (by decide)).trans f0_13
  have f0_14 := (h1u31 14 (by decide)).trans f0_14
  have vu3 := (h1u31 15 (by decide)).trans vu3
  have vu5 := (h1u31 16 (by decide)).trans vu5
  have vu7 := (h1u31 17 (by decide)).trans vu7
  have vu9 := (h1u31 18 (by decide)).trans vu9
  have vu11 := (h1u31 19 (by decide)).trans vu11
  have vu13 := (h1u31 20 (by decide)).trans vu13
  have vu15 := (h1u31 21 (by decide)).trans vu15
  have vu17 := (h1u31 22 (by decide)).trans vu17
  have vu19 := (h1u31 23 (by decide)).trans vu19
  have vu21 := (h1u31 24 (by decide)).trans vu21
  have vu23 := (h1u31 25 (by decide)).trans vu23
  have vu25 := (h1u31 26 (by decide)).trans vu25
  have vu27 := (h1u31 27 (by decide)).trans vu27
  have vu29 := (h1u31 28 (by decide)).trans vu29
  have f0_30 := (h1u31 30 (by decide)).trans f0_30
  have wq28 := (fun j => ((h2u31 _ j (tne gq28 g0 (by decide))).2.1).trans (wq28 j))
  have wq30 := (fun j => ((h2u31 _ j (tne gq30 g0 (by decide))).2.1).trans (wq30 j))
  have hE := EXTR.tr (u := (tag, L, F)) hE (show EXTR p0 tag L _ (tag, L, F) from ⟨fun b hb => ⟨hb, fun _ => rfl⟩, fun b j _ hb => h2u31 b j hb⟩) (fun _ _ h => h) (fun h => (hE.1 _ h).1)
  refine lv_aload_n hx hb dX12_init_123 rfl (lv_at hl 0 rfl) ?_
  refine lv_sipush (v := 212) hx hb dX12_init_124 (by decide) ?_
  refine t_newa (atype := .int) (a0 := (212, .inl (fun _ => 0))) (t := 37) X hT 0 rfl qw_13 (fun _ => rfl) (by decide) (by decide) (Nat.le_of_ble_eq_true rfl) (Nat.le_of_ble_eq_true rfl) (Nat.le_of_ble_eq_true rfl) dX12_init_127 (fun t9 l9 => (show okA G t9 l9 (0, 212, rowIv) (.inl (G.2 0, (212, .inl (fun _ => 0)))) from ⟨_, rfl, fun j _ => rowIv0 j⟩)) (fun q32 tag L F H hT mq32 gq32 kq32 Fq32 hEq32 hxq32 => ?_)
  have f0_0 := (((hxq32 _ m0).2 0).1).trans f0_0
  have f0_1 := (((hxq32 _ m0).2 1).1).trans f0_1
  have vu1 := (((hxq32 _ m0).2 2).1).trans vu1
  have f0_3 := (((hxq32 _ m0).2 3).1).trans f0_3
  have f0_4 := (((hxq32 _ m0).2 4).1).trans f0_4
  have f0_5 := (((hxq32 _ m0).2 5).1).trans f0_5
  have f0_6 := (((hxq32 _ m0).2 6).1).trans f0_6
  have f0_7 := (((hxq32 _ m0).2 7).1).trans f0_7
  have f0_8 := (((hxq32 _ m0).2 8).1).trans f0_8
  have f0_9 := (((hxq32 _ m0).2 9).1).trans f0_9
  have f0_10 := (((hxq32 _ m0).2 10).1).trans f0_10
  have f0_11 := (((hxq32 _ m0).2 11).1).trans f0_11
  have f0_12 := (((hxq32 _ m0).2 12).1).trans f0_12
  have f0_13 := (((hxq32 _ m0).2 13).1).trans f0_13
  have f0_14 := (((hxq32 _ m0).2 14).1).trans f0_14
  have vu3 := (((hxq32 _ m0).2 15).1).trans vu3
  have vu5 := (((hxq32 _ m0).2 16).1).trans vu5
  have vu7 := (((hxq32 _ m0).2 17).1).trans vu7
  have vu9 := (((hxq32 _ m0).2 18).1).trans vu9
  have vu11 := (((hxq32 _ m0).2 19).1).trans vu11
  have vu13 := (((hxq32 _ m0).2 20).1).trans vu13
  have vu15 := (((hxq32 _ m0).2 21).1).trans vu15
  have vu17 := (((hxq32 _ m0).2 22).1).trans vu17
  have vu19 := (((hxq32 _ m0).2 23).1).trans vu19
  have vu21 := (((hxq32 _ m0).2 24).1).trans vu21
  have vu23 := (((hxq32 _ m0).2 25).1).trans vu23
  have vu25 := (((hxq32 _ m0).2 26).1).trans vu25
  have vu27 := (((hxq32 _ m0).2 27).1).trans vu27
  have vu29 := (((hxq32 _ m0).2 28).1).trans vu29
  have vu31 := (((hxq32 _ m0).2 29).1).trans vu31
  have f0_30 := (((hxq32 _ m0).2 30).1).trans f0_30
  have wq28 := (fun j => (((hxq32 _ mq28).2 j).2.1).trans (wq28 j))
  have wq30 := (fun j => (((hxq32 _ mq30).2 j).2.1).trans (wq30 j))
  have g0 := (hxq32 _ m0).1.trans g0
  have gq2 := (hxq32 _ mq2).1.trans gq2
  have gq4 := (hxq32 _ mq4).1.trans gq4
  have gq6 := (hxq32 _ mq6).1.trans gq6
  have gq8 := (hxq32 _ mq8).1.trans gq8
  have gq10 := (hxq32 _ mq10).1.trans gq10
  have gq12 := (hxq32 _ mq12).1.trans gq12
  have gq14 := (hxq32 _ mq14).1.trans gq14
  have gq16 := (hxq32 _ mq16).1.trans gq16
  have gq18 := (hxq32 _ mq18).1.trans gq18
  have gq20 := (hxq32 _ mq20).1.trans gq20
  have gq22 := (hxq32 _ mq22).1.trans gq22
  have gq24 := (hxq32 _ mq24).1.trans gq24
  have gq26 := (hxq32 _ mq26).1.trans gq26
  have gq28 := (hxq32 _ mq28).1.trans gq28
  have gq30 := (hxq32 _ mq30).1.trans gq30
  have zq32 : ∀ b ∈ L0, b ≠ q32 := fun b hb h => kq32 (h ▸ (hE.1 b hb).1)
  have nq32_p0 : p0 ≠ q32 := fun h => kq32 (h ▸ m0)
  have nq32_q2 : q2 ≠ q32 := fun h => kq32 (h ▸ mq2)
  have nq32_q4 : q4 ≠ q32 := fun h => kq32 (h ▸ mq4)
  have nq32_q6 : q6 ≠ q32 := fun h => kq32 (h ▸ mq6)
  have nq32_q8 : q8 ≠ q32 := fun h => kq32 (h ▸ mq8)
  have nq32_q10 : q10 ≠ q32 := fun h => kq32 (h ▸ mq10)
  have nq32_q12 : q12 ≠ q32 := fun h => kq32 (h ▸ mq12)
  have nq32_q14 : q14 ≠ q32 := fun h => kq32 (h ▸ mq14)
  have nq32_q16 : q16 ≠ q32 := fun h => kq32 (h ▸ mq16)
  have nq32_q18 : q18 ≠ q32 := fun h => kq32 (h ▸ mq18)
  have nq32_q20 : q20 ≠ q32 := fun h => kq32 (h ▸ mq20)
  have nq32_q22 : q22 ≠ q32 := fun h => kq32 (h ▸ mq22)
  have nq32_q24 : q24 ≠ q32 := fun h => kq32 (h ▸ mq24)
  have nq32_q26 : q26 ≠ q32 := fun h => kq32 (h ▸ mq26)
  have nq32_q28 : q28 ≠ q32 := fun h => kq32 (h ▸ mq28)
  have nq32_q30 : q30 ≠ q32 := fun h => kq32 (h ▸ mq30)
  have hE := EXTR.tr hE hEq32 (fun b hb _ => zq32 b hb) (fun h => (hEq32.1 _ ((hE.1 _ h).1)).1)
  have m0 := (hEq32.1 _ m0).1
  have mq2 := (hEq32.1 _ mq2).1
  have mq4 := (hEq32.1 _ mq4).1
  have mq6 := (hEq32.1 _ mq6).1
  have mq8 := (hEq32.1 _ mq8).1
  have mq10 := (hEq32.1 _ mq10).1
  have mq12 := (hEq32.1 _ mq12).1
  have mq14 := (hEq32.1 _ mq14).1
  have mq16 := (hEq32.1 _ mq16).1
  have mq18 := (hEq32.1 _ mq18).1
  have mq20 := (hEq32.1 _ mq20).1
  have mq22 := (hEq32.1 _ mq22).1
  have mq24 := (hEq32.1 _ mq24).1
  have mq26 := (hEq32.1 _ mq26).1
  have mq28 := (hEq32.1 _ mq28).1
  have mq30 := (hEq32.1 _ mq30).1
  refine t_putF (C := RX12) (T := TX12) (N := 31) (v := .ref q32) X hi hT m0 g0 rfl tyX12 tyX12_ok nmX12 rfl 30 (by decide) qw_507 inlX12 rfl rfl (by first | rfl | decide) (by first | rfl | decide) rfl trivial dX12_init_129 (fun F H locs hT vu33 h1u33 h2u33 => ?_)
  have f0_0 := (h1u33 0 (by decide)).trans f0_0
  have f0_1 := (h1u33 1 (by decide)).trans f0_1
  have vu1 := (h1u33 2 (by decide)).trans vu1
  have f0_3 := (h1u33 3 (by decide)).trans f0_3
  have f0_4 := (h1u33 4 (by decide)).trans f0_4
  have f0_5 := (h1u33 5 (by decide)).trans f0_5
  have f0_6 := (h1u33 6 (by decide)).trans f0_6
  have f0_7 := (h1u33 7 (by decide)).trans f0_7
  have f0_8 := (h1u33 8 (by decide)).trans f0_8
  have f0_9 := (h1u33 9 (by decide)).trans f0_9
  have f0_10 := (h1u33 10 (by decide)).trans f0_10
  have f0_11 := (h1u33 11 (by decide)).trans f0_11
  have f0_12 := (h1u33 12 (by decide)).trans f0_12
  have f0_13 := (h1u33 13 (by decide)).trans f0_13
  have f0_14 := (h1u33 14 (by decide)).trans f0_14
  have vu3 := (h1u33 15 (by decide)).trans vu3
  have vu5 := (h1u33 16 (by decide)).trans vu5
  have vu7 := (h1u33 17 (by decide)).trans vu7
  have vu9 := (h1u33 18 (by decide)).trans vu9
  have vu11 := (h1u33 19 (by decide)).trans vu11
  have vu13 := (h1u33 20 (by decide)).trans vu13
  have vu15 := (h1u33 21 (by decide)).trans vu15
  have vu17 := (h1u33 22 (by decide)).trans vu17
  have vu19 := (h1u33 23 (by decide)).trans vu19
  have vu21 := (h1u33 24 (by decide)).trans vu21
  have vu23 := (h1u33 25 (by decide)).trans vu23
  have vu25 := (h1u33 26 (by decide)).trans vu25
  have vu27 := (h1u33 27 (by decide)).trans vu27
  have vu29 := (h1u33 28 (by decide)).trans vu29
  have vu31 := (h1u33 29 (by decide)).trans vu31
  have wq28 := (fun j => ((h2u33 _ j (tne gq28 g0 (by decide))).2.1).trans (wq28 j))
  have wq30 := (fun j => ((h2u33 _ j (tne gq30 g0 (by decide))).2.1).trans (wq30 j))
  have hE := EXTR.tr (u := (tag, L, F)) hE (show EXTR p0 tag L _ (tag, L, F) from ⟨fun b hb => ⟨hb, fun _ => rfl⟩, fun b j _ hb => h2u33 b j hb⟩) (fun _ _ h => h) (fun h => (hE.1 _ h).1)
  have hT := th_done (t := 44) hT m0 g0 rfl rfl rfl (nl_of (by decide)) (fun k f hk => by
    match k, hk with
    | 0, hk => obtain rfl := Option.some.inj (show some ((0, 0, 12) : FT) = some f from hk); rw [f0_0]; exact ⟨0, rfl, by decide, by decide⟩
    | 1, hk => obtain rfl := Option.some.inj (show some ((0, 0, 12) : FT) = some f from hk); rw [f0_1]; exact ⟨0, rfl, by decide, by decide⟩
    | 2, hk => obtain rfl := Option.some.inj (show some ((0, (-2147483648), 2147483647) : FT) = some f from hk); rw [vu1]; exact ⟨(-1), rfl, by decide, by decide⟩
    | 3, hk => obtain rfl := Option.some.inj (show some ((0, (-2147483648), 2147483647) : FT) = some f from hk); rw [f0_3]; exact ⟨0, rfl, by decide, by decide⟩
    | 4, hk => obtain rfl := Option.some.inj (show some ((0, (-2147483648), 2147483647) : FT) = some f from hk); rw [f0_4]; exact ⟨0, rfl, by decide, by decide⟩
    | 5, hk => obtain rfl := Option.some.inj (show some ((0, (-2147483648), 2147483647) : FT) = some f from hk); rw [f0_5]; exact ⟨0, rfl, by decide, by decide⟩
    | 6, hk => obtain rfl := Option.some.inj (show some ((0, (-2147483648), 2147483647) : FT) = some f from hk); rw [f0_6]; exact ⟨0, rfl, by decide, by decide⟩
    | 7, hk => obtain rfl := Option.some.inj (show some ((0, 0, 4) : FT) = some f from hk); rw [f0_7]; exact ⟨0, rfl, by decide, by decide⟩
    | 8, hk => obtain rfl := Option.some.inj (show some ((0, 0, 4) : FT) = some f from hk); rw [f0_8]; exact ⟨0, rfl, by decide, by decide⟩
    | 9, hk => obtain rfl := Option.some.inj (show some ((0, 0, 6) : FT) = some f from hk); rw [f0_9]; exact ⟨0, rfl, by decide, by decide⟩
    | 10, hk => obtain rfl := Option.some.inj (show some ((0, 0, 6) : FT) = some f from hk); rw [f0_10]; exact ⟨0, rfl, by decide, by decide⟩
    | 11, hk => obtain rfl := Option.some.inj (show some ((0, (-2147483648), 2147483647) : FT) = some f from hk); rw [f0_11]; exact ⟨0, rfl, by decide, by decide⟩
    | 12, hk => obtain rfl := Option.some.inj (show some ((0, 0, 32) : FT) = some f from hk); rw [f0_12]; exact ⟨0, rfl, by decide, by decide⟩
    | 13, hk => obtain rfl := Option.some.inj (show some ((0, 0, 1) : FT) = some f from hk); rw [f0_13]; exact ⟨0, rfl, by decide, by decide⟩
    | 14, hk => obtain rfl := Option.some.inj (show some ((0, 0, 1) : FT) = some f from hk); rw [f0_14]; exact ⟨0, rfl, by decide, by decide⟩
    | 15, hk => obtain rfl := Option.some.inj (show some ((1, 28, 0) : FT) = some f from hk); rw [vu3]; exact ⟨q2, rfl, mq2, by rw [tup_ne (tne gq2 g0 (by decide))]; rw [gq2]; rfl⟩
    | 16, hk => obtain rfl := Option.some.inj (show some ((1, 29, 0) : FT) = some f from hk); rw [vu5]; exact ⟨q4, rfl, mq4, by rw [tup_ne (tne gq4 g0 (by decide))]; rw [gq4]; rfl⟩
    | 17, hk => obtain rfl := Option.some.inj (show some ((1, 29, 0) : FT) = some f from hk); rw [vu7]; exact ⟨q6, rfl, mq6, by rw [tup_ne (tne gq6 g0 (by decide))]; rw [gq6]; rfl⟩
    | 18, hk => obtain rfl := Option.some.inj (show some ((1, 29, 0) : FT) = some f from hk); rw [vu9]; exact ⟨q8, rfl, mq8, by rw [tup_ne (tne gq8 g0 (by decide))]; rw [gq8]; rfl⟩
    | 19, hk => obtain rfl := Option.some.inj (show some ((1, 29, 0) : FT) = some f from hk); rw [vu11]; exact ⟨q10, rfl, mq10, by rw [tup_ne (tne gq10 g0 (by decide))]; rw [gq10]; rfl⟩
    | 20, hk => obtain rfl := Option.some.inj (show some ((1, 29, 0) : FT) = some f from hk); rw [vu13]; exact ⟨q12, rfl, mq12, by rw [tup_ne (tne gq12 g0 (by decide))]; rw [gq12]; rfl⟩
    | 21, hk => obtain rfl := Option.some.inj (show some ((1, 30, 0) : FT) = some f from hk); rw [vu15]; exact ⟨q14, rfl, mq14, by rw [tup_ne (tne gq14 g0 (by decide))]; rw [gq14]; rfl⟩
    | 22, hk => obtain rfl := Option.some.inj (show some ((1, 31, 0) : FT) = some f from hk); rw [vu17]; exact ⟨q16, rfl, mq16, by rw [tup_ne (tne gq16 g0 (by decide))]; rw [gq16]; rfl⟩
    | 23, hk => obtain rfl := Option.some.inj (show some ((1, 32, 0) : FT) = some f from hk); rw [vu19]; exact ⟨q18, rfl, mq18, by rw [tup_ne (tne gq18 g0 (by decide))]; rw [gq18]; rfl⟩
    | 24, hk => obtain rfl := Option.some.inj (show some ((1, 33, 0) : FT) = some f from hk); rw [vu21]; exact ⟨q20, rfl, mq20, by rw [tup_ne (tne gq20 g0 (by decide))]; rw [gq20]; rfl⟩
    | 25, hk => obtain rfl := Option.some.inj (show some ((1, 33, 0) : FT) = some f from hk); rw [vu23]; exact ⟨q22, rfl, mq22, by rw [tup_ne (tne gq22 g0 (by decide))]; rw [gq22]; rfl⟩
    | 26, hk => obtain rfl := Option.some.inj (show some ((1, 33, 0) : FT) = some f from hk); rw [vu25]; exact ⟨q24, rfl, mq24, by rw [tup_ne (tne gq24 g0 (by decide))]; rw [gq24]; rfl⟩
    | 27, hk => obtain rfl := Option.some.inj (show some ((1, 34, 0) : FT) = some f from hk); rw [vu27]; exact ⟨q26, rfl, mq26, by rw [tup_ne (tne gq26 g0 (by decide))]; rw [gq26]; rfl⟩
    | 28, hk => obtain rfl := Option.some.inj (show some ((1, 35, 0) : FT) = some f from hk); rw [vu29]; exact ⟨q28, rfl, mq28, by rw [tup_ne (tne gq28 g0 (by decide))]; rw [gq28]; rfl⟩
    | 29, hk => obtain rfl := Option.some.inj (show some ((1, 36, 0) : FT) = some f from hk); rw [vu31]; exact ⟨q30, rfl, mq30, by rw [tup_ne (tne gq30 g0 (by decide))]; rw [gq30]; rfl⟩
    | 30, hk => obtain rfl := Option.some.inj (show some ((1, 37, 0) : FT) = some f from hk); rw [vu33]; exact ⟨q32, rfl, mq32, by rw [tup_ne (tne gq32 g0 (by decide))]; rw [gq32]; rfl⟩
    | k + 31, hk => exact absurd hk (by simp))
  exact t_vreta hQ X hT ⟨extr_re hE, m0, tup_self, ⟨q28, q30, vu29, vu31, mq28, mq30, (tup_ne (tne gq28 g0 (by decide))).trans gq28, (tup_ne (tne gq30 g0 (by decide))).trans gq30, (fun j => ⟨wq28 j, wq30 j⟩), ⟨f0_12, f0_7, f0_8, f0_9, f0_10, f0_0⟩⟩⟩ (Nat.le_of_ble_eq_true rfl) (Nat.le_of_ble_eq_true rfl) dX12_init_132
