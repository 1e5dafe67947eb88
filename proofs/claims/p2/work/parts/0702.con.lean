set_option maxHeartbeats 4000000 in
set_option maxRecDepth 100000 in
theorem ka_X10_init (l : Launch) (G : KG) (tag0 : Nat → Nat) (L0 : List Nat) (Fo : Nat → va_E) (ho : okT G ttC tag0 L0 Fo) (p0 : Nat) (m0 : p0 ∈ L0) (g0 : tag0 p0 = 50) (f0_0 : fld Fo p0 0 = .null) (f0_1 : fld Fo p0 1 = .null) : TMa l yX10_init cX10_init 1 { frames := 1, cells := 2, slots := 8, locals := 12 } G ttC tag0 L0 Fo [.ref p0] (fun u => EXTR p0 tag0 L0 Fo u ∧ p0 ∈ u.2.1 ∧ u.1 p0 = 20) := by
  refine t_bodya (y := yX10_init) (cd := cX10_init) (mL := 1) (rm := { frames := 1, cells := 2, slots := 8, locals := 12 }) (av := [.ref p0]) (by decide) (Nat.le_of_ble_eq_true rfl) ho ?_
  intro p e s m args below meth c ls A Q hQ X hi hT hl
  have hx := X.1.1
  have hb := X.1.2.1
  have hi : meth.name = "<init>" := hi
  have hl : lv_has ls 1 [(0, .ref p0)] := hl
  obtain ⟨tag, htg⟩ : ∃ t : Nat → Nat, t = tag0 := ⟨_, rfl⟩
  obtain ⟨L, hLL⟩ : ∃ t : List Nat, t = L0 := ⟨_, rfl⟩
  obtain ⟨F, hFF⟩ : ∃ t : Nat → va_E, t = Fo := ⟨_, rfl⟩
  have hE : EXTR p0 tag0 L0 Fo (tag, L, F) := by rw [htg, hLL, hFF]; exact EXTR.rf
  rw [← htg, ← hLL, ← hFF] at hT
  have m0 : p0 ∈ L := by rw [hLL]; exact m0
  have g0 : tag p0 = 50 := by rw [htg]; exact g0
  rw [← hFF] at f0_0 f0_1
  refine lv_aload_n hx hb dX10_init_0 rfl (lv_at hl 0 rfl) ?_
  refine m_objI X hl qw_82 qw_11 qw_12 dX10_init_1 (Nat.le_of_ble_eq_true rfl) (Nat.le_of_ble_eq_true rfl) ?_
  refine lv_aload_n hx hb dX10_init_4 rfl (lv_at hl 0 rfl) ?_
  refine lv_iconst (v := 4) hx hb dX10_init_5 (by decide) ?_
  refine t_newa (atype := .int) (a0 := (4, .inl (fun _ => 0))) (t := 10) X hT 0 rfl qw_13 (fun _ => rfl) (by decide) (by decide) (Nat.le_of_ble_eq_true rfl) (Nat.le_of_ble_eq_true rfl) (Nat.le_of_ble_eq_true rfl) dX10_init_6 (fun t9 l9 => (show okA G t9 l9 (0, 4, fun _ => (0, 3)) (.inl (G.2 0, (4, .inl (fun _ => 0)))) from ⟨_, rfl, fun _ _ => ⟨show (0 : Int) ≤ (0 : Int32).toInt from by decide, show (0 : Int32).toInt ≤ (3 : Int) from by decide⟩⟩)) (fun q1 tag L F H hT mq1 gq1 kq1 Fq1 hEq1 hxq1 => ?_)
  have f0_0 := (((hxq1 _ m0).2 0).1).trans f0_0
  have f0_1 := (((hxq1 _ m0).2 1).1).trans f0_1
  have g0 := (hxq1 _ m0).1.trans g0
  have zq1 : ∀ b ∈ L0, b ≠ q1 := fun b hb h => kq1 (h ▸ (hE.1 b hb).1)
  have nq1_p0 : p0 ≠ q1 := fun h => kq1 (h ▸ m0)
  have hE := EXTR.tr hE hEq1 (fun b hb _ => zq1 b hb) (fun h => (hEq1.1 _ ((hE.1 _ h).1)).1)
  have m0 := (hEq1.1 _ m0).1
  refine t_putF (C := RX10) (T := TX10) (N := 2) (v := .ref q1) X hi hT m0 g0 rfl tyX10 tyX10_ok nmX10 rfl 0 (by decide) qw_83 inlX10 rfl rfl (by first | rfl | decide) (by first | rfl | decide) rfl trivial dX10_init_8 (fun F H locs hT vu2 h1u2 h2u2 => ?_)
  have f0_1 := (h1u2 1 (by decide)).trans f0_1
  have hE := EXTR.tr (u := (tag, L, F)) hE (show EXTR p0 tag L _ (tag, L, F) from ⟨fun b hb => ⟨hb, fun _ => rfl⟩, fun b j _ hb => h2u2 b j hb⟩) (fun _ _ h => h) (fun h => (hE.1 _ h).1)
  refine lv_aload_n hx hb dX10_init_11 rfl (lv_at hl 0 rfl) ?_
  refine lv_iconst (v := 4) hx hb dX10_init_12 (by decide) ?_
  refine t_newa (atype := .int) (a0 := (4, .inl (fun _ => 0))) (t := 5) X hT 0 rfl qw_13 (fun _ => rfl) (by decide) (by decide) (Nat.le_of_ble_eq_true rfl) (Nat.le_of_ble_eq_true rfl) (Nat.le_of_ble_eq_true rfl) dX10_init_13 (fun t9 l9 => (show okA G t9 l9 (0, 4, fun _ => ((-2147483648), 2147483647)) (.inl (G.2 0, (4, .inl (fun _ => 0)))) from ⟨_, rfl, fun _ _ => ⟨show ((-2147483648) : Int) ≤ (0 : Int32).toInt from by decide, show (0 : Int32).toInt ≤ (2147483647 : Int) from by decide⟩⟩)) (fun q3 tag L F H hT mq3 gq3 kq3 Fq3 hEq3 hxq3 => ?_)
  have vu2 := (((hxq3 _ m0).2 0).1).trans vu2
  have f0_1 := (((hxq3 _ m0).2 1).1).trans f0_1
  have g0 := (hxq3 _ m0).1.trans g0
  have gq1 := (hxq3 _ mq1).1.trans gq1
  have zq3 : ∀ b ∈ L0, b ≠ q3 := fun b hb h => kq3 (h ▸ (hE.1 b hb).1)
  have nq3_p0 : p0 ≠ q3 := fun h => kq3 (h ▸ m0)
  have nq3_q1 : q1 ≠ q3 := fun h => kq3 (h ▸ mq1)
  have hE := EXTR.tr hE hEq3 (fun b hb _ => zq3 b hb) (fun h => (hEq3.1 _ ((hE.1 _ h).1)).1)
  have m0 := (hEq3.1 _ m0).1
  have mq1 := (hEq3.1 _ mq1).1
  refine t_putF (C := RX10) (T := TX10) (N := 2) (v := .ref q3) X hi hT m0 g0 rfl tyX10 tyX10_ok nmX10 rfl 1 (by decide) qw_84 inlX10 rfl rfl (by first | rfl | decide) (by first | rfl | decide) rfl trivial dX10_init_15 (fun F H locs hT vu4 h1u4 h2u4 => ?_)
  have vu2 := (h1u4 0 (by decide)).trans vu2
  have hE := EXTR.tr (u := (tag, L, F)) hE (show EXTR p0 tag L _ (tag, L, F) from ⟨fun b hb => ⟨hb, fun _ => rfl⟩, fun b j _ hb => h2u4 b j hb⟩) (fun _ _ h => h) (fun h => (hE.1 _ h).1)
  have hT := th_done (t := 20) hT m0 g0 rfl rfl rfl (nl_of (by decide)) (fun k f hk => by
    match k, hk with
    | 0, hk => obtain rfl := Option.some.inj (show some ((1, 10, 0) : FT) = some f from hk); rw [vu2]; exact ⟨q1, rfl, mq1, by rw [tup_ne (tne gq1 g0 (by decide))]; rw [gq1]; rfl⟩
    | 1, hk => obtain rfl := Option.some.inj (show some ((1, 5, 0) : FT) = some f from hk); rw [vu4]; exact ⟨q3, rfl, mq3, by rw [tup_ne (tne gq3 g0 (by decide))]; rw [gq3]; rfl⟩
    | k + 2, hk => exact absurd hk (by simp))
  exact t_vreta hQ X hT ⟨extr_re hE, m0, tup_self⟩ (Nat.le_of_ble_eq_true rfl) (Nat.le_of_ble_eq_true rfl) dX10_init_18
set_option maxHeartbeats 4000000 in
set_option maxRecDepth 100000 in
theorem ka_X0_init (l : Launch) (G : KG) (tag0 : Nat → Nat) (L0 : List Nat) (Fo : Nat → va_E) (ho : okT G ttC tag0 L0 Fo) (p0 : Nat) (m0 : p0 ∈ L0) (g0 : tag0 p0 = 51) (f0_0 : fld Fo p0 0 = .null) (f0_1 : fld Fo p0 1 = .null) : TMa l yX0_init cX0_init 1 { frames := 1, cells := 2, slots := 96, locals := 12 } G ttC tag0 L0 Fo [.ref p0] (fun u => EXTR p0 tag0 L0 Fo u ∧ p0 ∈ u.2.1 ∧ u.1 p0 = 21) := by
  refine t_bodya (y := yX0_init) (cd := cX0_init) (mL := 1) (rm := { frames := 1, cells := 2, slots := 96, locals := 12 }) (av := [.ref p0]) (by decide) (Nat.le_of_ble_eq_true rfl) ho ?_
  intro p e s m args below meth c ls A Q hQ X hi hT hl
  have hx := X.1.1
  have hb := X.1.2.1
  have hi : meth.name = "<init>" := hi
  have hl : lv_has ls 1 [(0, .ref p0)] := hl
  obtain ⟨tag, htg⟩ : ∃ t : Nat → Nat, t = tag0 := ⟨_, rfl⟩
  obtain ⟨L, hLL⟩ : ∃ t : List Nat, t = L0 := ⟨_, rfl⟩
  obtain ⟨F, hFF⟩ : ∃ t : Nat → va_E, t = Fo := ⟨_, rfl⟩
  have hE : EXTR p0 tag0 L0 Fo (tag, L, F) := by rw [htg, hLL, hFF]; exact EXTR.rf
  rw [← htg, ← hLL, ← hFF] at hT
  have m0 : p0 ∈ L := by rw [hLL]; exact m0
  have g0 : tag p0 = 51 := by rw [htg]; exact g0
  rw [← hFF] at f0_0 f0_1
  refine lv_aload_n hx hb dX0_init_0 rfl (lv_at hl 0 rfl) ?_
  refine m_objI X hl qw_87 qw_11 qw_12 dX0_init_1 (Nat.le_of_ble_eq_true rfl) (Nat.le_of_ble_eq_true rfl) ?_
  refine lv_aload_n hx hb dX0_init_4 rfl (lv_at hl 0 rfl) ?_
  refine lv_bipush (v := 48) hx hb dX0_init_5 (by decide) ?_
  refine t_newa (atype := .int) (a0 := (48, .inl (fun _ => 0))) (t := 12) X hT 0 rfl qw_13 (fun _ => rfl) (by decide) (by decide) (Nat.le_of_ble_eq_true rfl) (Nat.le_of_ble_eq_true rfl) (Nat.le_of_ble_eq_true rfl) dX0_init_7 (fun t9 l9 => (show okA G t9 l9 (0, 48, fun _ => ((-2147483648), 2147483647)) (.inl (G.2 0, (48, .inl (fun _ => 0)))) from ⟨_, rfl, fun _ _ => ⟨show ((-2147483648) : Int) ≤ (0 : Int32).toInt from by decide, show (0 : Int32).toInt ≤ (2147483647 : Int) from by decide⟩⟩)) (fun q1 tag L F H hT mq1 gq1 kq1 Fq1 hEq1 hxq1 => ?_)
  have f0_0 := (((hxq1 _ m0).2 0).1).trans f0_0
  have f0_1 := (((hxq1 _ m0).2 1).1).trans f0_1
  have g0 := (hxq1 _ m0).1.trans g0
  have zq1 : ∀ b ∈ L0, b ≠ q1 := fun b hb h => kq1 (h ▸ (hE.1 b hb).1)
  have nq1_p0 : p0 ≠ q1 := fun h => kq1 (h ▸ m0)
  have hE := EXTR.tr hE hEq1 (fun b hb _ => zq1 b hb) (fun h => (hEq1.1 _ ((hE.1 _ h).1)).1)
  have m0 := (hEq1.1 _ m0).1
  refine t_putX (C := RX0) (T := TX0) (N := 2) (v := .ref q1) X hT m0 g0 rfl tyX0 tyX0_ok nmX0 rfl 0 (by decide) qw_88 inlX0 rfl (by first | rfl | decide) (by first | rfl | decide) rfl trivial dX0_init_9 (fun F H locs hT vu2 h1u2 h2u2 => ?_)
  have f0_1 := (h1u2 1 (by decide)).trans f0_1
  have hE := EXTR.tr (u := (tag, L, F)) hE (show EXTR p0 tag L _ (tag, L, F) from ⟨fun b hb => ⟨hb, fun _ => rfl⟩, fun b j _ hb => h2u2 b j hb⟩) (fun _ _ h => h) (fun h => (hE.1 _ h).1)
  refine lv_aload_n hx hb dX0_init_12 rfl (lv_at hl 0 rfl) ?_
  refine lv_bipush (v := 48) hx hb dX0_init_13 (by decide) ?_
  refine t_newa (atype := .int) (a0 := (48, .inl (fun _ => 0))) (t := 12) X hT 0 rfl qw_13 (fun _ => rfl) (by decide) (by decide) (Nat.le_of_ble_eq_true rfl) (Nat.le_of_ble_eq_true rfl) (Nat.le_of_ble_eq_true rfl) dX0_init_15 (fun t9 l9 => (show okA G t9 l9 (0, 48, fun _ => ((-2147483648), 2147483647)) (.inl (G.2 0, (48, .inl (fun _ => 0)))) from ⟨_, rfl, fun _ _ => ⟨show ((-2147483648) : Int) ≤ (0 : Int32).toInt from by decide, show (0 : Int32).toInt ≤ (2147483647 : Int) from by decide⟩⟩)) (fun q3 tag L F H hT mq3 gq3 kq3 Fq3 hEq3 hxq3 => ?_)
  have vu2 := (((hxq3 _ m0).2 0).1).trans vu2
  have f0_1 := (((hxq3 _ m0).2 1).1).trans f0_1
  have g0 := (hxq3 _ m0).1.trans g0
  have gq1 := (hxq3 _ mq1).1.trans gq1
  have zq3 : ∀ b ∈ L0, b ≠ q3 := fun b hb h => kq3 (h ▸ (hE.1 b hb).1)
  have nq3_p0 : p0 ≠ q3 := fun h => kq3 (h ▸ m0)
  have nq3_q1 : q1 ≠ q3 := fun h => kq3 (h ▸ mq1)
  have hE := EXTR.tr hE hEq3 (fun b hb _ => zq3 b hb) (fun h => (hEq3.1 _ ((hE.1 _ h).1)).1)
  have m0 := (hEq3.1 _ m0).1
  have mq1 := (hEq3.1 _ mq1).1
  refine t_putX (C := RX0) (T := TX0) (N := 2) (v := .ref q3) X hT m0 g0 rfl tyX0 tyX0_ok nmX0 rfl 1 (by decide) qw_89 inlX0 rfl (by first | rfl | decide) (by first | rfl | decide) rfl trivial dX0_init_17 (fun F H locs hT vu4 h1u4 h2u4 => ?_)
  have vu2 := (h1u4 0 (by decide)).trans vu2
  have hE := EXTR.tr (u := (tag, L, F)) hE (show EXTR p0 tag L _ (tag, L, F) from ⟨fun b hb => ⟨hb, fun _ => rfl⟩, fun b j _ hb => h2u4 b j hb⟩) (fun _ _ h => h) (fun h => (hE.1 _ h).1)
  have hT := th_done (t := 21) hT m0 g0 rfl rfl rfl (nl_of (by decide)) (fun k f hk => by
    match k, hk with
    | 0, hk => obtain rfl := Option.some.inj (show some ((1, 12, 0) : FT) = some f from hk); rw [vu2]; exact ⟨q1, rfl, mq1, by rw [tup_ne (tne gq1 g0 (by decide))]; rw [gq1]; rfl⟩
    | 1, hk => obtain rfl := Option.some.inj (show some ((1, 12, 0) : FT) = some f from hk); rw [vu4]; exact ⟨q3, rfl, mq3, by rw [tup_ne (tne gq3 g0 (by decide))]; rw [gq3]; rfl⟩
    | k + 2, hk => exact absurd hk (by simp))
  exact t_vreta hQ X hT ⟨extr_re hE, m0, tup_self⟩ (Nat.le_of_ble_eq_true rfl) (Nat.le_of_ble_eq_true rfl) dX0_init_20
set_option maxHeartbeats 4000000 in
set_option maxRecDepth 100000 in
theorem ka_X9_init (l : Launch) (G : KG) (tag0 : Nat → Nat) (L0 : List Nat) (Fo : Nat → va_E) (ho : okT G ttC tag0 L0 Fo) (p0 : Nat) (m0 : p0 ∈ L0) (g0 : tag0 p0 = 52) (f0_0 : fld Fo p0 0 = .null) (f0_1 : fld Fo p0 1 = .null) (f0_2 : fld Fo p0 2 = .int 0) (f0_3 : fld Fo p0 3 = .null) (f0_4 : fld Fo p0 4 = .null) (f0_5 : fld Fo p0 5 = .null) : TMa l yX9_init cX9_init 1 { frames := 1, cells := 5, slots := 30, locals := 12 } G ttC tag0 L0 Fo [.ref p0] (fun u => EXTR p0 tag0 L0 Fo u ∧ p0 ∈ u.2.1 ∧ u.1 p0 = 22) := by
  refine t_bodya (y := yX9_init) (cd := cX9_init) (mL := 1) (rm := { frames := 1, cells := 5, slots := 30, locals := 12 }) (av := [.ref p0]) (by decide) (Nat.le_of_ble_eq_true rfl) ho ?_
  intro p e s m args below meth c ls A Q hQ X hi hT hl
  have hx := X.1.1
  have hb := X.1.2.1
  have hi : meth.name = "<init>" := hi
  have hl : lv_has ls 1 [(0, .ref p0)] := hl
  obtain ⟨tag, htg⟩ : ∃ t : Nat → Nat, t = tag0 := ⟨_, rfl⟩
  obtain ⟨L, hLL⟩ : ∃ t : List Nat, t = L0 := ⟨_, rfl⟩
  obtain ⟨F, hFF⟩ : ∃ t : Nat → va_E, t = Fo := ⟨_, rfl⟩
  have hE : EXTR p0 tag0 L0 Fo (tag, L, F) := by rw [htg, hLL, hFF]; exact EXTR.rf
  rw [← htg, ← hLL, ← hFF] at hT
  have m0 : p0 ∈ L := by rw [hLL]; exact m0
  have g0 : tag p0 = 52 := by rw [htg]; exact g0
  rw [← hFF] at f0_0 f0_1 f0_2 f0_3 f0_4 f0_5
  refine lv_aload_n hx hb dX9_init_0 rfl (lv_at hl 0 rfl) ?_
  refine m_objI X hl qw_92 qw_11 qw_12 dX9_init_1 (Nat.le_of_ble_eq_true rfl) (Nat.le_of_ble_eq_true rfl) ?_
  refine lv_aload_n hx hb dX9_init_4 rfl (lv_at hl 0 rfl) ?_
  refine lv_bipush (v := 6) hx hb dX9_init_5 (by decide) ?_
  refine t_newa (atype := .int) (a0 := (6, .inl (fun _ => 0))) (t := 11) X hT 0 rfl qw_13 (fun _ => rfl) (by decide) (by decide) (Nat.le_of_ble_eq_true rfl) (Nat.le_of_ble_eq_true rfl) (Nat.le_of_ble_eq_true rfl) dX9_init_7 (fun t9 l9 => (show okA G t9 l9 (0, 6, fun _ => (0, 5)) (.inl (G.2 0, (6, .inl (fun _ => 0)))) from ⟨_, rfl, fun _ _ => ⟨show (0 : Int) ≤ (0 : Int32).toInt from by decide, show (0 : Int32).toInt ≤ (5 : Int) from by decide⟩⟩)) (fun q1 tag L F H hT mq1 gq1 kq1 Fq1 hEq1 hxq1 => ?_)
  have f0_0 := (((hxq1 _ m0).2 0).1).trans f0_0
  have f0_1 := (((hxq1 _ m0).2 1).1).trans f0_1
  have f0_2 := (((hxq1 _ m0).2 2).1).trans f0_2
  have f0_3 := (((hxq1 _ m0).2 3).1).trans f0_3
  have f0_4 := (((hxq1 _ m0).2 4).1).trans f0_4
  have f0_5 := (((hxq1 _ m0).2 5).1).trans f0_5
  have g0 := (hxq1 _ m0).1.trans g0
  have zq1 : ∀ b ∈ L0, b ≠ q1 := fun b hb h => kq1 (h ▸ (hE.1 b hb).1)
  have nq1_p0 : p0 ≠ q1 := fun h => kq1 (h ▸ m0)
  have hE := EXTR.tr hE hEq1 (fun b hb _ => zq1 b hb) (fun h => (hEq1.1 _ ((hE.1 _ h).1)).1)
  have m0 := (hEq1.1 _ m0).1
  refine t_putF (C := RX9) (T := TX9) (N := 6) (v := .ref q1) X hi hT m0 g0 rfl tyX9 tyX9_ok nmX9 rfl 0 (by decide) qw_93 inlX9 rfl rfl (by first | rfl | decide) (by first | rfl | decide) rfl trivial dX9_init_9 (fun F H locs hT vu2 h1u2 h2u2 => ?_)
  have f0_1 := (h1u2 1 (by decide)).trans f0_1
  have f0_2 := (h1u2 2 (by decide)).trans f0_2
  have f0_3 := (h1u2 3 (by decide)).trans f0_3
  have f0_4 := (h1u2 4 (by decide)).trans f0_4
  have f0_5 := (h1u2 5 (by decide)).trans f0_5
  have hE := EXTR.tr (u := (tag, L, F)) hE (show EXTR p0 tag L _ (tag, L, F) from ⟨fun b hb => ⟨hb, fun _ => rfl⟩, fun b j _ hb => h2u2 b j hb⟩) (fun _ _ h => h) (fun h => (hE.1 _ h).1)
  refine lv_aload_n hx hb dX9_init_12 rfl (lv_at hl 0 rfl) ?_
  refine lv_bipush (v := 6) hx hb dX9_init_13 (by decide) ?_
  refine t_newa (atype := .int) (a0 := (6, .inl (fun _ => 0))) (t := 7) X hT 0 rfl qw_13 (fun _ => rfl) (by decide) (by decide) (Nat.le_of_ble_eq_true rfl) (Nat.le_of_ble_eq_true rfl) (Nat.le_of_ble_eq_true rfl) dX9_init_15 (fun t9 l9 => (show okA G t9 l9 (0, 6, fun _ => ((-2147483648), 2147483647)) (.inl (G.2 0, (6, .inl (fun _ => 0)))) from ⟨_, rfl, fun _ _ => ⟨show ((-2147483648) : Int) ≤ (0 : Int32).toInt from by decide, show (0 : Int32).toInt ≤ (2147483647 : Int) from by decide⟩⟩)) (fun q3 tag L F H hT mq3 gq3 kq3 Fq3 hEq3 hxq3 => ?_)
  have vu2 := (((hxq3 _ m0).2 0).1).trans vu2
  have f0_1 := (((hxq3 _ m0).2 1).1).trans f0_1
  have f0_2 := (((hxq3 _ m0).2 2).1).trans f0_2
  have f0_3 := (((hxq3 _ m0).2 3).1).trans f0_3
  have f0_4 := (((hxq3 _ m0).2 4).1).trans f0_4
  have f0_5 := (((hxq3 _ m0).2 5).1).trans f0_5
  have g0 := (hxq3 _ m0).1.trans g0
  have gq1 := (hxq3 _ mq1).1.trans gq1
  have zq3 : ∀ b ∈ L0, b ≠ q3 := fun b hb h => kq3 (h ▸ (hE.1 b hb).1)
  have nq3_p0 : p0 ≠ q3 := fun h => kq3 (h ▸ m0)
  have nq3_q1 : q1 ≠ q3 := fun h => kq3 (h ▸ mq1)
  have hE := EXTR.tr hE hEq3 (fun b hb _ => zq3 b hb) (fun h => (hEq3.1 _ ((hE.1 _ h).1)).1)
  have m0 := (hEq3.1 _ m0).1
  have mq1 := (hEq3.1 _ mq1).1
  refine t_putF (C := RX9) (T := TX9) (N := 6) (v := .ref q3) X hi hT m0 g0 rfl tyX9 tyX9_ok nmX9 rfl 1 (by decide) qw_94 inlX9 rfl rfl (by first | rfl | decide) (by first | rfl | decide) rfl trivial dX9_init_17 (fun F H locs hT vu4 h1u4 h2u4 => ?_)
  have vu2 := (h1u4 0 (by decide)).trans vu2
  have f0_2 := (h1u4 2 (by decide)).trans f0_2
  have f0_3 := (h1u4 3 (by decide)).trans f0_3
  have f0_4 := (h1u4 4 (by decide)).trans f0_4
  have f0_5 := (h1u4 5 (by decide)).trans f0_5
  have hE := EXTR.tr (u := (tag, L, F)) hE (show EXTR p0 tag L _ (tag, L, F) from ⟨fun b hb => ⟨hb, fun _ => rfl⟩, fun b j _ hb => h2u4 b j hb⟩) (fun _ _ h => h) (fun h => (hE.1 _ h).1)
  refine lv_aload_n hx hb dX9_init_20 rfl (lv_at hl 0 rfl) ?_
  refine lv_bipush (v := 6) hx hb dX9_init_21 (by decide) ?_
  refine t_newa (atype := .int) (a0 := (6, .inl (fun _ => 0))) (t := 7) X hT 0 rfl qw_13 (fun _ => rfl) (by decide) (by decide) (Nat.le_of_ble_eq_true rfl) (Nat.le_of_ble_eq_true rfl) (Nat.le_of_ble_eq_true rfl) dX9_init_23 (fun t9 l9 => (show okA G t9 l9 (0, 6, fun _ => ((-2147483648), 2147483647)) (.inl (G.2 0, (6, .inl (fun _ => 0)))) from ⟨_, rfl, fun _ _ => ⟨show ((-2147483648) : Int) ≤ (0 : Int32).toInt from by decide, show (0 : Int32).toInt ≤ (2147483647 : Int) from by decide⟩⟩)) (fun q5 tag L F H hT mq5 gq5 kq5 Fq5 hEq5 hxq5 => ?_)
  have vu2 := (((hxq5 _ m0).2 0).1).trans vu2
  have vu4 := (((hxq5 _ m0).2 1).1).trans vu4
  have f0_2 := (((hxq5 _ m0).2 2).1).trans f0_2
  have f0_3 := (((hxq5 _ m0).2 3).1).trans f0_3
  have f0_4 := (((hxq5 _ m0).2 4).1).trans f0_4
  have f0_5 := (((hxq5 _ m0).2 5).1).trans f0_5
  have g0 := (hxq5 _ m0).1.trans g0
  have gq1 := (hxq5 _ mq1).1.trans gq1
  have gq3 := (hxq5 _ mq3).1.trans gq3
  have zq5 : ∀ b ∈ L0, b ≠ q5 := fun b hb h => kq5 (h ▸ (hE.1 b hb).1)
  have nq5_p0 : p0 ≠ q5 := fun h => kq5 (h ▸ m0)
  have nq5_q1 : q1 ≠ q5 := fun h => kq5 (h ▸ mq1)
  have nq5_q3 : q3 ≠ q5 := fun h => kq5 (h ▸ mq3)
  have hE := EXTR.tr hE hEq5 (fun b hb _ => zq5 b hb) (fun h => (hEq5.1 _ ((hE.1 _ h).1)).1)
  have m0 := (hEq5.1 _ m0).1
  have mq1 := (hEq5.1 _ mq1).1
  have mq3 := (hEq5.1 _ mq3).1
  refine t_putF (C := RX9) (T := TX9) (N := 6) (v := .ref q5) X hi hT m0 g0 rfl tyX9 tyX9_ok nmX9 rfl 3 (by decide) qw_95 inlX9 rfl rfl (by first | rfl | decide) (by first | rfl | decide) rfl trivial dX9_init_25 (fun F H locs hT vu6 h1u6 h2u6 => ?_)
  have vu2 := (h1u6 0 (by decide)).trans vu2
  have vu4 := (h1u6 1 (by decide)).trans vu4
  have f0_2 := (h1u6 2 (by decide)).trans f0_2
  have f0_4 := (h1u6 4 (by decide)).trans f0_4
  have f0_5 := (h1u6 5 (by decide)).trans f0_5
  have hE := EXTR.tr (u := (tag, L, F)) hE (show EXTR p0 tag L _ (tag, L, F) from ⟨fun b hb => ⟨hb, fun _ => rfl⟩, fun b j _ hb => h2u6 b j hb⟩) (fun _ _ h => h) (fun h => (hE.1 _ h).1)
  refine lv_aload_n hx hb dX9_init_28 rfl (lv_at hl 0 rfl) ?_
  refine lv_bipush (v := 6) hx hb dX9_init_29 (by decide) ?_
  refine t_newa (atype := .int) (a0 := (6, .inl (fun _ => 0))) (t := 7) X hT 0 rfl qw_13 (fun _ => rfl) (by decide) (by decide) (Nat.le_of_ble_eq_true rfl) (Nat.le_of_ble_eq_true rfl) (Nat.le_of_ble_eq_true rfl) dX9_init_31 (fun t9 l9 => (show okA G t9 l9 (0, 6, fun _ => ((-2147483648), 2147483647)) (.inl (G.2 0, (6, .inl (fun _ => 0)))) from ⟨_, rfl, fun _ _ => ⟨show ((-2147483648) : Int) ≤ (0 : Int32).toInt from by decide, show (0 : Int32).toInt ≤ (2147483647 : Int) from by decide⟩⟩)) (fun q7 tag L F H hT mq7 gq7 kq7 Fq7 hEq7 hxq7 => ?_)
  have vu2 := (((hxq7 _ m0).2 0).1).trans vu2
  have vu4 := (((hxq7 _ m0).2 1).1).trans vu4
  have f0_2 := (((hxq7 _ m0).2 2).1).trans f0_2
  have vu6 := (((hxq7 _ m0).2 3).1).trans vu6
  have f0_4 := (((hxq7 _ m0).2 4).1).trans f0_4
  have f0_5 := (((hxq7 _ m0).2 5).1).trans f0_5
  have g0 := (hxq7 _ m0).1.trans g0
  have gq1 := (hxq7 _ mq1).1.trans gq1
  have gq3 := (hxq7 _ mq3).1.trans gq3
  have gq5 := (hxq7 _ mq5).1.trans gq5
  have zq7 : ∀ b ∈ L0, b ≠ q7 := fun b hb h => kq7 (h ▸ (hE.1 b hb).1)
  have nq7_p0 : p0 ≠ q7 := fun h => kq7 (h ▸ m0)
  have nq7_q1 : q1 ≠ q7 := fun h => kq7 (h ▸ mq1)
  have nq7_q3 : q3 ≠ q7 := fun h => kq7 (h ▸ mq3)
  have nq7_q5 : q5 ≠ q7 := fun h => kq7 (h ▸ mq5)
  have hE := EXTR.tr hE hEq7 (fun b hb _ => zq7 b hb) (fun h => (hEq7.1 _ ((hE.1 _ h).1)).1)
  have m0 := (hEq7.1 _ m0).1
  have mq1 := (hEq7.1 _ mq1).1
  have mq3 := (hEq7.1 _ mq3).1
  have mq5 := (hEq7.1 _ mq5).1
  refine t_putF (C := RX9) (T := TX9) (N := 6) (v := .ref q7) X hi hT m0 g0 rfl tyX9 tyX9_ok nmX9 rfl 4 (by decide) qw_96 inlX9 rfl rfl (by first | rfl | decide) (by first | rfl | decide) rfl trivial dX9_init_33 (fun F H locs hT vu8 h1u8 h2u8 => ?_)
  have vu2 := (h1u8 0 (by decide)).trans vu2
  have vu4 := (h1u8 1 (by decide)).trans vu4
  have f0_2 := (h1u8 2 (by decide)).trans f0_2
  have vu6 := (h1u8 3 (by decide)).trans vu6
  have f0_5 := (h1u8 5 (by decide)).trans f0_5
  have hE := EXTR.tr (u := (tag, L, F)) hE (show EXTR p0 tag L _ (tag, L, F) from ⟨fun b hb => ⟨hb, fun _ => rfl⟩, fun b j _ hb => h2u8 b j hb⟩) (fun _ _ h => h) (fun h => (hE.1 _ h).1)
  refine lv_aload_n hx hb dX9_init_36 rfl (lv_at hl 0 rfl) ?_
  refine lv_bipush (v := 6) hx hb dX9_init_37 (by decide) ?_
  refine t_newa (atype := .int) (a0 := (6, .inl (fun _ => 0))) (t := 7) X hT 0 rfl qw_13 (fun _ => rfl) (by decide) (by decide) (Nat.le_of_ble_eq_true rfl) (Nat.le_of_ble_eq_true rfl) (Nat.le_of_ble_eq_true rfl) dX9_init_39 (fun t9 l9 => (show okA G t9 l9 (0, 6, fun _ => ((-2147483648), 2147483647)) (.inl (G.2 0, (6, .inl (fun _ => 0)))) from ⟨_, rfl, fun _ _ => ⟨show ((-2147483648) : Int) ≤ (0 : Int32).toInt from by decide, show (0 : Int32).toInt ≤ (2147483647 : Int) from by decide⟩⟩)) (fun q9 tag L F H hT mq9 gq9 kq9 Fq9 hEq9 hxq9 => ?_)
  have vu2 := (((hxq9 _ m0).2 0).1).trans vu2
  have vu4 := (((hxq9 _ m0).2 1).1).trans vu4
  have f0_2 := (((hxq9 _ m0).2 2).1).trans f0_2
  have vu6 := (((hxq9 _ m0).2 3).1).trans vu6
  have vu8 := (((hxq9 _ m0).2 4).1).trans vu8
  have f0_5 := (((hxq9 _ m0).2 5).1).trans f0_5
  have g0 := (hxq9 _ m0).1.trans g0
  have gq1 := (hxq9 _ mq1).1.trans gq1
  have gq3 := (hxq9 _ mq3).1.trans gq3
  have gq5 := (hxq9 _ mq5).1.trans gq5
  have gq7 := (hxq9 _ mq7).1.trans gq7
  have zq9 : ∀ b ∈ L0, b ≠ q9 := fun b hb h => kq9 (h ▸ (hE.1 b hb).1)
  have nq9_p0 : p0 ≠ q9 := fun h => kq9 (h ▸ m0)
  have nq9_q1 : q1 ≠ q9 := fun h => kq9 (h ▸ mq1)
  have nq9_q3 : q3 ≠ q9 := fun h => kq9 (h ▸ mq3)
  have nq9_q5 : q5 ≠ q9 := fun h => kq9 (h ▸ mq5)
  have nq9_q7 : q7 ≠ q9 := fun h => kq9 (h ▸ mq7)
  have hE := EXTR.tr hE hEq9 (fun b hb _ => zq9 b hb) (fun h => (hEq9.1 _ ((hE.1 _ h).1)).1)
  have m0 := (hEq9.1 _ m0).1
  have mq1 := (hEq9.1 _ mq1).1
  have mq3 := (hEq9.1 _ mq3).1
  have mq5 := (hEq9.1 _ mq5).1
  have mq7 := (hEq9.1 _ mq7).1
  refine t_putF (C := RX9) (T := TX9) (N := 6) (v := .ref q9) X hi hT m0 g0 rfl tyX9 tyX9_ok nmX9 rfl 5 (by decide) qw_97 inlX9 rfl rfl (by first | rfl | decide) (by first | rfl | decide) rfl trivial dX9_init_41 (fun F H locs hT vu10 h1u10 h2u10 => ?_)
  have vu2 := (h1u10 0 (by decide)).trans vu2
  have vu4 := (h1u10 1 (by decide)).trans vu4
  have f0_2 := (h1u10 2 (by decide)).trans f0_2
  have vu6 := (h1u10 3 (by decide)).trans vu6
  have vu8 := (h1u10 4 (by decide)).trans vu8
  have hE := EXTR.tr (u := (tag, L, F)) hE (show EXTR p0 tag L _ (tag, L, F) from ⟨fun b hb => ⟨hb, fun _ => rfl⟩, fun b j _ hb => h2u10 b j hb⟩) (fun _ _ h => h) (fun h => (hE.1 _ h).1)
  have hT := th_done (t := 22) hT m0 g0 rfl rfl rfl (nl_of (by decide)) (fun k f hk => by
    match k, hk with
    | 0, hk => obtain rfl := Option.some.inj (show some ((1, 11, 0) : FT) = some f from hk); rw [vu2]; exact ⟨q1, rfl, mq1, by rw [tup_ne (tne gq1 g0 (by decide))]; rw [gq1]; rfl⟩
    | 1, hk => obtain rfl := Option.some.inj (show some ((1, 7, 0) : FT) = some f from hk); rw [vu4]; exact ⟨q3, rfl, mq3, by rw [tup_ne (tne gq3 g0 (by decide))]; rw [gq3]; rfl⟩
    | 2, hk => obtain rfl := Option.some.inj (show some ((0, (-2147483648), 2147483647) : FT) = some f from hk); rw [f0_2]; exact ⟨0, rfl, by decide, by decide⟩
    | 3, hk => obtain rfl := Option.some.inj (show some ((1, 7, 0) : FT) = some f from hk); rw [vu6]; exact ⟨q5, rfl, mq5, by rw [tup_ne (tne gq5 g0 (by decide))]; rw [gq5]; rfl⟩
    | 4, hk => obtain rfl := Option.some.inj (show some ((1, 7, 0) : FT) = some f from hk); rw [vu8]; exact ⟨q7, rfl, mq7, by rw [tup_ne (tne gq7 g0 (by decide))]; rw [gq7]; rfl⟩
    | 5, hk => obtain rfl := Option.some.inj (show some ((1, 7, 0) : FT) = some f from hk); rw [vu10]; exact ⟨q9, rfl, mq9, by rw [tup_ne (tne gq9 g0 (by decide))]; rw [gq9]; rfl⟩
    | k + 6, hk => exact absurd hk (by simp))
  exact t_vreta hQ X hT ⟨extr_re hE, m0, tup_self⟩ (Nat.le_of_ble_eq_true rfl) (Nat.le_of_ble_eq_true rfl) dX9_init_44
set_option maxHeartbeats 4000000 in
set_option maxRecDepth 100000 in
theorem ka_X2_init (l : Launch) (G : KG) (tag0 : Nat → Nat) (L0 : List Nat) (Fo : Nat → va_E) (ho : okT G ttC tag0 L0 Fo) (p0 : Nat) (m0 : p0 ∈ L0) (g0 : tag0 p0 = 53) (f0_0 : fld Fo p0 0 = .null) (f0_1 : fld Fo p0 1 = .null) (f0_2 : fld Fo p0 2 = .int 0) (f0_3 : fld Fo p0 3 = .int 0) (f0_4 : fld Fo p0 4 = .int 0) : TMa l yX2_init cX2_init 2 { frames := 2, cells := 80, slots := 2834, locals := 32 } G ttC tag0 L0 Fo [.ref p0] (fun u => EXTR p0 tag0 L0 Fo u ∧ p0 ∈ u.2.1 ∧ u.1 p0 = 23) := by
  refine t_bodya (y := yX2_init) (cd := cX2_init) (mL := 2) (rm := { frames := 2, cells := 80, slots := 2834, locals := 32 }) (av := [.ref p0]) (by decide) (Nat.le_of_ble_eq_true rfl) ho ?_
  intro p e s m args below meth c ls A Q hQ X hi hT hl
  have hx := X.1.1
  have hb := X.1.2.1
  have hi : meth.name = "<init>" := hi
  have hl : lv_has ls 2 [(0, .ref p0)] := hl
  obtain ⟨tag, htg⟩ : ∃ t : Nat → Nat, t = tag0 := ⟨_, rfl⟩
  obtain ⟨L, hLL⟩ : ∃ t : List Nat, t = L0 := ⟨_, rfl⟩
  obtain ⟨F, hFF⟩ : ∃ t : Nat → va_E, t = Fo := ⟨_, rfl⟩
  have hE : EXTR p0 tag0 L0 Fo (tag, L, F) := by rw [htg, hLL, hFF]; exact EXTR.rf
  rw [← htg, ← hLL, ← hFF] at hT
  have m0 : p0 ∈ L := by rw [hLL]; exact m0
  have g0 : tag p0 = 53 := by rw [htg]; exact g0
  rw [← hFF] at f0_0 f0_1 f0_2 f0_3 f0_4
  refine lv_aload_n hx hb dX2_init_0 rfl (lv_at hl 0 rfl) ?_
  refine m_objI X hl qw_101 qw_11 qw_12 dX2_init_1 (Nat.le_of_ble_eq_true rfl) (Nat.le_of_ble_eq_true rfl) ?_
  refine lv_aload_n hx hb dX2_init_4 rfl (lv_at hl 0 rfl) ?_
  refine lv_bipush (v := 10) hx hb dX2_init_5 (by decide) ?_
  refine t_newo (N' := 10) (t := 59) X hT qw_102 (by decide) (by decide) (Nat.le_of_ble_eq_true rfl) (Nat.le_of_ble_eq_true rfl) (Nat.le_of_ble_eq_true rfl) dX2_init_7 rfl (fun q1 tag L F H hT mq1 gq1 kq1 hEq1 hxq1 => ?_)
  have f0_0 := (((hxq1 _ m0).2 0).1).trans f0_0
  have f0_1 := (((hxq1 _ m0).2 1).1).trans f0_1
  have f0_2 := (((hxq1 _ m0).2 2).1).trans f0_2
  have f0_3 := (((hxq1 _ m0).2 3).1).trans f0_3
  have f0_4 := (((hxq1 _ m0).2 4).1).trans f0_4
  have g0 := (hxq1 _ m0).1.trans g0
  have zq1 : ∀ b ∈ L0, b ≠ q1 := fun b hb h => kq1 (h ▸ (hE.1 b hb).1)
  have nq1_p0 : p0 ≠ q1 := fun h => kq1 (h ▸ m0)
  have hE := EXTR.tr hE hEq1 (fun b hb _ => zq1 b hb) (fun h => (hEq1.1 _ ((hE.1 _ h).1)).1)
  have m0 := (hEq1.1 _ m0).1
  refine t_putF (C := RX2) (T := TX2) (N := 5) (v := .ref q1) X hi hT m0 g0 rfl tyX2 tyX2_ok nmX2 rfl 0 (by decide) qw_103 inlX2 rfl rfl (by first | rfl | decide) (by first | rfl | decide) rfl trivial dX2_init_10 (fun F H locs hT vu2 h1u2 h2u2 => ?_)
  have f0_1 := (h1u2 1 (by decide)).trans f0_1
  have f0_2 := (h1u2 2 (by decide)).trans f0_2
  have f0_3 := (h1u2 3 (by decide)).trans f0_3
  have f0_4 := (h1u2 4 (by decide)).trans f0_4
  have hE := EXTR.tr (u := (tag, L, F)) hE (show EXTR p0 tag L _ (tag, L, F) from ⟨fun b hb => ⟨hb, fun _ => rfl⟩, fun b j _ hb => h2u2 b j hb⟩) (fun _ _ h => h) (fun h => (hE.1 _ h).1)
  refine lv_aload_n hx hb dX2_init_13 rfl (lv_at hl 0 rfl) ?_
  refine lv_iconst (v := 3) hx hb dX2_init_14 (by decide) ?_
  refine t_newo (N' := 3) (t := 60) X hT qw_102 (by decide) (by decide) (Nat.le_of_ble_eq_true rfl) (Nat.le_of_ble_eq_true rfl) (Nat.le_of_ble_eq_true rfl) dX2_init_15 rfl (fun q3 tag L F H hT mq3 gq3 kq3 hEq3 hxq3 => ?_)
  have vu2 := (((hxq3 _ m0).2 0).1).trans vu2
  have f0_1 := (((hxq3 _ m0).2 1).1).trans f0_1
  have f0_2 := (((hxq3 _ m0).2 2).1).trans f0_2
  have f0_3 := (((hxq3 _ m0).2 3).1).trans f0_3
  have f0_4 := (((hxq3 _ m0).2 4).1).trans f0_4
  have g0 := (hxq3 _ m0).1.trans g0
  have gq1 := (hxq3 _ mq1).1.trans gq1
  have zq3 : ∀ b ∈ L0, b ≠ q3 := fun b hb h => kq3 (h ▸ (hE.1 b hb).1)
  have nq3_p0 : p0 ≠ q3 := fun h => kq3 (h ▸ m0)
  have nq3_q1 : q1 ≠ q3 := fun h => kq3 (h ▸ mq1)
  have hE := EXTR.tr hE hEq3 (fun b hb _ => zq3 b hb) (fun h => (hEq3.1 _ ((hE.1 _ h).1)).1)
  have m0 := (hEq3.1 _ m0).1
  have mq1 := (hEq3.1 _ mq1).1
  refine t_putF (C := RX2) (T := TX2) (N := 5) (v := .ref q3) X hi hT m0 g0 rfl tyX2 tyX2_ok nmX2 rfl 1 (by decide) qw_104 inlX2 rfl rfl (by first | rfl | decide) (by first | rfl | decide) rfl trivial dX2_init_18 (fun F H locs hT vu4 h1u4 h2u4 => ?_)
  have vu2 := (h1u4 0 (by decide)).trans vu2
  have f0_2 := (h1u4 2 (by decide)).trans f0_2
  have f0_3 := (h1u4 3 (by decide)).trans f0_3
  have f0_4 := (h1u4 4 (by decide)).trans f0_4
  have hE := EXTR.tr (u := (tag, L, F)) hE (show EXTR p0 tag L _ (tag, L, F) from ⟨fun b hb => ⟨hb, fun _ => rfl⟩, fun b j _ hb => h2u4 b j hb⟩) (fun _ _ h => h) (fun h => (hE.1 _ h).1)
  refine lv_iconst (v := 0) hx hb dX2_init_21 (by decide) ?_
  refine lv_istore_n (lv' := [(1, .int 0), (0, .ref p0)]) hx hb dX2_init_22 rfl hl (by decide) rfl (fun ls hl => ?_)
  refine lv_iload_n hx hb dX2_init_23 rfl (lv_at hl 0 rfl) ?_
  refine lv_bipush (v := 10) hx hb dX2_init_24 (by decide) ?_
  refine lv_icmp_ge (tgt := 48) hx hb dX2_init_26 (by decide) (fun c9 => absurd c9 (by decide)) (fun _ => ?_)
  refine lv_aload_n hx hb dX2_init_29 rfl (lv_at hl 1 rfl) ?_
  refine t_get (C := RX2) (T := TX2) (N := 5) X hT m0 g0 rfl rfl 0 (by decide) qw_103 inlX2 rfl dX2_init_30 (fun vu5 hu5 ou5 => ?_)
  obtain rfl : vu5 = .ref q1 := hu5.symm.trans vu2
  refine lv_iload_n hx hb dX2_init_33 rfl (lv_at hl 0 rfl) ?_
  refine t_new (C := RX7) (T := TX7) (N := 7) (ci := 4) (fs := [.int 0, .int 0, .null, .null, .null, .null, .null]) (t := 48) X hT tyX7 tyX7_ok inlX7 qw_102 qw_21 qw_22 rfl (by decide +kernel) (Nat.le_of_ble_eq_true rfl) (Nat.le_of_ble_eq_true rfl) dX2_init_34 rfl rfl (by decide) (fun q6 tag L F H hT mq6 gq6 kq6 Fq6 hEq6 hxq6 => ?_)
  have vu2 := (((hxq6 _ m0).2 0).1).trans vu2
  have vu4 := (((hxq6 _ m0).2 1).1).trans vu4
  have f0_2 := (((hxq6 _ m0).2 2).1).trans f0_2
  have f0_3 := (((hxq6 _ m0).2 3).1).trans f0_3
  have f0_4 := (((hxq6 _ m0).2 4).1).trans f0_4
  have g0 := (hxq6 _ m0).1.trans g0
  have gq1 := (hxq6 _ mq1).1.trans gq1
  have gq3 := (hxq6 _ mq3).1.trans gq3
  have zq6 : ∀ b ∈ L0, b ≠ q6 := fun b hb h => kq6 (h ▸ (hE.1 b hb).1)
  have nq6_p0 : p0 ≠ q6 := fun h => kq6 (h ▸ m0)
  have nq6_q1 : q1 ≠ q6 := fun h => kq6 (h ▸ mq1)
  have nq6_q3 : q3 ≠ q6 := fun h => kq6 (h ▸ mq3)
  have hE := EXTR.tr hE hEq6 (fun b hb _ => zq6 b hb) (fun h => (hEq6.1 _ ((hE.1 _ h).1)).1)
  have m0 := (hEq6.1 _ m0).1
  have mq1 := (hEq6.1 _ mq1).1
  have mq3 := (hEq6.1 _ mq3).1
  refine lv_dup hx hb dX2_init_37 rfl ?_
  refine t_caN (n := 0) (host := "YearSkins") (As := []) (rest := [.ref q6, .int 0, .ref q1]) X hT (ka_X7_init l G tag L F hT.2.2.2 q6 mq6 gq6 (by unfold fld; rw [Fq6]; rfl) (by unfold fld; rw [Fq6]; rfl) (by unfold fld; rw [Fq6]; rfl) (by unfold fld; rw [Fq6]; rfl) (by unfold fld; rw [Fq6]; rfl) (by unfold fld; rw [Fq6]; rfl) (by unfold fld; rw [Fq6]; rfl)) (List.mem_of_getElem? (i := 7) rfl) qw_59 qw_22 qw_60 rfl ⟨by decide +kernel, by decide +kernel, by decide +kernel⟩ ⟨(Nat.le_of_ble_eq_true rfl), (Nat.le_of_ble_eq_true rfl)⟩ hl rfl rfl (Nat.le_of_ble_eq_true rfl) dX2_init_38 ⟨(Nat.le_of_ble_eq_true rfl), (Nat.le_of_ble_eq_true rfl)⟩ (fun u7 H locs hT hu7 => ?_)
  obtain ⟨tag, L, F⟩ := u7
  have hT : TH G ttC A s tag L F H locs := hT
  obtain ⟨hEu7, mq6, gq6⟩ := hu7
  have mq6 : q6 ∈ L := mq6
  have gq6 : tag q6 = 19 := gq6
  have vu2 := ((hEu7.2 _ 0 m0 nq6_p0).1).trans vu2
  have vu4 := ((hEu7.2 _ 1 m0 nq6_p0).1).trans vu4
  have f0_2 := ((hEu7.2 _ 2 m0 nq6_p0).1).trans f0_2
  have f0_3 := ((hEu7.2 _ 3 m0 nq6_p0).1).trans f0_3
  have f0_4 := ((hEu7.2 _ 4 m0 nq6_p0).1).trans f0_4
  have g0 : tag p0 = 53 := ((hEu7.1 _ m0).2 nq6_p0).trans g0
  have gq1 : tag q1 = 59 := ((hEu7.1 _ mq1).2 nq6_q1).trans gq1
  have gq3 : tag q3 = 60 := ((hEu7.1 _ mq3).2 nq6_q3).trans gq3
  have hE := EXTR.tr hE hEu7 (fun b hb _ => zq6 b hb) (fun h => (hEu7.1 _ ((hE.1 _ h).1)).1)
  have m0 : p0 ∈ L := (hEu7.1 _ m0).1
  have mq1 : q1 ∈ L := (hEu7.1 _ mq1).1
  have mq3 : q3 ∈ L := (hEu7.1 _ mq3).1
  refine t_ast X hT mq1 gq1 rfl mq6 gq6 rfl (vin (by decide)) dX2_init_41 (fun F H locs hT vu8 h1u8 h2u8 => ?_)
  have vu2 := ((h2u8 _ 0 (tne g0 gq1 (by decide))).1).trans vu2
  have vu4 := ((h2u8 _ 1 (tne g0 gq1 (by decide))).1).trans vu4
  have f0_2 := ((h2u8 _ 2 (tne g0 gq1 (by decide))).1).trans f0_2
  have f0_3 := ((h2u8 _ 3 (tne g0 gq1 (by decide))).1).trans f0_3
  have f0_4 := ((h2u8 _ 4 (tne g0 gq1 (by decide))).1).trans f0_4
  have hE := EXTR.tr (q := q1) (u := (tag, L, F)) hE (show EXTR q1 tag L _ (tag, L, F) from ⟨fun b hb => ⟨hb, fun _ => rfl⟩, fun b j _ hb => h2u8 b j hb⟩) (fun b hb _ => zq1 b hb) (fun h => (hE.1 _ h).1)
  have vu8 : elr F q1 0 = some q6 := vu8
  refine lv_iinc (v := 1) (lv' := [(1, .int 1), (0, .ref p0)]) hx hb dX2_init_42 hl (k := 0) rfl (by decide) (by decide) rfl (fun ls hl => ?_)
  refine lv_goto (tgt := 23) hx hb dX2_init_45 (by decide) ?_
  refine lv_iload_n hx hb dX2_init_23 rfl (lv_at hl 0 rfl) ?_
  refine lv_bipush (v := 10) hx hb dX2_init_24 (by decide) ?_
  refine lv_icmp_ge (tgt := 48) hx hb dX2_init_26 (by decide) (fun c9 => absurd c9 (by decide)) (fun _ => ?_)
  refine lv_aload_n hx hb dX2_init_29 rfl (lv_at hl 1 rfl) ?_
  refine t_get (C := RX2) (T := TX2) (N := 5) X hT m0 g0 rfl rfl 0 (by decide) qw_103 inlX2 rfl dX2_init_30 (fun vu9 hu9 ou9 => ?_)
  obtain rfl : vu9 = .ref q1 := hu9.symm.trans vu2
  refine lv_iload_n hx hb dX2_init_33 rfl (lv_at hl 0 rfl) ?_
  refine t_new (C := RX7) (T := TX7) (N := 7) (ci := 4) (fs := [.int 0, .int 0, .null, .null, .null, .null, .null]) (t := 48) X hT tyX7 tyX7_ok inlX7 qw_102 qw_21 qw_22 rfl (by decide +kernel) (Nat.le_of_ble_eq_true rfl) (Nat.le_of_ble_eq_true rfl) dX2_init_34 rfl rfl (by decide) (fun q10 tag L F H hT mq10 gq10 kq10 Fq10 hEq10 hxq10 => ?_)
  have vu2 := (((hxq10 _ m0).2 0).1).trans vu2
  have vu4 := (((hxq10 _ m0).2 1).1).trans vu4
  have f0_2 := (((hxq10 _ m0).2 2).1).trans f0_2
  have f0_3 := (((hxq10 _ m0).2 3).1).trans f0_3
  have f0_4 := (((hxq10 _ m0).2 4).1).trans f0_4
  have vu8 := (((hxq10 _ mq1).2 0).2.2).trans vu8
  have g0 := (hxq10 _ m0).1.trans g0
  have gq1 := (hxq10 _ mq1).1.trans gq1
  have gq3 := (hxq10 _ mq3).1.trans gq3
  have gq6 := (hxq10 _ mq6).1.trans gq6
  have zq10 : ∀ b ∈ L0, b ≠ q10 := fun b hb h => kq10 (h ▸ (hE.1 b hb).1)
  have nq10_p0 : p0 ≠ q10 := fun h => kq10 (h ▸ m0)
  have nq10_q1 : q1 ≠ q10 := fun h => kq10 (h ▸ mq1)
  have nq10_q3 : q3 ≠ q10 := fun h => kq10 (h ▸ mq3)
  have nq10_q6 : q6 ≠ q10 := fun h => kq10 (h ▸ mq6)
  have hE := EXTR.tr hE hEq10 (fun b hb _ => zq10 b hb) (fun h => (hEq10.1 _ ((hE.1 _ h).1)).1)
  have m0 := (hEq10.1 _ m0).1
  have mq1 := (hEq10.1 _ mq1).1
  have mq3 := (hEq10.1 _ mq3).1
  have mq6 := (hEq10.1 _ mq6).1
  refine lv_dup hx hb dX2_init_37 rfl ?_
  refine t_caN (n := 0) (host := "YearSkins") (As := []) (rest := [.ref q10, .int 1, .ref q1]) X hT (ka_X7_init l G tag L F hT.2.2.2 q10 mq10 gq10 (by unfold fld; rw [Fq10]; rfl) (by unfold fld; rw [Fq10]; rfl) (by unfold fld; rw [Fq10]; rfl) (by unfold fld; rw [Fq10]; rfl) (by unfold fld; rw [Fq10]; rfl) (by unfold fld; rw [Fq10]; rfl) (by unfold fld; rw [Fq10]; rfl)) (List.mem_of_getElem? (i := 7) rfl) qw_59 qw_22 qw_60 rfl ⟨by decide +kernel, by decide +kernel, by decide +kernel⟩ ⟨(Nat.le_of_ble_eq_true rfl), (Nat.le_of_ble_eq_true rfl)⟩ hl rfl rfl (Nat.le_of_ble_eq_true rfl) dX2_init_38 ⟨(Nat.le_of_ble_eq_true rfl), (Nat.le_of_ble_eq_true rfl)⟩ (fun u11 H locs hT hu11 => ?_)
  obtain ⟨tag, L, F⟩ := u11
  have hT : TH G ttC A s tag L F H locs := hT
  obtain ⟨hEu11, mq10, gq10⟩ := hu11
  have mq10 : q10 ∈ L := mq10
  have gq10 : tag q10 = 19 := gq10
  have vu2 := ((hEu11.2 _ 0 m0 nq10_p0).1).trans vu2
  have vu4 := ((hEu11.2 _ 1 m0 nq10_p0).1).trans vu4
  have f0_2 := ((hEu11.2 _ 2 m0 nq10_p0).1).trans f0_2
  have f0_3 := ((hEu11.2 _ 3 m0 nq10_p0).1).trans f0_3
  have f0_4 := ((hEu11.2 _ 4 m0 nq10_p0).1).trans f0_4
  have vu8 := ((hEu11.2 _ 0 mq1 nq10_q1).2.2).trans vu8
  have g0 : tag p0 = 53 := ((hEu11.1 _ m0).2 nq10_p0).trans g0
  have gq1 : tag q1 = 59 := ((hEu11.1 _ mq1).2 nq10_q1).trans gq1
  have gq3 : tag q3 = 60 := ((hEu11.1 _ mq3).2 nq10_q3).trans gq3
  have gq6 : tag q6 = 19 := ((hEu11.1 _ mq6).2 nq10_q6).trans gq6
  have hE := EXTR.tr hE hEu11 (fun b hb _ => zq10 b hb) (fun h => (hEu11.1 _ ((hE.1 _ h).1)).1)
  have m0 : p0 ∈ L := (hEu11.1 _ m0).1
  have mq1 : q1 ∈ L := (hEu11.1 _ mq1).1
  have mq3 : q3 ∈ L := (hEu11.1 _ mq3).1
  have mq6 : q6 ∈ L := (hEu11.1 _ mq6).1
  refine t_ast X hT mq1 gq1 rfl mq10 gq10 rfl (vin (by decide)) dX2_init_41 (fun F H locs hT vu12 h1u12 h2u12 => ?_)
  have vu2 := ((h2u12 _ 0 (tne g0 gq1 (by decide))).1).trans vu2
  have vu4 := ((h2u12 _ 1 (tne g0 gq1 (by decide))).1).trans vu4
  have f0_2 := ((h2u12 _ 2 (tne g0 gq1 (by decide))).1).trans f0_2
  have f0_3 := ((h2u12 _ 3 (tne g0 gq1 (by decide))).1).trans f0_3
  have f0_4 := ((h2u12 _ 4 (tne g0 gq1 (by decide))).1).trans f0_4
  have vu8 := (h1u12 0 (by decide)).trans vu8
  have hE := EXTR.tr (q := q1) (u := (tag, L, F)) hE (show EXTR q1 tag L _ (tag, L, F) from ⟨fun b hb => ⟨hb, fun _ => rfl⟩, fun b j _ hb => h2u12 b j hb⟩) (fun b hb _ => zq1 b hb) (fun h => (hE.1 _ h).1)
  have vu12 : elr F q1 1 = some q10 := vu12
  refine lv_iinc (v := 2) (lv' := [(1, .int 2), (0, .ref p0)]) hx hb dX2_init_42 hl (k := 0) rfl (by decide) (by decide) rfl (fun ls hl => ?_)
  refine lv_goto (tgt := 23) hx hb dX2_init_45 (by decide) ?_
  refine lv_iload_n hx hb dX2_init_23 rfl (lv_at hl 0 rfl) ?_
  refine lv_bipush (v := 10) hx hb dX2_init_24 (by decide) ?_
  refine lv_icmp_ge (tgt := 48) hx hb dX2_init_26 (by decide) (fun c9 => absurd c9 (by decide)) (fun _ => ?_)
  refine lv_aload_n hx hb dX2_init_29 rfl (lv_at hl 1 rfl) ?_
  refine t_get (C := RX2) (T := TX2) (N := 5) X hT m0 g0 rfl rfl 0 (by decide) qw_103 inlX2 rfl dX2_init_30 (fun vu13 hu13 ou13 => ?_)
  obtain rfl : vu13 = .ref q1 := hu13.symm.trans vu2
  refine lv_iload_n hx hb dX2_init_33 rfl (lv_at hl 0 rfl) ?_
  refine t_new (C := RX7) (T := TX7) (N := 7) (ci := 4) (fs := [.int 0, .int 0, .null, .null, .null, .null, .null]) (t := 48) X hT tyX7 tyX7_ok inlX7 qw_102 qw_21 qw_22 rfl (by decide +kernel) (Nat.le_of_ble_eq_true rfl) (Nat.le_of_ble_eq_true rfl) dX2_init_34 rfl rfl (by decide) (fun q14 tag L F H hT mq14 gq14 kq14 Fq14 hEq14 hxq14 => ?_)
  have vu2 := (((hxq14 _ m0).2 0).1).trans vu2
  have vu4 := (((hxq14 _ m0).2 1).1).trans vu4
  have f0_2 := (((hxq14 _ m0).2 2).1).trans f0_2
  have f0_3 := (((hxq14 _ m0).2 3).1).trans f0_3
  have f0_4 := (((hxq14 _ m0).2 4).1).trans f0_4
  have vu8 := (((hxq14 _ mq1).2 0).2.2).trans vu8
  have vu12 := (((hxq14 _ mq1).2 1).2.2).trans vu12
  have g0 := (hxq14 _ m0).1.trans g0
  have gq1 := (hxq14 _ mq1).1.trans gq1
  have gq3 := (hxq14 _ mq3).1.trans gq3
  have gq6 := (hxq14 _ mq6).1.trans gq6
  have gq10 := (hxq14 _ mq10).1.trans gq10
  have zq14 : ∀ b ∈ L0, b ≠ q14 := fun b hb h => kq14 (h ▸ (hE.1 b hb).1)
  have nq14_p0 : p0 ≠ q14 := fun h => kq14 (h ▸ m0)
  have nq14_q1 : q1 ≠ q14 := fun h => kq14 (h ▸ mq1)
  have nq14_q3 : q3 ≠ q14 := fun h => kq14 (h ▸ mq3)
  have nq14_q6 : q6 ≠ q14 := fun h => kq14 (h ▸ mq6)
  have nq14_q10 : q10 ≠ q14 := fun h => kq14 (h ▸ mq10)
  have hE := EXTR.tr hE hEq14 (fun b hb _ => zq14 b hb) (fun h => (hEq14.1 _ ((hE.1 _ h).1)).1)
  have m0 := (hEq14.1 _ m0).1
  have mq1 := (hEq14.1 _ mq1).1
  have mq3 := (hEq14.1 _ mq3).1
  have mq6 := (hEq14.1 _ mq6).1
  have mq10 := (hEq14.1 _ mq10).1
  refine lv_dup hx hb dX2_init_37 rfl ?_
  refine t_caN (n := 0) (host := "YearSkins") (As := []) (rest := [.ref q14, .int 2, .ref q1]) X hT (ka_X7_init l G tag L F hT.2.2.2 q14 mq14 gq14 (by unfold fld; rw [Fq14]; rfl) (by unfold fld; rw [Fq14]; rfl) (by unfold fld; rw [Fq14]; rfl) (by unfold fld; rw [Fq14]; rfl) (by unfold fld; rw [Fq14]; rfl) (by unfold fld; rw [Fq14]; rfl) (by unfold fld; rw [Fq14]; rfl)) (List.mem_of_getElem? (i := 7) rfl) qw_59 qw_22 qw_60 rfl ⟨by decide +kernel, by decide +kernel, by decide +kernel⟩ ⟨(Nat.le_of_ble_eq_true rfl), (Nat.le_of_ble_eq_true rfl)⟩ hl rfl rfl (Nat.le_of_ble_eq_true rfl) dX2_init_38 ⟨(Nat.le_of_ble_eq_true rfl), (Nat.le_of_ble_eq_true rfl)⟩ (fun u15 H locs hT hu15 => ?_)
  obtain ⟨tag, L, F⟩ := u15
  have hT : TH G ttC A s tag L F H locs := hT
  obtain ⟨hEu15, mq14, gq14⟩ := hu15
  have mq14 : q14 ∈ L := mq14
  have gq14 : tag q14 = 19 := gq14
  have vu2 := ((hEu15.2 _ 0 m0 nq14_p0).1).trans vu2
  have vu4 := ((hEu15.2 _ 1 m0 nq14_p0).1).trans vu4
  have f0_2 := ((hEu15.2 _ 2 m0 nq14_p0).1).trans f0_2
  have f0_3 := ((hEu15.2 _ 3 m0 nq14_p0).1).trans f0_3
  have f0_4 := ((hEu15.2 _ 4 m0 nq14_p0).1).trans f0_4
  have vu8 := ((hEu15.2 _ 0 mq1 nq14_q1).2.2).trans vu8
  have vu12 := ((hEu15.2 _ 1 mq1 nq14_q1).2.2).trans vu12
  have g0 : tag p0 = 53 := ((hEu15.1 _ m0).2 nq14_p0).trans g0
  have gq1 : tag q1 = 59 := ((hEu15.1 _ mq1).2 nq14_q1).trans gq1
  have gq3 : tag q3 = 60 := ((hEu15.1 _ mq3).2 nq14_q3).trans gq3
  have gq6 : tag q6 = 19 := ((hEu15.1 _ mq6).2 nq14_q6).trans gq6
  have gq10 : tag q10 = 19 := ((hEu15.1 _ mq10).2 nq14_q10).trans gq10
  have hE := EXTR.tr hE hEu15 (fun b hb _ => zq14 b hb) (fun h => (hEu15.1 _ ((hE.1 _ h).1)).1)
  have m0 : p0 ∈ L := (hEu15.1 _ m0).1
  have mq1 : q1 ∈ L := (hEu15.1 _ mq1).1
  have mq3 : q3 ∈ L := (hEu15.1 _ mq3).1
  have mq6 : q6 ∈ L := (hEu15.1 _ mq6).1
  have mq10 : q10 ∈ L := (hEu15.1 _ mq10).1
  refine t_ast X hT mq1 gq1 rfl mq14 gq14 rfl (vin (by decide)) dX2_init_41 (fun F H locs hT vu16 h1u16 h2u16 => ?_)
  have vu2 := ((h2u16 _ 0 (tne g0 gq1 (by decide))).1).trans vu2
  have vu4 := ((h2u16 _ 1 (tne g0 gq1 (by decide))).1).trans vu4
  have f0_2 := ((h2u16 _ 2 (tne g0 gq1 (by decide))).1).trans f0_2
  have f0_3 := ((h2u16 _ 3 (tne g0 gq1 (by decide))).1).trans f0_3
  have f0_4 := ((h2u16 _ 4 (tne g0 gq1 (by decide))).1).trans f0_4
  have vu8 := (h1u16 0 (by decide)).trans vu8
  have vu12 := (h1u16 1 (by decide)).trans vu12
  have hE := EXTR.tr (q := q1) (u := (tag, L, F)) hE (show EXTR q1 tag L _ (tag, L, F) from ⟨fun b hb => ⟨hb, fun _ => rfl⟩, fun b j _ hb => h2u16 b j hb⟩) (fun b hb _ => zq1 b hb) (fun h => (hE.1 _ h).1)
  have vu16 : elr F q1 2 = some q14 := vu16
  refine lv_iinc (v := 3) (lv' := [(1, .int 3), (0, .ref p0)]) hx hb dX2_init_42 hl (k := 0) rfl (by decide) (by decide) rfl (fun ls hl => ?_)
  refine lv_goto (tgt := 23) hx hb dX2_init_45 (by decide) ?_
  refine lv_iload_n hx hb dX2_init_23 rfl (lv_at hl 0 rfl) ?_
  refine lv_bipush (v := 10) hx hb dX2_init_24 (by decide) ?_
  refine lv_icmp_ge (tgt := 48) hx hb dX2_init_26 (by decide) (fun c9 => absurd c9 (by decide)) (fun _ => ?_)
  refine lv_aload_n hx hb dX2_init_29 rfl (lv_at hl 1 rfl) ?_
  refine t_get (C := RX2) (T := TX2) (N := 5) X hT m0 g0 rfl rfl 0 (by decide) qw_103 inlX2 rfl dX2_init_30 (fun vu17 hu17 ou17 => ?_)
  obtain rfl : vu17 = .ref q1 := hu17.symm.trans vu2
  refine lv_iload_n hx hb dX2_init_33 rfl (lv_at hl 0 rfl) ?_
  refine t_new (C := RX7) (T := TX7) (N := 7) (ci := 4) (fs := [.int 0, .int 0, .null, .null, .null, .null, .null]) (t := 48) X hT tyX7 tyX7_ok inlX7 qw_102 qw_21 qw_22 rfl (by decide +kernel) (Nat.le_of_ble_eq_true rfl) (Nat.le_of_ble_eq_true rfl) dX2_init_34 rfl rfl (by decide) (fun q18 tag L F H hT mq18 gq18 kq18 Fq18 hEq18 hxq18 => ?_)
  have vu2 := (((hxq18 _ m0).2 0).1).trans vu2
  have vu4 := (((hxq18 _ m0).2 1).1).trans vu4
  have f0_2 := (((hxq18 _ m0).2 2).1).trans f0_2
  have f0_3 := (((hxq18 _ m0).2 3).1).trans f0_3
  have f0_4 := (((hxq18 _ m0).2 4).1).trans f0_4
  have vu8 := (((hxq18 _ mq1).2 0).2.2).trans vu8
  have vu12 := (((hxq18 _ mq1).2 1).2.2).trans vu12
  have vu16 := (((hxq18 _ mq1).2 2).2.2).trans vu16
  have g0 := (hxq18 _ m0).1.trans g0
  have gq1 := (hxq18 _ mq1).1.trans gq1
  have gq3 := (hxq18 _ mq3).1.trans gq3
  have gq6 := (hxq18 _ mq6).1.trans gq6
  have gq10 := (hxq18 _ mq10).1.trans gq10
  have gq14 := (hxq18 _ mq14).1.trans gq14
  have zq18 : ∀ b ∈ L0, b ≠ q18 := fun b hb h => kq18 (h ▸ (hE.1 b hb).1)
  have nq18_p0 : p0 ≠ q18 := fun h => kq18 (h ▸ m0)
  have nq18_q1 : q1 ≠ q18 := fun h => kq18 (h ▸ mq1)
  have nq18_q3 : q3 ≠ q18 := fun h => kq18 (h ▸ mq3)
  have nq18_q6 : q6 ≠ q18 := fun h => kq18 (h ▸ mq6)
  have nq18_q10 : q10 ≠ q18 := fun h => kq18 (h ▸ mq10)
  have nq18_q14 : q14 ≠ q18 := fun h => kq18 (h ▸ mq14)
  have hE := EXTR.tr hE hEq18 (fun b hb _ => zq18 b hb) (fun h => (hEq18.1 _ ((hE.1 _ h).1)).1)
  have m0 := (hEq18.1 _ m0).1
  have mq1 := (hEq18.1 _ mq1).1
  have mq3 := (hEq18.1 _ mq3).1
  have mq6 := (hEq18.1 _ mq6).1
  have mq10 := (hEq18.1 _ mq10).1
  have mq14 := (hEq18.1 _ mq14).1
  refine lv_dup hx hb dX2_init_37 rfl ?_
  refine t_caN (n := 0) (host := "YearSkins") (As := []) (rest := [.ref q18, .int 3, .ref q1]) X hT (ka_X7_init l G tag L F hT.2.2.2 q18 mq18 gq18 (by unfold fld; rw [Fq18]; rfl) (by unfold fld; rw [Fq18]; rfl) (by unfold fld; rw [Fq18]; rfl) (by unfold fld; rw [Fq18]; rfl) (by unfold fld; rw [Fq18]; rfl) (by unfold fld; rw [Fq18]; rfl) (by unfold fld; rw [Fq18]; rfl)) (List.mem_of_getElem? (i := 7) rfl) qw_59 qw_22 qw_60 rfl ⟨by decide +kernel, by decide +kernel, by decide +kernel⟩ ⟨(Nat.le_of_ble_eq_true rfl), (Nat.le_of_ble_eq_true rfl)⟩ hl rfl rfl (Nat.le_of_ble_eq_true rfl) dX2_init_38 ⟨(Nat.le_of_ble_eq_true rfl), (Nat.le_of_ble_eq_true rfl)⟩ (fun u19 H locs hT hu19 => ?_)
  obtain ⟨tag, L, F⟩ := u19
  have hT : TH G ttC A s tag L F H locs := hT
  obtain ⟨hEu19, mq18, gq18⟩ := hu19
  have mq18 : q18 ∈ L := mq18
  have gq18 : tag q18 = 19 := gq18
  have vu2 := ((hEu19.2 _ 0 m0 nq18_p0).1).trans vu2
  have vu4 := ((hEu19.2 _ 1 m0 nq18_p0).1).trans vu4
  have f0_2 := ((hEu19.2 _ 2 m0 nq18_p0).1).trans f0_2
  have f0_3 := ((hEu19.2 _ 3 m0 nq18_p0).1).trans f0_3
  have f0_4 := ((hEu19.2 _ 4 m0 nq18_p0).1).trans f0_4
  have vu8 := ((hEu19.2 _ 0 mq1 nq18_q1).2.2).trans vu8
  have vu12 := ((hEu19.2 _ 1 mq1 nq18_q1).2.2).trans vu12
  have vu16 := ((hEu19.2 _ 2 mq1 nq18_q1).2.2).trans vu16
  have g0 : tag p0 = 53 := ((hEu19.1 _ m0).2 nq18_p0).trans g0
  have gq1 : tag q1 = 59 := ((hEu19.1 _ mq1).2 nq18_q1).trans gq1
  have gq3 : tag q3 = 60 := ((hEu19.1 _ mq3).2 nq18_q3).trans gq3
  have gq6 : tag q6 = 19 := ((hEu19.1 _ mq6).2 nq18_q6).trans gq6
  have gq10 : tag q10 = 19 := ((hEu19.1 _ mq10).2 nq18_q10).trans gq10
  have gq14 : tag q14 = 19 := ((hEu19.1 _ mq14).2 nq18_q14).trans gq14
  have hE := EXTR.tr hE hEu19 (fun b hb _ => zq18 b hb) (fun h => (hEu19.1 _ ((hE.1 _ h).1)).1)
  have m0 : p0 ∈ L := (hEu19.1 _ m0).1
  have mq1 : q1 ∈ L := (hEu19.1 _ mq1).1
  have mq3 : q3 ∈ L := (hEu19.1 _ mq3).1
  have mq6 : q6 ∈ L := (hEu19.1 _ mq6).1
  have mq10 : q10 ∈ L := (hEu19.1 _ mq10).1
  have mq14 : q14 ∈ L := (hEu19.1 _ mq14).1
  refine t_ast X hT mq1 gq1 rfl mq18 gq18 rfl (vin (by decide)) dX2_init_41 (fun F H locs hT vu20 h1u20 h2u20 => ?_)
  have vu2 := ((h2u20 _ 0 (tne g0 gq1 (by decide))).1).trans vu2
  have vu4 := ((h2u20 _ 1 (tne g0 gq1 (by decide))).1).trans vu4
  have f0_2 := ((h2u20 _ 2 (tne g0 gq1 (by decide))).1).trans f0_2
  have f0_3 := ((h2u20 _ 3 (tne g0 gq1 (by decide))).1).trans f0_3
  have f0_4 := ((h2u20 _ 4 (tne g0 gq1 (by decide))).1).trans f0_4
  have vu8 := (h1u20 0 (by decide)).trans vu8
  have vu12 := (h1u20 1 (by decide)).trans vu12
  have vu16 := (h1u20 2 (by decide)).trans vu16
  have hE := EXTR.tr (q := q1) (u := (tag, L, F)) hE (show EXTR q1 tag L _ (tag, L, F) from ⟨fun b hb => ⟨hb, fun _ => rfl⟩, fun b j _ hb => h2u20 b j hb⟩) (fun b hb _ => zq1 b hb) (fun h => (hE.1 _ h).1)
  have vu20 : elr F q1 3 = some q18 := vu20
  refine lv_iinc (v := 4) (lv' := [(1, .int 4), (0, .ref p0)]) hx hb dX2_init_42 hl (k := 0) rfl (by decide) (by decide) rfl (fun ls hl => ?_)
  refine lv_goto (tgt := 23) hx hb dX2_init_45 (by decide) ?_
  refine lv_iload_n hx hb dX2_init_23 rfl (lv_at hl 0 rfl) ?_
  refine lv_bipush (v := 10) hx hb dX2_init_24 (by decide) ?_
  refine lv_icmp_ge (tgt := 48) hx hb dX2_init_26 (by decide) (fun c9 => absurd c9 (by decide)) (fun _ => ?_)
  refine lv_aload_n hx hb dX2_init_29 rfl (lv_at hl 1 rfl) ?_
  refine t_get (C := RX2) (T := TX2) (N := 5) X hT m0 g0 rfl rfl 0 (by decide) qw_103 inlX2 rfl dX2_init_30 (fun vu21 hu21 ou21 => ?_)
  obtain rfl : vu21 = .ref q1 := hu21.symm.trans vu2
  refine lv_iload_n hx hb dX2_init_33 rfl (lv_at hl 0 rfl) ?_
  refine t_new (C := RX7) (T := TX7) (N := 7) (ci := 4) (fs := [.int 0, .int 0, .null, .null, .null, .null, .null]) (t := 48) X hT tyX7 tyX7_ok inlX7 qw_102 qw_21 qw_22 rfl (by decide +kernel) (Nat.le_of_ble_eq_true rfl) (Nat.le_of_ble_eq_true rfl) dX2_init_34 rfl rfl (by decide) (fun q22 tag L F H hT mq22 gq22 kq22 Fq22 hEq22 hxq22 => ?_)
  have vu2 := (((hxq22 _ m0).2 0).1).trans vu2
  have vu4 := (((hxq22 _ m0).2 1).1).trans vu4
  have f0_2 := (((hxq22 _ m0).2 2).1).trans f0_2
  have f0_3 := (((hxq22 _ m0).2 3).1).trans f0_3
  have f0_4 := (((hxq22 _ m0).2 4).1).trans f0_4
  have vu8 := (((hxq22 _ mq1).2 0).2.2).trans vu8
  have vu12 := (((hxq22 _ mq1).2 1).2.2).trans vu12
  have vu16 := (((hxq22 _ mq1).2 2).2.2).trans vu16
  have vu20 := (((hxq22 _ mq1).2 3).2.2).trans vu20
  have g0 := (hxq22 _ m0).1.trans g0
  have gq1 := (hxq22 _ mq1).1.trans gq1
  have gq3 := (hxq22 _ mq3).1.trans gq3
  have gq6 := (hxq22 _ mq6).1.trans gq6
  have gq10 := (hxq22 _ mq10).1.trans gq10
  have gq14 := (hxq22 _ mq14).1.trans gq14
  have gq18 := (hxq22 _ mq18).1.trans gq18
  have zq22 : ∀ b ∈ L0, b ≠ q22 := fun b hb h => kq22 (h ▸ (hE.1 b hb).1)
  have nq22_p0 : p0 ≠ q22 := fun h => kq22 (h ▸ m0)
  have nq22_q1 : q1 ≠ q22 := fun h => kq22 (h ▸ mq1)
  have nq22_q3 : q3 ≠ q22 := fun h => kq22 (h ▸ mq3)
  have nq22_q6 : q6 ≠ q22 := fun h => kq22 (h ▸ mq6)
  have nq22_q10 : q10 ≠ q22 := fun h => kq22 (h ▸ mq10)
  have nq22_q14 : q14 ≠ q22 := fun h => kq22 (h ▸ mq14)
  have nq22_q18 : q18 ≠ q22 := fun h => kq22 (h ▸ mq18)
  have hE := EXTR.tr hE hEq22 (fun b hb _ => zq22 b hb) (fun h => (hEq22.1 _ ((hE.1 _ h).1)).1)
  have m0 := (hEq22.1 _ m0).1
  have mq1 := (hEq22.1 _ mq1).1
  have mq3 := (hEq22.1 _ mq3).1
  have mq6 := (hEq22.1 _ mq6).1
  have mq10 := (hEq22.1 _ mq10).1
  have mq14 := (hEq22.1 _ mq14).1
  have mq18 := (hEq22.1 _ mq18).1
  refine lv_dup hx hb dX2_init_37 rfl ?_
  refine t_caN (n := 0) (host := "YearSkins") (As := []) (rest := [.ref q22, .int 4, .ref q1]) X hT (ka_X7_init l G tag L F hT.2.2.2 q22 mq22 gq22 (by unfold fld; rw [Fq22]; rfl) (by unfold fld; rw [Fq22]; rfl) (by unfold fld; rw [Fq22]; rfl) (by unfold fld; rw [Fq22]; rfl) (by unfold fld; rw [Fq22]; rfl) (by unfold fld; rw [Fq22]; rfl) (by unfold fld; rw [Fq22]; rfl)) (List.mem_of_getElem? (i := 7) rfl) qw_59 qw_22 qw_60 rfl ⟨by decide +kernel, by decide +kernel, by decide +kernel⟩ ⟨(Nat.le_of_ble_eq_true rfl), (Nat.le_of_ble_eq_true rfl)⟩ hl rfl rfl (Nat.le_of_ble_eq_true rfl) dX2_init_38 ⟨(Nat.le_of_ble_eq_true rfl), (Nat.le_of_ble_eq_true rfl)⟩ (fun u23 H locs hT hu23 => ?_)
  obtain ⟨tag, L, F⟩ := u23
  have hT : TH G ttC A s tag L F H locs := hT
  obtain ⟨hEu23, mq22, gq22⟩ := hu23
  have mq22 : q22 ∈ L := mq22
  have gq22 : tag q22 = 19 := gq22
  have vu2 := ((hEu23.2 _ 0 m0 nq22_p0).1).trans vu2
  have vu4 := ((hEu23.2 _ 1 m0 nq22_p0).1).trans vu4
  have f0_2 := ((hEu23.2 _ 2 m0 nq22_p0).1).trans f0_2
  have f0_3 := ((hEu23.2 _ 3 m0 nq22_p0).1).trans f0_3
  have f0_4 := ((hEu23.2 _ 4 m0 nq22_p0).1).trans f0_4
  have vu8 := ((hEu23.2 _ 0 mq1 nq22_q1).2.2).trans vu8
  have vu12 := ((hEu23.2 _ 1 mq1 nq22_q1).2.2).trans vu12
  have vu16 := ((hEu23.2 _ 2 mq1 nq22_q1).2.2).trans vu16
  have vu20 := ((hEu23.2 _ 3 mq1 nq22_q1).2.2).trans vu20
  have g0 : tag p0 = 53 := ((hEu23.1 _ m0).2 nq22_p0).trans g0
  have gq1 : tag q1 = 59 := ((hEu23.1 _ mq1).2 nq22_q1).trans gq1
  have gq3 : tag q3 = 60 := ((hEu23.1 _ mq3).2 nq22_q3).trans gq3
  have gq6 : tag q6 = 19 := ((hEu23.1 _ mq6).2 nq22_q6).trans gq6
  have gq10 : tag q10 = 19 := ((hEu23.1 _ mq10).2 nq22_q10).trans gq10
  have gq14 : tag q14 = 19 := ((hEu23.1 _ mq14).2 nq22_q14).trans gq14
  have gq18 : tag q18 = 19 := ((hEu23.1 _ mq18).2 nq22_q18).trans gq18
  have hE := EXTR.tr hE hEu23 (fun b hb _ => zq22 b hb) (fun h => (hEu23.1 _ ((hE.1 _ h).1)).1)
  have m0 : p0 ∈ L := (hEu23.1 _ m0).1
  have mq1 : q1 ∈ L := (hEu23.1 _ mq1).1
  have mq3 : q3 ∈ L := (hEu23.1 _ mq3).1
  have mq6 : q6 ∈ L := (hEu23.1 _ mq6).1
  have mq10 : q10 ∈ L := (hEu23.1 _ mq10).1
  have mq14 : q14 ∈ L := (hEu23.1 _ mq14).1
  have mq18 : q18 ∈ L := (hEu23.1 _ mq18).1
  refine t_ast X hT mq1 gq1 rfl mq22 gq22 rfl (vin (by decide)) dX2_init_41 (fun F H locs hT vu24 h1u24 h2u24 => ?_)
  have vu2 := ((h2u24 _ 0 (tne g0 gq1 (by decide))).1).trans vu2
  have vu4 := ((h2u24 _ 1 (tne g0 gq1 (by decide))).1).trans vu4
  have f0_2 := ((h2u24 _ 2 (tne g0 gq1 (by decide))).1).trans f0_2
  have f0_3 := ((h2u24 _ 3 (tne g0 gq1 (by decide))).1).trans f0_3
  have f0_4 := ((h2u24 _ 4 (tne g0 gq1 (by decide))).1).trans f0_4
  have vu8 := (h1u24 0 (by decide)).trans vu8
  have vu12 := (h1u24 1 (by decide)).trans vu12
  have vu16 := (h1u24 2 (by decide)).trans vu16
  have vu20 := (h1u24 3 (by decide)).trans vu20
  have hE := EXTR.tr (q := q1) (u := (tag, L, F)) hE (show EXTR q1 tag L _ (tag, L, F) from ⟨fun b hb => ⟨hb, fun _ => rfl⟩, fun b j _ hb => h2u24 b j hb⟩) (fun b hb _ => zq1 b hb) (fun h => (hE.1 _ h).1)
  have vu24 : elr F q1 4 = some q22 := vu24
  refine lv_iinc (v := 5) (lv' := [(1, .int 5), (0, .ref p0)]) hx hb dX2_init_42 hl (k := 0) rfl (by decide) (by decide) rfl (fun ls hl => ?_)
  refine lv_goto (tgt := 23) hx hb dX2_init_45 (by decide) ?_
  refine lv_iload_n hx hb dX2_init_23 rfl (lv_at hl 0 rfl) ?_
  refine lv_bipush (v := 10) hx hb dX2_init_24 (by decide) ?_
  refine lv_icmp_ge (tgt := 48) hx hb dX2_init_26 (by decide) (fun c9 => absurd c9 (by decide)) (fun _ => ?_)
  refine lv_aload_n hx hb dX2_init_29 rfl (lv_at hl 1 rfl) ?_
  refine t_get (C := RX2) (T := TX2) (N := 5) X hT m0 g0 rfl rfl 0 (by decide) qw_103 inlX2 rfl dX2_init_30 (fun vu25 hu25 ou25 => ?_)
  obtain rfl : vu25 = .ref q1 := hu25.symm.trans vu2
  refine lv_iload_n hx hb dX2_init_33 rfl (lv_at hl 0 rfl) ?_
  refine t_new (C := RX7) (T := TX7) (N := 7) (ci := 4) (fs := [.int 0, .int 0, .null, .null, .null, .null, .null]) (t := 48) X hT tyX7 tyX7_ok inlX7 qw_102 qw_21 qw_22 rfl (by decide +kernel) (Nat.le_of_ble_eq_true rfl) (Nat.le_of_ble_eq_true rfl) dX2_init_34 rfl rfl (by decide) (fun q26 tag L F H hT mq26 gq26 kq26 Fq26 hEq26 hxq26 => ?_)
  have vu2 := (((hxq26 _ m0).2 0).1).trans vu2
  have vu4 := (((hxq26 _ m0).2 1).1).trans vu4
  have f0_2 := (((hxq26 _ m0).2 2).1).trans f0_2
  have f0_3 := (((hxq26 _ m0).2 3).1).trans f0_3
  have f0_4 := (((hxq26 _ m0).2 4).1).trans f0_4
  have vu8 := (((hxq26 _ mq1).2 0).2.2).trans vu8
  have vu12 := (((hxq26 _ mq1).2 1).2.2).trans vu12
  have vu16 := (((hxq26 _ mq1).2 2).2.2).trans vu16
  have vu20 := (((hxq26 _ mq1).2 3).2.2).trans vu20
  have vu24 := (((hxq26 _ mq1).2 4).2.2).trans vu24
  have g0 := (hxq26 _ m0).1.trans g0
  have gq1 := (hxq26 _ mq1).1.trans gq1
  have gq3 := (hxq26 _ mq3).1.trans gq3
  have gq6 := (hxq26 _ mq6).1.trans gq6
  have gq10 := (hxq26 _ mq10).1.trans gq10
  have gq14 := (hxq26 _ mq14).1.trans gq14
  have gq18 := (hxq26 _ mq18).1.trans gq18
  have gq22 := (hxq26 _ mq22).1.trans gq22
  have zq26 : ∀ b ∈ L0, b ≠ q26 := fun b hb h => kq26 (h ▸ (hE.1 b hb).1)
  have nq26_p0 : p0 ≠ q26 := fun h => kq26 (h ▸ m0)
  have nq26_q1 : q1 ≠ q26 := fun h => kq26 (h ▸ mq1)
  have nq26_q3 : q3 ≠ q26 := fun h => kq26 (h ▸ mq3)
  have nq26_q6 : q6 ≠ q26 := fun h => kq26 (h ▸ mq6)
  have nq26_q10 : q10 ≠ q26 := fun h => kq26 (h ▸ mq10)
  have nq26_q14 : q14 ≠ q26 := fun h => kq26 (h ▸ mq14)
  have nq26_q18 : q18 ≠ q26 := fun h => kq26 (h ▸ mq18)
  have nq26_q22 : q22 ≠ q26 := fun h => kq26 (h ▸ mq22)
  have hE := EXTR.tr hE hEq26 (fun b hb _ => zq26 b hb) (fun h => (hEq26.1 _ ((hE.1 _ h).1)).1)
  have m0 := (hEq26.1 _ m0).1
  have mq1 := (hEq26.1 _ mq1).1
  have mq3 := (hEq26.1 _ mq3).1
  have mq6 := (hEq26.1 _ mq6).1
  have mq10 := (hEq26.1 _ mq10).1
  have mq14 := (hEq26.1 _ mq14).1
  have mq18 := (hEq26.1 _ mq18).1
  have mq22 := (hEq26.1 _ mq22).1
  refine lv_dup hx hb dX2_init_37 rfl ?_
  refine t_caN (n := 0) (host := "YearSkins") (As := []) (rest := [.ref q26, .int 5, .ref q1]) X hT (ka_X7_init l G tag L F hT.2.2.2 q26 mq26 gq26 (by unfold fld; rw [Fq26]; rfl) (by unfold fld; rw [Fq26]; rfl) (by unfold fld; rw [Fq26]; rfl) (by unfold fld; rw [Fq26]; rfl) (by unfold fld; rw [Fq26]; rfl) (by unfold fld; rw [Fq26]; rfl) (by unfold fld; rw [Fq26]; rfl)) (List.mem_of_getElem? (i := 7) rfl) qw_59 qw_22 qw_60 rfl ⟨by decide +kernel, by decide +kernel, by decide +kernel⟩ ⟨(Nat.le_of_ble_eq_true rfl), (Nat.le_of_ble_eq_true rfl)⟩ hl rfl rfl (Nat.le_of_ble_eq_true rfl) dX2_init_38 ⟨(Nat.le_of_ble_eq_true rfl), (Nat.le_of_ble_eq_true rfl)⟩ (fun u27 H locs hT hu27 => ?_)
  obtain ⟨tag, L, F⟩ := u27
  have hT : TH G ttC A s tag L F H locs := hT
  obtain ⟨hEu27, mq26, gq26⟩ := hu27
  have mq26 : q26 ∈ L := mq26
  have gq26 : tag q26 = 19 := gq26
  have vu2 := ((hEu27.2 _ 0 m0 nq26_p0).1).trans vu2
  have vu4 := ((hEu27.2 _ 1 m0 nq26_p0).1).trans vu4
  have f0_2 := ((hEu27.2 _ 2 m0 nq26_p0).1).trans f0_2
  have f0_3 := ((hEu27.2 _ 3 m0 nq26_p0).1).trans f0_3
  have f0_4 := ((hEu27.2 _ 4 m0 nq26_p0).1).trans f0_4
  have vu8 := ((hEu27.2 _ 0 mq1 nq26_q1).2.2).trans vu8
  have vu12 := ((hEu27.2 _ 1 mq1 nq26_q1).2.2).trans vu12
  have vu16 := ((hEu27.2 _ 2 mq1 nq26_q1).2.2).trans vu16
  have vu20 := ((hEu27.2 _ 3 mq1 nq26_q1).2.2).trans vu20
  have vu24 := ((hEu27.2 _ 4 mq1 nq26_q1).2.2).trans vu24
  have g0 : tag p0 = 53 := ((hEu27.1 _ m0).2 nq26_p0).trans g0
  have gq1 : tag q1 = 59 := ((hEu27.1 _ mq1).2 nq26_q1).trans gq1
  have gq3 : tag q3 = 60 := ((hEu27.1 _ mq3).2 nq26_q3).trans gq3
  have gq6 : tag q6 = 19 := ((hEu27.1 _ mq6).2 nq26_q6).trans gq6
  have gq10 : tag q10 = 19 := ((hEu27.1 _ mq10).2 nq26_q10).trans gq10
  have gq14 : tag q14 = 19 := ((hEu27.1 _ mq14).2 nq26_q14).trans gq14
  have gq18 : tag q18 = 19 := ((hEu27.1 _ mq18).2 nq26_q18).trans gq18
  have gq22 : tag q22 = 19 := ((hEu27.1 _ mq22).2 nq26_q22).trans gq22
  have hE := EXTR.tr hE hEu27 (fun b hb _ => zq26 b hb) (fun h => (hEu27.1 _ ((hE.1 _ h).1)).1)
  have m0 : p0 ∈ L := (hEu27.1 _ m0).1
  have mq1 : q1 ∈ L := (hEu27.1 _ mq1).1
  have mq3 : q3 ∈ L := (hEu27.1 _ mq3).1
  have mq6 : q6 ∈ L := (hEu27.1 _ mq6).1
  have mq10 : q10 ∈ L := (hEu27.1 _ mq10).1
  have mq14 : q14 ∈ L := (hEu27.1 _ mq14).1
  have mq18 : q18 ∈ L := (hEu27.1 _ mq18).1
  have mq22 : q22 ∈ L := (hEu27.1 _ mq22).1
  refine t_ast X hT mq1 gq1 rfl mq26 gq26 rfl (vin (by decide)) dX2_init_41 (fun F H locs hT vu28 h1u28 h2u28 => ?_)
  have vu2 := ((h2u28 _ 0 (tne g0 gq1 (by decide))).1).trans vu2
  have vu4 := ((h2u28 _ 1 (tne g0 gq1 (by decide))).1).trans vu4
  have f0_2 := ((h2u28 _ 2 (tne g0 gq1 (by decide))).1).trans f0_2
  have f0_3 := ((h2u28 _ 3 (tne g0 gq1 (by decide))).1).trans f0_3
  have f0_4 := ((h2u28 _ 4 (tne g0 gq1 (by decide))).1).trans f0_4
  have vu8 := (h1u28 0 (by decide)).trans vu8
  have vu12 := (h1u28 1 (by decide)).trans vu12
  have vu16 := (h1u28 2 (by decide)).trans vu16
  have vu20 := (h1u28 3 (by decide)).trans vu20
  have vu24 := (h1u28 4 (by decide)).trans vu24
  have hE := EXTR.tr (q := q1) (u := (tag, L, F)) hE (show EXTR q1 tag L _ (tag, L, F) from ⟨fun b hb => ⟨hb, fun _ => rfl⟩, fun b j _ hb => h2u28 b j hb⟩) (fun b hb _ => zq1 b hb) (fun h => (hE.1 _ h).1)
  have vu28 : elr F q1 5 = some q26 := vu28
  refine lv_iinc (v := 6) (lv' := [(1, .int 6), (0, .ref p0)]) hx hb dX2_init_42 hl (k := 0) rfl (by decide) (by decide) rfl (fun ls hl => ?_)
  refine lv_goto (tgt := 23) hx hb dX2_init_45 (by decide) ?_
  refine lv_iload_n hx hb dX2_init_23 rfl (lv_at hl 0 rfl) ?_
  refine lv_bipush (v := 10) hx hb dX2_init_24 (by decide) ?_
  refine lv_icmp_ge (tgt := 48) hx hb dX2_init_26 (by decide) (fun c9 => absurd c9 (by decide)) (fun _ => ?_)
  refine lv_aload_n hx hb dX2_init_29 rfl (lv_at hl 1 rfl) ?_
  refine t_get (C := RX2) (T := TX2) (N := 5) X hT m0 g0 rfl rfl 0 (by decide) qw_103 inlX2 rfl dX2_init_30 (fun vu29 hu29 ou29 => ?_)
  obtain rfl : vu29 = .ref q1 := hu29.symm.trans vu2
  refine lv_iload_n hx hb dX2_init_33 rfl (lv_at hl 0 rfl) ?_
  refine t_new (C := RX7) (T := TX7) (N := 7) (ci := 4) (fs := [.int 0, .int 0, .null, .null, .null, .null, .null]) (t := 48) X hT tyX7 tyX7_ok inlX7 qw_102 qw_21 qw_22 rfl (by decide +kernel) (Nat.le_of_ble_eq_true rfl) (Nat.le_of_ble_eq_true rfl) dX2_init_34 rfl rfl (by decide) (fun q30 tag L F H hT mq30 gq30 kq30 Fq30 hEq30 hxq30 => ?_)
  have vu2 := (((hxq30 _ m0).2 0).1).trans vu2
  have vu4 := (((hxq30 _ m0).2 1).1).trans vu4
  have f0_2 := (((hxq30 _ m0).2 2).1).trans f0_2
  have f0_3 := (((hxq30 _ m0).2 3).1).trans f0_3
  have f0_4 := (((hxq30 _ m0).2 4).1).trans f0_4
  have vu8 := (((hxq30 _ mq1).2 0).2.2).trans vu8
  have vu12 := (((hxq30 _ mq1).2 1).2.2).trans vu12
  have vu16 := (((hxq30 _ mq1).2 2).2.2).trans vu16
  have vu20 := (((hxq30 _ mq1).2 3).2.2).trans vu20
  have vu24 := (((hxq30 _ mq1).2 4).2.2).trans vu24
  have vu28 := (((hxq30 _ mq1).2 5).2.2).trans vu28
  have g0 := (hxq30 _ m0).1.trans g0
  have gq1 := (hxq30 _ mq1).1.trans gq1
  have gq3 := (hxq30 _ mq3).1.trans gq3
  have gq6 := (hxq30 _ mq6).1.trans gq6
  have gq10 := (hxq30 _ mq10).1.trans gq10
  have gq14 := (hxq30 _ mq14).1.trans gq14
  have gq18 := (hxq30 _ mq18).1.trans gq18
  have gq22 := (hxq30 _ mq22).1.trans gq22
  have gq26 := (hxq30 _ mq26).1.trans gq26
  have zq30 : ∀ b ∈ L0, b ≠ q30 := fun b hb h => kq30 (h ▸ (hE.1 b hb).1)
  have nq30_p0 : p0 ≠ q30 := fun h => kq30 (h ▸ m0)
  have nq30_q1 : q1 ≠ q30 := fun h => kq30 (h ▸ mq1)
  have nq30_q3 : q3 ≠ q30 := fun h => kq30 (h ▸ mq3)
  have nq30_q6 : q6 ≠ q30 := fun h => kq30 (h ▸ mq6)
  have nq30_q10 : q10 ≠ q30 := fun h => kq30 (h ▸ mq10)
  have nq30_q14 : q14 ≠ q30 := fun h => kq30 (h ▸ mq14)
  have nq30_q18 : q18 ≠ q30 := fun h => kq30 (h ▸ mq18)
  have nq30_q22 : q22 ≠ q30 := fun h => kq30 (h ▸ mq22)
  have nq30_q26 : q26 ≠ q30 := fun h => kq30 (h ▸ mq26)
  have hE := EXTR.tr hE hEq30 (fun b hb _ => zq30 b hb) (fun h => (hEq30.1 _ ((hE.1 _ h).1)).1)
  have m0 := (hEq30.1 _ m0).1
  have mq1 := (hEq30.1 _ mq1).1
  have mq3 := (hEq30.1 _ mq3).1
  have mq6 := (hEq30.1 _ mq6).1
  have mq10 := (hEq30.1 _ mq10).1
  have mq14 := (hEq30.1 _ mq14).1
  have mq18 := (hEq30.1 _ mq18).1
  have mq22 := (hEq30.1 _ mq22).1
  have mq26 := (hEq30.1 _ mq26).1
  refine lv_dup hx hb dX2_init_37 rfl ?_
  refine t_caN (n := 0) (host := "YearSkins") (As := []) (rest := [.ref q30, .int 6, .ref q1]) X hT (ka_X7_init l G tag L F hT.2.2.2 q30 mq30 gq30 (by unfold fld; rw [Fq30]; rfl) (by unfold fld; rw [Fq30]; rfl) (by unfold fld; rw [Fq30]; rfl) (by unfold fld; rw [Fq30]; rfl) (by unfold fld; rw [Fq30]; rfl) (by unfold fld; rw [Fq30]; rfl) (by unfold fld; rw [Fq30]; rfl)) (List.mem_of_getElem? (i := 7) rfl) qw_59 qw_22 qw_60 rfl ⟨by decide +kernel, by decide +kernel, by decide +kernel⟩ ⟨(Nat.le_of_ble_eq_true rfl), (Nat.le_of_ble_eq_true rfl)⟩ hl rfl rfl (Nat.le_of_ble_eq_true rfl) dX2_init_38 ⟨(Nat.le_of_ble_eq_true rfl), (Nat.le_of_ble_eq_true rfl)⟩ (fun u31 H locs hT hu31 => ?_)
  obtain ⟨tag, L, F⟩ := u31
  have hT : TH G ttC A s tag L F H locs := hT
  obtain ⟨hEu31, mq30, gq30⟩ := hu31
  have mq30 : q30 ∈ L := mq30
  have gq30 : tag q30 = 19 := gq30
  have vu2 := ((hEu31.2 _ 0 m0 nq30_p0).1).trans vu2
  have vu4 := ((hEu31.2 _ 1 m0 nq30_p0).1).trans vu4
  have f0_2 := ((hEu31.2 _ 2 m0 nq30_p0).1).trans f0_2
  have f0_3 := ((hEu31.2 _ 3 m0 nq30_p0).1).trans f0_3
  have f0_4 := ((hEu31.2 _ 4 m0 nq30_p0).1).trans f0_4
  have vu8 := ((hEu31.2 _ 0 mq1 nq30_q1).2.2).trans vu8
  have vu12 := ((hEu31.2 _ 1 mq1 nq30_q1).2.2).trans vu12
  have vu16 := ((hEu31.2 _ 2 mq1 nq30_q1).2.2).trans vu16
  have vu20 := ((hEu31.2 _ 3 mq1 nq30_q1).2.2).trans vu20
  have vu24 := ((hEu31.2 _ 4 mq1 nq30_q1).2.2).trans vu24
  have vu28 := ((hEu31.2 _ 5 mq1 nq30_q1).2.2).trans vu28
  have g0 : tag p0 = 53 := ((hEu31.1 _ m0).2 nq30_p0).trans g0
  have gq1 : tag q1 = 59 := ((hEu31.1 _ mq1).2 nq30_q1).trans gq1
  have gq3 : tag q3 = 60 := ((hEu31.1 _ mq3).2 nq30_q3).trans gq3
  have gq6 : tag q6 = 19 := ((hEu31.1 _ mq6).2 nq30_q6).trans gq6
  have gq10 : tag q10 = 19 := ((hEu31.1 _ mq10).2 nq30_q10).trans gq10
  have gq14 : tag q14 = 19 := ((hEu31.1 _ mq14).2 nq30_q14).trans gq14
  have gq18 : tag q18 = 19 := ((hEu31.1 _ mq18).2 nq30_q18).trans gq18
  have gq22 : tag q22 = 19 := ((hEu31.1 _ mq22).2 nq30_q22).trans gq22
  have gq26 : tag q26 = 19 := ((hEu31.1 _ mq26).2 nq30_q26).trans gq26
  have hE := EXTR.tr hE hEu31 (fun b hb _ => zq30 b hb) (fun h => (hEu31.1 _ ((hE.1 _ h).1)).1)
  have m0 : p0 ∈ L := (hEu31.1 _ m0).1
  have mq1 : q1 ∈ L := (hEu31.1 _ mq1).1
  have mq3 : q3 ∈ L := (hEu31.1 _ mq3).1
  have mq6 : q6 ∈ L := (hEu31.1 _ mq6).1
  have mq10 : q10 ∈ L := (hEu31.1 _ mq10).1
  have mq14 : q14 ∈ L := (hEu31.1 _ mq14).1
  have mq18 : q18 ∈ L := (hEu31.1 _ mq18).1
  have mq22 : q22 ∈ L := (hEu31.1 _ mq22).1
  have mq26 : q26 ∈ L := (hEu31.1 _ mq26).1
  refine t_ast X hT mq1 gq1 rfl mq30 gq30 rfl (vin (by decide)) dX2_init_41 (fun F H locs hT vu32 h1u32 h2u32 => ?_)
  have vu2 := ((h2u32 _ 0 (tne g0 gq1 (by decide))).1).trans vu2
  have vu4 := ((h2u32 _ 1 (tne g0 gq1 (by decide))).1).trans vu4
  have f0_2 := ((h2u32 _ 2 (tne g0 gq1 (by decide))).1).trans f0_2
  have f0_3 := ((h2u32 _ 3 (tne g0 gq1 (by decide))).1).trans f0_3
  have f0_4 := ((h2u32 _ 4 (tne g0 gq1 (by decide))).1).trans f0_4
  have vu8 := (h1u32 0 (by decide)).trans vu8
  have vu12 := (h1u32 1 (by decide)).trans vu12
  have vu16 := (h1u32 2 (by decide)).trans vu16
  have vu20 := (h1u32 3 (by decide)).trans vu20
  have vu24 := (h1u32 4 (by decide)).trans vu24
  have vu28 := (h1u32 5 (by decide)).trans vu28
  have hE := EXTR.tr (q := q1) (u := (tag, L, F)) hE (show EXTR q1 tag L _ (tag, L, F) from ⟨fun b hb => ⟨hb, fun _ => rfl⟩, fun b j _ hb => h2u32 b j hb⟩) (fun b hb _ => zq1 b hb) (fun h => (hE.1 _ h).1)
  have vu32 : elr F q1 6 = some q30 := vu32
  refine lv_iinc (v := 7) (lv' := [(1, .int 7), (0, .ref p0)]) hx hb dX2_init_42 hl (k := 0) rfl (by decide) (by decide) rfl (fun ls hl => ?_)
  refine lv_goto (tgt := 23) hx hb dX2_init_45 (by decide) ?_
  refine lv_iload_n hx hb dX2_init_23 rfl (lv_at hl 0 rfl) ?_
  refine lv_bipush (v := 10) hx hb dX2_init_24 (by decide) ?_
  refine lv_icmp_ge (tgt := 48) hx hb dX2_init_26 (by decide) (fun c9 => absurd c9 (by decide)) (fun _ => ?_)
  refine lv_aload_n hx hb dX2_init_29 rfl (lv_at hl 1 rfl) ?_
  refine t_get (C := RX2) (T := TX2) (N := 5) X hT m0 g0 rfl rfl 0 (by decide) qw_103 inlX2 rfl dX2_init_30 (fun vu33 hu33 ou33 => ?_)
  obtain rfl : vu33 = .ref q1 := hu33.symm.trans vu2
  refine lv_iload_n hx hb dX2_init_33 rfl (lv_at hl 0 rfl) ?_
  refine t_new (C := RX7) (T := TX7) (N := 7) (ci := 4) (fs := [.int 0, .int 0, .null, .null, .null, .null, .null]) (t := 48) X hT tyX7 tyX7_ok inlX7 qw_102 qw_21 qw_22 rfl (by decide +kernel) (Nat.le_of_ble_eq_true rfl) (Nat.le_of_ble_eq_true rfl) dX2_init_34 rfl rfl (by decide) (fun q34 tag L F H hT mq34 gq34 kq34 Fq34 hEq34 hxq34 => ?_)
  have vu2 := (((hxq34 _ m0).2 0).1).trans vu2
  have vu4 := (((hxq34 _ m0).2 1).1).trans vu4
  have f0_2 := (((hxq34 _ m0).2 2).1).trans f0_2
  have f0_3 := (((hxq34 _ m0).2 3).1).trans f0_3
  have f0_4 := (((hxq34 _ m0).2 4).1).trans f0_4
  have vu8 := (((hxq34 _ mq1).2 0).2.2).trans vu8
  have vu12 := (((hxq34 _ mq1).2 1).2.2).trans vu12
  have vu16 := (((hxq34 _ mq1).2 2).2.2).trans vu16
  have vu20 := (((hxq34 _ mq1).2 3).2.2).trans vu20
  have vu24 := (((hxq34 _ mq1).2 4).2.2).trans vu24
  have vu28 := (((hxq34 _ mq1).2 5).2.2).trans vu28
  have vu32 := (((hxq34 _ mq1).2 6).2.2).trans vu32
  have g0 := (hxq34 _ m0).1.trans g0
  have gq1 := (hxq34 _ mq1).1.trans gq1
  have gq3 := (hxq34 _ mq3).1.trans gq3
  have gq6 := (hxq34 _ mq6).1.trans gq6
  have gq10 := (hxq34 _ mq10).1.trans gq10
  have gq14 := (hxq34 _ mq14).1.trans gq14
  have gq18 := (hxq34 _ mq18).1.trans gq18
  have gq22 := (hxq34 _ mq22).1.trans gq22
  have gq26 := (hxq34 _ mq26).1.trans gq26
  have gq30 := (hxq34 _ mq30).1.trans gq30
  have zq34 : ∀ b ∈ L0, b ≠ q34 := fun b hb h => kq34 (h ▸ (hE.1 b hb).1)
  have nq34_p0 : p0 ≠ q34 := fun h => kq34 (h ▸ m0)
  have nq34_q1 : q1 ≠ q34 := fun h => kq34 (h ▸ mq1)
  have nq34_q3 : q3 ≠ q34 := fun h => kq34 (h ▸ mq3)
  have nq34_q6 : q6 ≠ q34 := fun h => kq34 (h ▸ mq6)
  have nq34_q10 : q10 ≠ q34 := fun h => kq34 (h ▸ mq10)
  have nq34_q14 : q14 ≠ q34 := fun h => kq34 (h ▸ mq14)
  have nq34_q18 : q18 ≠ q34 := fun h => kq34 (h ▸ mq18)
  have nq34_q22 : q22 ≠ q34 := fun h => kq34 (h ▸ mq22)
  have nq34_q26 : q26 ≠ q34 := fun h => kq34 (h ▸ mq26)
  have nq34_q30 : q30 ≠ q34 := fun h => kq34 (h ▸ mq30)
  have hE := EXTR.tr hE hEq34 (fun b hb _ => zq34 b hb) (fun h => (hEq34.1 _ ((hE.1 _ h).1)).1)
  have m0 := (hEq34.1 _ m0).1
  have mq1 := (hEq34.1 _ mq1).1
  have mq3 := (hEq34.1 _ mq3).1
  have mq6 := (hEq34.1 _ mq6).1
  have mq10 := (hEq34.1 _ mq10).1
  have mq14 := (hEq34.1 _ mq14).1
  have mq18 := (hEq34.1 _ mq18).1
  have mq22 := (hEq34.1 _ mq22).1
  have mq26 := (hEq34.1 _ mq26).1
  have mq30 := (hEq34.1 _ mq30).1
  refine lv_dup hx hb dX2_init_37 rfl ?_
  refine t_caN (n := 0) (host := "YearSkins") (As := []) (rest := [.ref q34, .int 7, .ref q1]) X hT (ka_X7_init l G tag L F hT.2.2.2 q34 mq34 gq34 (by unfold fld; rw [Fq34]; rfl) (by unfold fld; rw [Fq34]; rfl) (by unfold fld; rw [Fq34]; rfl) (by unfold fld; rw [Fq34]; rfl) (by unfold fld; rw [Fq34]; rfl) (by unfold fld; rw [Fq34]; rfl) (by unfold fld; rw [Fq34]; rfl)) (List.mem_of_getElem? (i := 7) rfl) qw_59 qw_22 qw_60 rfl ⟨by decide +kernel, by decide +kernel, by decide +kernel⟩ ⟨(Nat.le_of_ble_eq_true rfl), (Nat.le_of_ble_eq_true rfl)⟩ hl rfl rfl (Nat.le_of_ble_eq_true rfl) dX2_init_38 ⟨(Nat.le_of_ble_eq_true rfl), (Nat.le_of_ble_eq_true rfl)⟩ (fun u35 H locs hT hu35 => ?_)
  obtain ⟨tag, L, F⟩ := u35
  have hT : TH G ttC A s tag L F H locs := hT
  obtain ⟨hEu35, mq34, gq34⟩ := hu35
  have mq34 : q34 ∈ L := mq34
  have gq34 : tag q34 = 19 := gq34
  have vu2 := ((hEu35.2 _ 0 m0 nq34_p0).1).trans vu2
  have vu4 := ((hEu35.2 _ 1 m0 nq34_p0).1).trans vu4
  have f0_2 := ((hEu35.2 _ 2 m0 nq34_p0).1).trans f0_2
  have f0_3 := ((hEu35.2 _ 3 m0 nq34_p0).1).trans f0_3
  have f0_4 := ((hEu35.2 _ 4 m0 nq34_p0).1).trans f0_4
  have vu8 := ((hEu35.2 _ 0 mq1 nq34_q1).2.2).trans vu8
  have vu12 := ((hEu35.2 _ 1 mq1 nq34_q1).2.2).trans vu12
  have vu16 := ((hEu35.2 _ 2 mq1 nq34_q1).2.2).trans vu16
  have vu20 := ((hEu35.2 _ 3 mq1 nq34_q1).2.2).trans vu20
  have vu24 := ((hEu35.2 _ 4 mq1 nq34_q1).2.2).trans vu24
  have vu28 := ((hEu35.2 _ 5 mq1 nq34_q1).2.2).trans vu28
  have vu32 := ((hEu35.2 _ 6 mq1 nq34_q1).2.2).trans vu32
  have g0 : tag p0 = 53 := ((hEu35.1 _ m0).2 nq34_p0).trans g0
  have gq1 : tag q1 = 59 := ((hEu35.1 _ mq1).2 nq34_q1).trans gq1
  have gq3 : tag q3 = 60 := ((hEu35.1 _ mq3).2 nq34_q3).trans gq3
  have gq6 : tag q6 = 19 := ((hEu35.1 _ mq6).2 nq34_q6).trans gq6
  have gq10 : tag q10 = 19 := ((hEu35.1 _ mq10).2 nq34_q10).trans gq10
  have gq14 : tag q14 = 19 := ((hEu35.1 _ mq14).2 nq34_q14).trans gq14
  have gq18 : tag q18 = 19 := ((hEu35.1 _ mq18).2 nq34_q18).trans gq18
  have gq22 : tag q22 = 19 := ((hEu35.1 _ mq22).2 nq34_q22).trans gq22
  have gq26 : tag q26 = 19 := ((hEu35.1 _ mq26).2 nq34_q26).trans gq26
  have gq30 : tag q30 = 19 := ((hEu35.1 _ mq30).2 nq34_q30).trans gq30
  have hE := EXTR.tr hE hEu35 (fun b hb _ => zq34 b hb) (fun h => (hEu35.1 _ ((hE.1 _ h).1)).1)
  have m0 : p0 ∈ L := (hEu35.1 _ m0).1
  have mq1 : q1 ∈ L := (hEu35.1 _ mq1).1
  have mq3 : q3 ∈ L := (hEu35.1 _ mq3).1
  have mq6 : q6 ∈ L := (hEu35.1 _ mq6).1
  have mq10 : q10 ∈ L := (hEu35.1 _ mq10).1
  have mq14 : q14 ∈ L := (hEu35.1 _ mq14).1
  have mq18 : q18 ∈ L := (hEu35.1 _ mq18).1
  have mq22 : q22 ∈ L := (hEu35.1 _ mq22).1
  have mq26 : q26 ∈ L := (hEu35.1 _ mq26).1
  have mq30 : q30 ∈ L := (hEu35.1 _ mq30).1
  refine t_ast X hT mq1 gq1 rfl mq34 gq34 rfl (vin (by decide)) dX2_init_41 (fun F H locs hT vu36 h1u36 h2u36 => ?_)
  have vu2 := ((h2u36 _ 0 (tne g0 gq1 (by decide))).1).trans vu2
  have vu4 := ((h2u36 _ 1 (tne g0 gq1 (by decide))).1).trans vu4
  have f0_2 := ((h2u36 _ 2 (tne g0 gq1 (by decide))).1).trans f0_2
  have f0_3 := ((h2u36 _ 3 (tne g0 gq1 (by decide))).1).trans f0_3
  have f0_4 := ((h2u36 _ 4 (tne g0 gq1 (by decide))).1).trans f0_4
  have vu8 := (h1u36 0 (by decide)).trans vu8
  have vu12 := (h1u36 1 (by decide)).trans vu12
  have vu16 := (h1u36 2 (by decide)).trans vu16
  have vu20 := (h1u36 3 (by decide)).trans vu20
  have vu24 := (h1u36 4 (by decide)).trans vu24
  have vu28 := (h1u36 5 (by decide)).trans vu28
  have vu32 := (h1u36 6 (by decide)).trans vu32
  have hE := EXTR.tr (q := q1) (u := (tag, L, F)) hE (show EXTR q1 tag L _ (tag, L, F) from ⟨fun b hb => ⟨hb, fun _ => rfl⟩, fun b j _ hb => h2u36 b j hb⟩) (fun b hb _ => zq1 b hb) (fun h => (hE.1 _ h).1)
  have vu36 : elr F q1 7 = some q34 := vu36
  refine lv_iinc (v := 8) (lv' := [(1, .int 8), (0, .ref p0)]) hx hb dX2_init_42 hl (k := 0) rfl (by decide) (by decide) rfl (fun ls hl => ?_)
  refine lv_goto (tgt := 23) hx hb dX2_init_45 (by decide) ?_
  refine lv_iload_n hx hb dX2_init_23 rfl (lv_at hl 0 rfl) ?_
  refine lv_bipush (v := 10) hx hb dX2_init_24 (by decide) ?_
  refine lv_icmp_ge (tgt := 48) hx hb dX2_init_26 (by decide) (fun c9 => absurd c9 (by decide)) (fun _ => ?_)
  refine lv_aload_n hx hb dX2_init_29 rfl (lv_at hl 1 rfl) ?_
  refine t_get (C := RX2) (T := TX2) (N := 5) X hT m0 g0 rfl rfl 0 (by decide) qw_103 inlX2 rfl dX2_init_30 (fun vu37 hu37 ou37 => ?_)
  obtain rfl : vu37 = .ref q1 := hu37.symm.trans vu2
  refine lv_iload_n hx hb dX2_init_33 rfl (lv_at hl 0 rfl) ?_
  refine t_new (C := RX7) (T := TX7) (N := 7) (ci := 4) (fs := [.int 0, .int 0, .null, .null, .null, .null, .null]) (t := 48) X hT tyX7 tyX7_ok inlX7 qw_102 qw_21 qw_22 rfl (by decide +kernel) (Nat.le_of_ble_eq_true rfl) (Nat.le_of_ble_eq_true rfl) dX2_init_34 rfl rfl (by decide) (fun q38 tag L F H hT mq38 gq38 kq38 Fq38 hEq38 hxq38 => ?_)
  have vu2 := (((hxq38 _ m0).2 0).1).trans vu2
  have vu4 := (((hxq38 _ m0).2 1).1).trans vu4
  have f0_2 := (((hxq38 _ m0).2 2).1).trans f0_2
  have f0_3 := (((hxq38 _ m0).2 3).1).trans f0_3
  have f0_4 := (((hxq38 _ m0).2 4).1).trans f0_4
  have vu8 := (((hxq38 _ mq1).2 0).2.2).trans vu8
  have vu12 := (((hxq38 _ mq1).2 1).2.2).trans vu12
  have vu16 := (((hxq38 _ mq1).2 2).2.2).trans vu16
  have vu20 := (((hxq38 _ mq1).2 3).2.2).trans vu20
  have vu24 := (((hxq38 _ mq1).2 4).2.2).trans vu24
  have vu28 := (((hxq38 _ mq1).2 5).2.2).trans vu28
  have vu32 := (((hxq38 _ mq1).2 6).2.2).trans vu32
  have vu36 := (((hxq38 _ mq1).2 7).2.2).trans vu36
  have g0 := (hxq38 _ m0).1.trans g0
  have gq1 := (hxq38 _ mq1).1.trans gq1
  have gq3 := (hxq38 _ mq3).1.trans gq3
  have gq6 := (hxq38 _ mq6).1.trans gq6
  have gq10 := (hxq38 _ mq10).1.trans gq10
  have gq14 := (hxq38 _ mq14).1.trans gq14
  have gq18 := (hxq38 _ mq18).1.trans gq18
  have gq22 := (hxq38 _ mq22).1.trans gq22
  have gq26 := (hxq38 _ mq26).1.trans gq26
  have gq30 := (hxq38 _ mq30).1.trans gq30
  have gq34 := (hxq38 _ mq34).1.trans gq34
  have zq38 : ∀ b ∈ L0, b ≠ q38 := fun b hb h => kq38 (h ▸ (hE.1 b hb).1)
  have nq38_p0 : p0 ≠ q38 := fun h => kq38 (h ▸ m0)
  have nq38_q1 : q1 ≠ q38 := fun h => kq38 (h ▸ mq1)
  have nq38_q3 : q3 ≠ q38 := fun h => kq38 (h ▸ mq3)
  have nq38_q6 : q6 ≠ q38 := fun h => kq38 (h ▸ mq6)
  have nq38_q10 : q10 ≠ q38 := fun h => kq38 (h ▸ mq10)
  have nq38_q14 : q14 ≠ q38 := fun h => kq38 (h ▸ mq14)
  have nq38_q18 : q18 ≠ q38 := fun h => kq38 (h ▸ mq18)
  have nq38_q22 : q22 ≠ q38 := fun h => kq38 (h ▸ mq22)
  have nq38_q26 : q26 ≠ q38 := fun h => kq38 (h ▸ mq26)
  have nq38_q30 : q30 ≠ q38 := fun h => kq38 (h ▸ mq30)
  have nq38_q34 : q34 ≠ q38 := fun h => kq38 (h ▸ mq34)
  have hE := EXTR.tr hE hEq38 (fun b hb _ => zq38 b hb) (fun h => (hEq38.1 _ ((hE.1 _ h).1)).1)
  have m0 := (hEq38.1 _ m0).1
  have mq1 := (hEq38.1 _ mq1).1
  have mq3 := (hEq38.1 _ mq3).1
  have mq6 := (hEq38.1 _ mq6).1
  have mq10 := (hEq38.1 _ mq10).1
  have mq14 := (hEq38.1 _ mq14).1
  have mq18 := (hEq38.1 _ mq18).1
  have mq22 := (hEq38.1 _ mq22).1
  have mq26 := (hEq38.1 _ mq26).1
  have mq30 := (hEq38.1 _ mq30).1
  have mq34 := (hEq38.1 _ mq34).1
  refine lv_dup hx hb dX2_init_37 rfl ?_
  refine t_caN (n := 0) (host := "YearSkins") (As := []) (rest := [.ref q38, .int 8, .ref q1]) X hT (ka_X7_init l G tag L F hT.2.2.2 q38 mq38 gq38 (by unfold fld; rw [Fq38]; rfl) (by unfold fld; rw [Fq38]; rfl) (by unfold fld; rw [Fq38]; rfl) (by unfold fld; rw [Fq38]; rfl) (by unfold fld; rw [Fq38]; rfl) (by unfold fld; rw [Fq38]; rfl) (by unfold fld; rw [Fq38]; rfl)) (List.mem_of_getElem? (i := 7) rfl) qw_59 qw_22 qw_60 rfl ⟨by decide +kernel, by decide +kernel, by decide +kernel⟩ ⟨(Nat.le_of_ble_eq_true rfl), (Nat.le_of_ble_eq_true rfl)⟩ hl rfl rfl (Nat.le_of_ble_eq_true rfl) dX2_init_38 ⟨(Nat.le_of_ble_eq_true rfl), (Nat.le_of_ble_eq_true rfl)⟩ (fun u39 H locs hT hu39 => ?_)
  obtain ⟨tag, L, F⟩ := u39
  have hT : TH G ttC A s tag L F H locs := hT
  obtain ⟨hEu39, mq38, gq38⟩ := hu39
  have mq38 : q38 ∈ L := mq38
  have gq38 : tag q38 = 19 := gq38
  have vu2 := ((hEu39.2 _ 0 m0 nq38_p0).1).trans vu2
  have vu4 := ((hEu39.2 _ 1 m0 nq38_p0).1).trans vu4
  have f0_2 := ((hEu39.2 _ 2 m0 nq38_p0).1).trans f0_2
  have f0_3 := ((hEu39.2 _ 3 m0 nq38_p0).1).trans f0_3
  have f0_4 := ((hEu39.2 _ 4 m0 nq38_p0).1).trans f0_4
  have vu8 := ((hEu39.2 _ 0 mq1 nq38_q1).2.2).trans vu8
  have vu12 := ((hEu39.2 _ 1 mq1 nq38_q1).2.2).trans vu12
  have vu16 := ((hEu39.2 _ 2 mq1 nq38_q1).2.2).trans vu16
  have vu20 := ((hEu39.2 _ 3 mq1 nq38_q1).2.2).trans vu20
  have vu24 := ((hEu39.2 _ 4 mq1 nq38_q1).2.2).trans vu24
  have vu28 := ((hEu39.2 _ 5 mq1 nq38_q1).2.2).trans vu28
  have vu32 := ((hEu39.2 _ 6 mq1 nq38_q1).2.2).trans vu32
  have vu36 := ((hEu39.2 _ 7 mq1 nq38_q1).2.2).trans vu36
  have g0 : tag p0 = 53 := ((hEu39.1 _ m0).2 nq38_p0).trans g0
  have gq1 : tag q1 = 59 := ((hEu39.1 _ mq1).2 nq38_q1).trans gq1
  have gq3 : tag q3 = 60 := ((hEu39.1 _ mq3).2 nq38_q3).trans gq3
  have gq6 : tag q6 = 19 := ((hEu39.1 _ mq6).2 nq38_q6).trans gq6
  have gq10 : tag q10 = 19 := ((hEu39.1 _ mq10).2 nq38_q10).trans gq10
  have gq14 : tag q14 = 19 := ((hEu39.1 _ mq14).2 nq38_q14).trans gq14
  have gq18 : tag q18 = 19 := ((hEu39.1 _ mq18).2 nq38_q18).trans gq18
  have gq22 : tag q22 = 19 := ((hEu39.1 _ mq22).2 nq38_q22).trans gq22
  have gq26 : tag q26 = 19 := ((hEu39.1 _ mq26).2 nq38_q26).trans gq26
  have gq30 : tag q30 = 19 := ((hEu39.1 _ mq30).2 nq38_q30).trans gq30
  have gq34 : tag q34 = 19 := ((hEu39.1 _ mq34).2 nq38_q34).trans gq34
  have hE := EXTR.tr hE hEu39 (fun b hb _ => zq38 b hb) (fun h => (hEu39.1 _ ((hE.1 _ h).1)).1)
  have m0 : p0 ∈ L := (hEu39.1 _ m0).1
  have mq1 : q1 ∈ L := (hEu39.1 _ mq1).1
  have mq3 : q3 ∈ L := (hEu39.1 _ mq3).1
  have mq6 : q6 ∈ L := (hEu39.1 _ mq6).1
  have mq10 : q10 ∈ L := (hEu39.1 _ mq10).1
  have mq14 : q14 ∈ L := (hEu39.1 _ mq14).1
  have mq18 : q18 ∈ L := (hEu39.1 _ mq18).1
  have mq22 : q22 ∈ L := (hEu39.1 _ mq22).1
  have mq26 : q26 ∈ L := (hEu39.1 _ mq26).1
  have mq30 : q30 ∈ L := (hEu39.1 _ mq30).1
  have mq34 : q34 ∈ L := (hEu39.1 _ mq34).1
  refine t_ast X hT mq1 gq1 rfl mq38 gq38 rfl (vin (by decide)) dX2_init_41 (fun F H locs hT vu40 h1u40 h2u40 => ?_)
  have vu2 := ((h2u40 _ 0 (tne g0 gq1 (by decide))).1).trans vu2
  have vu4 := ((h2u40 _ 1 (tne g0 gq1 (by decide))).1).trans vu4
  have f0_2 := ((h2u40 _ 2 (tne g0 gq1 (by decide))).1).trans f0_2
  have f0_3 := ((h2u40 _ 3 (tne g0 gq1 (by decide))).1).trans f0_3
  have f0_4 := ((h2u40 _ 4 (tne g0 gq1 (by decide))).1).trans f0_4
  have vu8 := (h1u40 0 (by decide)).trans vu8
  have vu12 := (h1u40 1 (by decide)).trans vu12
  have vu16 := (h1u40 2 (by decide)).trans vu16
  have vu20 := (h1u40 3 (by decide)).trans vu20
  have vu24 := (h1u40 4 (by decide)).trans vu24
  have vu28 := (h1u40 5 (by decide)).trans vu28
  have vu32 := (h1u40 6 (by decide)).trans vu32
  have vu36 := (h1u40 7 (by decide)).trans vu36
  have hE := EXTR.tr (q := q1) (u := (tag, L, F)) hE (show EXTR q1 tag L _ (tag, L, F) from ⟨fun b hb => ⟨hb, fun _ => rfl⟩, fun b j _ hb => h2u40 b j hb⟩) (fun b hb _ => zq1 b hb) (fun h => (hE.1 _ h).1)
  have vu40 : elr F q1 8 = some q38 := vu40
  refine lv_iinc (v := 9) (lv' := [(1, .int 9), (0, .ref p0)]) hx hb dX2_init_42 hl (k := 0) rfl (by decide) (by decide) rfl (fun ls hl => ?_)
  refine lv_goto (tgt := 23) hx hb dX2_init_45 (by decide) ?_
  refine lv_iload_n hx hb dX2_init_23 rfl (lv_at hl 0 rfl) ?_
  refine lv_bipush (v := 10) hx hb dX2_init_24 (by decide) ?_
  refine lv_icmp_ge (tgt := 48) hx hb dX2_init_26 (by decide) (fun c9 => absurd c9 (by decide)) (fun _ => ?_)
  refine lv_aload_n hx hb dX2_init_29 rfl (lv_at hl 1 rfl) ?_
  refine t_get (C := RX2) (T := TX2) (N := 5) X hT m0 g0 rfl rfl 0 (by decide) qw_103 inlX2 rfl dX2_init_30 (fun vu41 hu41 ou41 => ?_)
  obtain rfl : vu41 = .ref q1 := hu41.symm.trans vu2
  refine lv_iload_n hx hb dX2_init_33 rfl (lv_at hl 0 rfl) ?_
  refine t_new (C := RX7) (T := TX7) (N := 7) (ci := 4) (fs := [.int 0, .int 0, .null, .null, .null, .null, .null]) (t := 48) X hT tyX7 tyX7_ok inlX7 qw_102 qw_21 qw_22 rfl (by decide +kernel) (Nat.le_of_ble_eq_true rfl) (Nat.le_of_ble_eq_true rfl) dX2_init_34 rfl rfl (by decide) (fun q42 tag L F H hT mq42 gq42 kq42 Fq42 hEq42 hxq42 => ?_)
  have vu2 := (((hxq42 _ m0).2 0).1).trans vu2
  have vu4 := (((hxq42 _ m0).2 1).1).trans vu4
  have f0_2 := (((hxq42 _ m0).2 2).1).trans f0_2
  have f0_3 := (((hxq42 _ m0).2 3).1).trans f0_3
  have f0_4 := (((hxq42 _ m0).2 4).1).trans f0_4
  have vu8 := (((hxq42 _ mq1).2 0).2.2).trans vu8
  have vu12 := (((hxq42 _ mq1).2 1).2.2).trans vu12
  have vu16 := (((hxq42 _ mq1).2 2).2.2).trans vu16
  have vu20 := (((hxq42 _ mq1).2 3).2.2).trans vu20
  have vu24 := (((hxq42 _ mq1).2 4).2.2).trans vu24
  have vu28 := (((hxq42 _ mq1).2 5).2.2).trans vu28
  have vu32 := (((hxq42 _ mq1).2 6).2.2).trans vu32
  have vu36 := (((hxq42 _ mq1).2 7).2.2).trans vu36
  have vu40 := (((hxq42 _ mq1).2 8).2.2).trans vu40
  have g0 := (hxq42 _ m0).1.trans g0
  have gq1 := (hxq42 _ mq1).1.trans gq1
  have gq3 := (hxq42 _ mq3).1.trans gq3
  have gq6 := (hxq42 _ mq6).1.trans gq6
  have gq10 := (hxq42 _ mq10).1.trans gq10
  have gq14 := (hxq42 _ mq14).1.trans gq14
  have gq18 := (hxq42 _ mq18).1.trans gq18
  have gq22 := (hxq42 _ mq22).1.trans gq22
  have gq26 := (hxq42 _ mq26).1.trans gq26
  have gq30 := (hxq42 _ mq30).1.trans gq30
  have gq34 := (hxq42 _ mq34).1.trans gq34
  have gq38 := (hxq42 _ mq38).1.trans gq38
  have zq42 : ∀ b ∈ L0, b ≠ q42 := fun b hb h => kq42 (h ▸ (hE.1 b hb).1)
  have nq42_p0 : p0 ≠ q42 := fun h => kq42 (h ▸ m0)
  have nq42_q1 : q1 ≠ q42 := fun h => kq42 (h ▸ mq1)
  have nq42_q3 : q3 ≠ q42 := fun h => kq42 (h ▸ mq3)
  have nq42_q6 : q6 ≠ q42 := fun h => kq42 (h ▸ mq6)
  have nq42_q10 : q10 ≠ q42 := fun h => kq42 (h ▸ mq10)
  have nq42_q14 : q14 ≠ q42 := fun h => kq42 (h ▸ mq14)
  have nq42_q18 : q18 ≠ q42 := fun h => kq42 (h ▸ mq18)
  have nq42_q22 : q22 ≠ q42 := fun h => kq42 (h ▸ mq22)
  have nq42_q26 : q26 ≠ q42 := fun h => kq42 (h ▸ mq26)
  have nq42_q30 : q30 ≠ q42 := fun h => kq42 (h ▸ mq30)
  have nq42_q34 : q34 ≠ q42 := fun h => kq42 (h ▸ mq34)
  have nq42_q38 : q38 ≠ q42 := fun h => kq42 (h ▸ mq38)
  have hE := EXTR.tr hE hEq42 (fun b hb _ => zq42 b hb) (fun h => (hEq42.1 _ ((hE.1 _ h).1)).1)
  have m0 := (hEq42.1 _ m0).1
  have mq1 := (hEq42.1 _ mq1).1
  have mq3 := (hEq42.1 _ mq3).1
  have mq6 := (hEq42.1 _ mq6).1
  have mq10 := (hEq42.1 _ mq10).1
  have mq14 := (hEq42.1 _ mq14).1
  have mq18 := (hEq42.1 _ mq18).1
  have mq22 := (hEq42.1 _ mq22).1
  have mq26 := (hEq42.1 _ mq26).1
  have mq30 := (hEq42.1 _ mq30).1
  have mq34 := (hEq42.1 _ mq34).1
  have mq38 := (hEq42.1 _ mq38).1
  refine lv_dup hx hb dX2_init_37 rfl ?_
  refine t_caN (n := 0) (host := "YearSkins") (As := []) (rest := [.ref q42, .int 9, .ref q1]) X hT (ka_X7_init l G tag L F hT.2.2.2 q42 mq42 gq42 (by unfold fld; rw [Fq42]; rfl) (by unfold fld; rw [Fq42]; rfl) (by unfold fld; rw [Fq42]; rfl) (by unfold fld; rw [Fq42]; rfl) (by unfold fld; rw [Fq42]; rfl) (by unfold fld; rw [Fq42]; rfl) (by unfold fld; rw [Fq42]; rfl)) (List.mem_of_getElem? (i := 7) rfl) qw_59 qw_22 qw_60 rfl ⟨by decide +kernel, by decide +kernel, by decide +kernel⟩ ⟨(Nat.le_of_ble_eq_true rfl), (Nat.le_of_ble_eq_true rfl)⟩ hl rfl rfl (Nat.le_of_ble_eq_true rfl) dX2_init_38 ⟨(Nat.le_of_ble_eq_true rfl), (Nat.le_of_ble_eq_true rfl)⟩ (fun u43 H locs hT hu43 => ?_)
  obtain ⟨tag, L, F⟩ := u43
  have hT : TH G ttC A s tag L F H locs := hT
  obtain ⟨hEu43, mq42, gq42⟩ := hu43
  have mq42 : q42 ∈ L := mq42
  have gq42 : tag q42 = 19 := gq42
  have vu2 := ((hEu43.2 _ 0 m0 nq42_p0).1).trans vu2
  have vu4 := ((hEu43.2 _ 1 m0 nq42_p0).1).trans vu4
  have f0_2 := ((hEu43.2 _ 2 m0 nq42_p0).1).trans f0_2
  have f0_3 := ((hEu43.2 _ 3 m0 nq42_p0).1).trans f0_3
  have f0_4 := ((hEu43.2 _ 4 m0 nq42_p0).1).trans f0_4
  have vu8 := ((hEu43.2 _ 0 mq1 nq42_q1).2.2).trans vu8
  have vu12 := ((hEu43.2 _ 1 mq1 nq42_q1).2.2).trans vu12
  have vu16 := ((hEu43.2 _ 2 mq1 nq42_q1).2.2).trans vu16
  have vu20 := ((hEu43.2 _ 3 mq1 nq42_q1).2.2).trans vu20
  have vu24 := ((hEu43.2 _ 4 mq1 nq42_q1).2.2).trans vu24
  have vu28 := ((hEu43.2 _ 5 mq1 nq42_q1).2.2).trans vu28
  have vu32 := ((hEu43.2 _ 6 mq1 nq42_q1).2.2).trans vu32
  have vu36 := ((hEu43.2 _ 7 mq1 nq42_q1).2.2).trans vu36
  have vu40 := ((hEu43.2 _ 8 mq1 nq42_q1).2.2).trans vu40
  have g0 : tag p0 = 53 := ((hEu43.1 _ m0).2 nq42_p0).trans g0
  have gq1 : tag q1 = 59 := ((hEu43.1 _ mq1).2 nq42_q1).trans gq1
  have gq3 : tag q3 = 60 := ((hEu43.1 _ mq3).2 nq42_q3).trans gq3
  have gq6 : tag q6 = 19 := ((hEu43.1 _ mq6).2 nq42_q6).trans gq6
  have gq10 : tag q10 = 19 := ((hEu43.1 _ mq10).2 nq42_q10).trans gq10
  have gq14 : tag q14 = 19 := ((hEu43.1 _ mq14).2 nq42_q14).trans gq14
  have gq18 : tag q18 = 19 := ((hEu43.1 _ mq18).2 nq42_q18).trans gq18
  have gq22 : tag q22 = 19 := ((hEu43.1 _ mq22).2 nq42_q22).trans gq22
  have gq26 : tag q26 = 19 := ((hEu43.1 _ mq26).2 nq42_q26).trans gq26
  have gq30 : tag q30 = 19 := ((hEu43.1 _ mq30).2 nq42_q30).trans gq30
  have gq34 : tag q34 = 19 := ((hEu43.1 _ mq34).2 nq42_q34).trans gq34
  have gq38 : tag q38 = 19 := ((hEu43.1 _ mq38).2 nq42_q38).trans gq38
  have hE := EXTR.tr hE hEu43 (fun b hb _ => zq42 b hb) (fun h => (hEu43.1 _ ((hE.1 _ h).1)).1)
  have m0 : p0 ∈ L := (hEu43.1 _ m0).1
  have mq1 : q1 ∈ L := (hEu43.1 _ mq1).1
  have mq3 : q3 ∈ L := (hEu43.1 _ mq3).1
  have mq6 : q6 ∈ L := (hEu43.1 _ mq6).1
  have mq10 : q10 ∈ L := (hEu43.1 _ mq10).1
  have mq14 : q14 ∈ L := (hEu43.1 _ mq14).1
  have mq18 : q18 ∈ L := (hEu43.1 _ mq18).1
  have mq22 : q22 ∈ L := (hEu43.1 _ mq22).1
  have mq26 : q26 ∈ L := (hEu43.1 _ mq26).1
  have mq30 : q30 ∈ L := (hEu43.1 _ mq30).1
  have mq34 : q34 ∈ L := (hEu43.1 _ mq34).1
  have mq38 : q38 ∈ L := (hEu43.1 _ mq38).1
  refine t_ast X hT mq1 gq1 rfl mq42 gq42 rfl (vin (by decide)) dX2_init_41 (fun F H locs hT vu44 h1u44 h2u44 => ?_)
  have vu2 := ((h2u44 _ 0 (tne g0 gq1 (by decide))).1).trans vu2
  have vu4 := ((h2u44 _ 1 (tne g0 gq1 (by decide))).1).trans vu4
  have f0_2 := ((h2u44 _ 2 (tne g0 gq1 (by decide))).1).trans f0_2
  have f0_3 := ((h2u44 _ 3 (tne g0 gq1 (by decide))).1).trans f0_3
  have f0_4 := ((h2u44 _ 4 (tne g0 gq1 (by decide))).1).trans f0_4
  have vu8 := (h1u44 0 (by decide)).trans vu8
  have vu12 := (h1u44 1 (by decide)).trans vu12
  have vu16 := (h1u44 2 (by decide)).trans vu16
  have vu20 := (h1u44 3 (by decide)).trans vu20
  have vu24 := (h1u44 4 (by decide)).trans vu24
  have vu28 := (h1u44 5 (by decide)).trans vu28
  have vu32 := (h1u44 6 (by decide)).trans vu32
  have vu36 := (h1u44 7 (by decide)).trans vu36
  have vu40 := (h1u44 8 (by decide)).trans vu40
  have hE := EXTR.tr (q := q1) (u := (tag, L, F)) hE (show EXTR q1 tag L _ (tag, L, F) from ⟨fun b hb => ⟨hb, fun _ => rfl⟩, fun b j _ hb => h2u44 b j hb⟩) (fun b hb _ => zq1 b hb) (fun h => (hE.1 _ h).1)
  have vu44 : elr F q1 9 = some q42 := vu44
  refine lv_iinc (v := 10) (lv' := [(1, .int 10), (0, .ref p0)]) hx hb dX2_init_42 hl (k := 0) rfl (by decide) (by decide) rfl (fun ls hl => ?_)
  refine lv_goto (tgt := 23) hx hb dX2_init_45 (by decide) ?_
  refine lv_iload_n hx hb dX2_init_23 rfl (lv_at hl 0 rfl) ?_
  refine lv_bipush (v := 10) hx hb dX2_init_24 (by decide) ?_
  refine lv_icmp_ge (tgt := 48) hx hb dX2_init_26 (by decide) (fun _ => ?_) (fun c9 => absurd c9 (by decide))
  refine lv_iconst (v := 0) hx hb dX2_init_48 (by decide) ?_
  refine lv_istore_n (lv' := [(1, .int 0), (0, .ref p0)]) hx hb dX2_init_49 rfl hl (by decide) rfl (fun ls hl => ?_)
  refine lv_iload_n hx hb dX2_init_50 rfl (lv_at hl 0 rfl) ?_
  refine lv_iconst (v := 3) hx hb dX2_init_51 (by decide) ?_
  refine lv_icmp_ge (tgt := 74) hx hb dX2_init_52 (by decide) (fun c9 => absurd c9 (by decide)) (fun _ => ?_)
  refine lv_aload_n hx hb dX2_init_55 rfl (lv_at hl 1 rfl) ?_
  refine t_get (C := RX2) (T := TX2) (N := 5) X hT m0 g0 rfl rfl 1 (by decide) qw_104 inlX2 rfl dX2_init_56 (fun vu45 hu45 ou45 => ?_)
  obtain rfl : vu45 = .ref q3 := hu45.symm.trans vu4
  refine lv_iload_n hx hb dX2_init_59 rfl (lv_at hl 0 rfl) ?_
  refine t_new (C := RX7) (T := TX7) (N := 7) (ci := 4) (fs := [.int 0, .int 0, .null, .null, .null, .null, .null]) (t := 48) X hT tyX7 tyX7_ok inlX7 qw_102 qw_21 qw_22 rfl (by decide +kernel) (Nat.le_of_ble_eq_true rfl) (Nat.le_of_ble_eq_true rfl) dX2_init_60 rfl rfl (by decide) (fun q46 tag L F H hT mq46 gq46 kq46 Fq46 hEq46 hxq46 => ?_)
  have vu2 := (((hxq46 _ m0).2 0).1).trans vu2
  have vu4 := (((hxq46 _ m0).2 1).1).trans vu4
  have f0_2 := (((hxq46 _ m0).2 2).1).trans f0_2
  have f0_3 := (((hxq46 _ m0).2 3).1).trans f0_3
  have f0_4 := (((hxq46 _ m0).2 4).1).trans f0_4
  have vu8 := (((hxq46 _ mq1).2 0).2.2).trans vu8
  have vu12 := (((hxq46 _ mq1).2 1).2.2).trans vu12
  have vu16 := (((hxq46 _ mq1).2 2).2.2).trans vu16
  have vu20 := (((hxq46 _ mq1).2 3).2.2).trans vu20
  have vu24 := (((hxq46 _ mq1).2 4).2.2).trans vu24
  have vu28 := (((hxq46 _ mq1).2 5).2.2).trans vu28
  have vu32 := (((hxq46 _ mq1).2 6).2.2).trans vu32
  have vu36 := (((hxq46 _ mq1).2 7).2.2).trans vu36
  have vu40 := (((hxq46 _ mq1).2 8).2.2).trans vu40
  have vu44 := (((hxq46 _ mq1).2 9).2.2).trans vu44
  have g0 := (hxq46 _ m0).1.trans g0
  have gq1 := (hxq46 _ mq1).1.trans gq1
  have gq3 := (hxq46 _ mq3).1.trans gq3
  have gq6 := (hxq46 _ mq6).1.trans gq6
  have gq10 := (hxq46 _ mq10).1.trans gq10
  have gq14 := (hxq46 _ mq14).1.trans gq14
  have gq18 := (hxq46 _ mq18).1.trans gq18
  have gq22 := (hxq46 _ mq22).1.trans gq22
  have gq26 := (hxq46 _ mq26).1.trans gq26
  have gq30 := (hxq46 _ mq30).1.trans gq30
  have gq34 := (hxq46 _ mq34).1.trans gq34
  have gq38 := (hxq46 _ mq38).1.trans gq38
  have gq42 := (hxq46 _ mq42).1.trans gq42
  have zq46 : ∀ b ∈ L0, b ≠ q46 := fun b hb h => kq46 (h ▸ (hE.1 b hb).1)
  have nq46_p0 : p0 ≠ q46 := fun h => kq46 (h ▸ m0)
  have nq46_q1 : q1 ≠ q46 := fun h => kq46 (h ▸ mq1)
  have nq46_q3 : q3 ≠ q46 := fun h => kq46 (h ▸ mq3)
  have nq46_q6 : q6 ≠ q46 := fun h => kq46 (h ▸ mq6)
  have nq46_q10 : q10 ≠ q46 := fun h => kq46 (h ▸ mq10)
  have nq46_q14 : q14 ≠ q46 := fun h => kq46 (h ▸ mq14)
  have nq46_q18 : q18 ≠ q46 := fun h => kq46 (h ▸ mq18)
  have nq46_q22 : q22 ≠ q46 := fun h => kq46 (h ▸ mq22)
  have nq46_q26 : q26 ≠ q46 := fun h => kq46 (h ▸ mq26)
  have nq46_q30 : q30 ≠ q46 := fun h => kq46 (h ▸ mq30)
  have nq46_q34 : q34 ≠ q46 := fun h => kq46 (h ▸ mq34)
  have nq46_q38 : q38 ≠ q46 := fun h => kq46 (h ▸ mq38)
  have nq46_q42 : q42 ≠ q46 := fun h => kq46 (h ▸ mq42)
  have hE := EXTR.tr hE hEq46 (fun b hb _ => zq46 b hb) (fun h => (hEq46.1 _ ((hE.1 _ h).1)).1)
  have m0 := (hEq46.1 _ m0).1
  have mq1 := (hEq46.1 _ mq1).1
  have mq3 := (hEq46.1 _ mq3).1
  have mq6 := (hEq46.1 _ mq6).1
  have mq10 := (hEq46.1 _ mq10).1
  have mq14 := (hEq46.1 _ mq14).1
  have mq18 := (hEq46.1 _ mq18).1
  have mq22 := (hEq46.1 _ mq22).1
  have mq26 := (hEq46.1 _ mq26).1
  have mq30 := (hEq46.1 _ mq30).1
  have mq34 := (hEq46.1 _ mq34).1
  have mq38 := (hEq46.1 _ mq38).1
  have mq42 := (hEq46.1 _ mq42).1
  refine lv_dup hx hb dX2_init_63 rfl ?_
  refine t_caN (n := 0) (host := "YearSkins") (As := []) (rest := [.ref q46, .int 0, .ref q3]) X hT (ka_X7_init l G tag L F hT.2.2.2 q46 mq46 gq46 (by unfold fld; rw [Fq46]; rfl) (by unfold fld; rw [Fq46]; rfl) (by unfold fld; rw [Fq46]; rfl) (by unfold fld; rw [Fq46]; rfl) (by unfold fld; rw [Fq46]; rfl) (by unfold fld; rw [Fq46]; rfl) (by unfold fld; rw [Fq46]; rfl)) (List.mem_of_getElem? (i := 7) rfl) qw_59 qw_22 qw_60 rfl ⟨by decide +kernel, by decide +kernel, by decide +kernel⟩ ⟨(Nat.le_of_ble_eq_true rfl), (Nat.le_of_ble_eq_true rfl)⟩ hl rfl rfl (Nat.le_of_ble_eq_true rfl) dX2_init_64 ⟨(Nat.le_of_ble_eq_true rfl), (Nat.le_of_ble_eq_true rfl)⟩ (fun u47 H locs hT hu47 => ?_)
  obtain ⟨tag, L, F⟩ := u47
  have hT : TH G ttC A s tag L F H locs := hT
  obtain ⟨hEu47, mq46, gq46⟩ := hu47
  have mq46 : q46 ∈ L := mq46
  have gq46 : tag q46 = 19 := gq46
  have vu2 := ((hEu47.2 _ 0 m0 nq46_p0).1).trans vu2
  have vu4 := ((hEu47.2 _ 1 m0 nq46_p0).1).trans vu4
  have f0_2 := ((hEu47.2 _ 2 m0 nq46_p0).1).trans f0_2
  have f0_3 := ((hEu47.2 _ 3 m0 nq46_p0).1).trans f0_3
  have f0_4 := ((hEu47.2 _ 4 m0 nq46_p0).1).trans f0_4
  have vu8 := ((hEu47.2 _ 0 mq1 nq46_q1).2.2).trans vu8
  have vu12 := ((hEu47.2 _ 1 mq1 nq46_q1).2.2).trans vu12
  have vu16 := ((hEu47.2 _ 2 mq1 nq46_q1).2.2).trans vu16
  have vu20 := ((hEu47.2 _ 3 mq1 nq46_q1).2.2).trans vu20
  have vu24 := ((hEu47.2 _ 4 mq1 nq46_q1).2.2).trans vu24
  have vu28 := ((hEu47.2 _ 5 mq1 nq46_q1).2.2).trans vu28
  have vu32 := ((hEu47.2 _ 6 mq1 nq46_q1).2.2).trans vu32
  have vu36 := ((hEu47.2 _ 7 mq1 nq46_q1).2.2).trans vu36
  have vu40 := ((hEu47.2 _ 8 mq1 nq46_q1).2.2).trans vu40
  have vu44 := ((hEu47.2 _ 9 mq1 nq46_q1).2.2).trans vu44
  have g0 : tag p0 = 53 := ((hEu47.1 _ m0).2 nq46_p0).trans g0
  have gq1 : tag q1 = 59 := ((hEu47.1 _ mq1).2 nq46_q1).trans gq1
  have gq3 : tag q3 = 60 := ((hEu47.1 _ mq3).2 nq46_q3).trans gq3
  have gq6 : tag q6 = 19 := ((hEu47.1 _ mq6).2 nq46_q6).trans gq6
  have gq10 : tag q10 = 19 := ((hEu47.1 _ mq10).2 nq46_q10).trans gq10
  have gq14 : tag q14 = 19 := ((hEu47.1 _ mq14).2 nq46_q14).trans gq14
  have gq18 : tag q18 = 19 := ((hEu47.1 _ mq18).2 nq46_q18).trans gq18
  have gq22 : tag q22 = 19 := ((hEu47.1 _ mq22).2 nq46_q22).trans gq22
  have gq26 : tag q26 = 19 := ((hEu47.1 _ mq26).2 nq46_q26).trans gq26
  have gq30 : tag q30 = 19 := ((hEu47.1 _ mq30).2 nq46_q30).trans gq30
  have gq34 : tag q34 = 19 := ((hEu47.1 _ mq34).2 nq46_q34).trans gq34
  have gq38 : tag q38 = 19 := ((hEu47.1 _ mq38).2 nq46_q38).trans gq38
  have gq42 : tag q42 = 19 := ((hEu47.1 _ mq42).2 nq46_q42).trans gq42
  have hE := EXTR.tr hE hEu47 (fun b hb _ => zq46 b hb) (fun h => (hEu47.1 _ ((hE.1 _ h).1)).1)
  have m0 : p0 ∈ L := (hEu47.1 _ m0).1
  have mq1 : q1 ∈ L := (hEu47.1 _ mq1).1
  have mq3 : q3 ∈ L := (hEu47.1 _ mq3).1
  have mq6 : q6 ∈ L := (hEu47.1 _ mq6).1
  have mq10 : q10 ∈ L := (hEu47.1 _ mq10).1
  have mq14 : q14 ∈ L := (hEu47.1 _ mq14).1
  have mq18 : q18 ∈ L := (hEu47.1 _ mq18).1
  have mq22 : q22 ∈ L := (hEu47.1 _ mq22).1
  have mq26 : q26 ∈ L := (hEu47.1 _ mq26).1
  have mq30 : q30 ∈ L := (hEu47.1 _ mq30).1
  have mq34 : q34 ∈ L := (hEu47.1 _ mq34).1
  have mq38 : q38 ∈ L := (hEu47.1 _ mq38).1
  have mq42 : q42 ∈ L := (hEu47.1 _ mq42).1
  refine t_ast X hT mq3 gq3 rfl mq46 gq46 rfl (vin (by decide)) dX2_init_67 (fun F H locs hT vu48 h1u48 h2u48 => ?_)
  have vu2 := ((h2u48 _ 0 (tne g0 gq3 (by decide))).1).trans vu2
  have vu4 := ((h2u48 _ 1 (tne g0 gq3 (by decide))).1).trans vu4
  have f0_2 := ((h2u48 _ 2 (tne g0 gq3 (by decide))).1).trans f0_2
  have f0_3 := ((h2u48 _ 3 (tne g0 gq3 (by decide))).1).trans f0_3
  have f0_4 := ((h2u48 _ 4 (tne g0 gq3 (by decide))).1).trans f0_4
  have vu8 := ((h2u48 _ 0 (tne gq1 gq3 (by decide))).2.2).trans vu8
  have vu12 := ((h2u48 _ 1 (tne gq1 gq3 (by decide))).2.2).trans vu12
  have vu16 := ((h2u48 _ 2 (tne gq1 gq3 (by decide))).2.2).trans vu16
  have vu20 := ((h2u48 _ 3 (tne gq1 gq3 (by decide))).2.2).trans vu20
  have vu24 := ((h2u48 _ 4 (tne gq1 gq3 (by decide))).2.2).trans vu24
  have vu28 := ((h2u48 _ 5 (tne gq1 gq3 (by decide))).2.2).trans vu28
  have vu32 := ((h2u48 _ 6 (tne gq1 gq3 (by decide))).2.2).trans vu32
  have vu36 := ((h2u48 _ 7 (tne gq1 gq3 (by decide))).2.2).trans vu36
  have vu40 := ((h2u48 _ 8 (tne gq1 gq3 (by decide))).2.2).trans vu40
  have vu44 := ((h2u48 _ 9 (tne gq1 gq3 (by decide))).2.2).trans vu44
  have hE := EXTR.tr (q := q3) (u := (tag, L, F)) hE (show EXTR q3 tag L _ (tag, L, F) from ⟨fun b hb => ⟨hb, fun _ => rfl⟩, fun b j _ hb => h2u48 b j hb⟩) (fun b hb _ => zq3 b hb) (fun h => (hE.1 _ h).1)
  have vu48 : elr F q3 0 = some q46 := vu48
  refine lv_iinc (v := 1) (lv' := [(1, .int 1), (0, .ref p0)]) hx hb dX2_init_68 hl (k := 0) rfl (by decide) (by decide) rfl (fun ls hl => ?_)
  refine lv_goto (tgt := 50) hx hb dX2_init_71 (by decide) ?_
  refine lv_iload_n hx hb dX2_init_50 rfl (lv_at hl 0 rfl) ?_
  refine lv_iconst (v := 3) hx hb dX2_init_51 (by decide) ?_
  refine lv_icmp_ge (tgt := 74) hx hb dX2_init_52 (by decide) (fun c9 => absurd c9 (by decide)) (fun _ => ?_)
  refine lv_aload_n hx hb dX2_init_55 rfl (lv_at hl 1 rfl) ?_
  refine t_get (C := RX2) (T := TX2) (N := 5) X hT m0 g0 rfl rfl 1 (by decide) qw_104 inlX2 rfl dX2_init_56 (fun vu49 hu49 ou49 => ?_)
  obtain rfl : vu49 = .ref q3 := hu49.symm.trans vu4
  refine lv_iload_n hx hb dX2_init_59 rfl (lv_at hl 0 rfl) ?_
  refine t_new (C := RX7) (T := TX7) (N := 7) (ci := 4) (fs := [.int 0, .int 0, .null, .null, .null, .null, .null]) (t := 48) X hT tyX7 tyX7_ok inlX7 qw_102 qw_21 qw_22 rfl (by decide +kernel) (Nat.le_of_ble_eq_true rfl) (Nat.le_of_ble_eq_true rfl) dX2_init_60 rfl rfl (by decide) (fun q50 tag L F H hT mq50 gq50 kq50 Fq50 hEq50 hxq50 => ?_)
  have vu2 := (((hxq50 _ m0).2 0).1).trans vu2
  have vu4 := (((hxq50 _ m0).2 1).1).trans vu4
  have f0_2 := (((hxq50 _ m0).2 2).1).trans f0_2
  have f0_3 := (((hxq50 _ m0).2 3).1).trans f0_3
  have f0_4 := (((hxq50 _ m0).2 4).1).trans f0_4
  have vu8 := (((hxq50 _ mq1).2 0).2.2).trans vu8
  have vu12 := (((hxq50 _ mq1).2 1).2.2).trans vu12
  have vu16 := (((hxq50 _ mq1).2 2).2.2).trans vu16
  have vu20 := (((hxq50 _ mq1).2 3).2.2).trans vu20
  have vu24 := (((hxq50 _ mq1).2 4).2.2).trans vu24
  have vu28 := (((hxq50 _ mq1).2 5).2.2).trans vu28
  have vu32 := (((hxq50 _ mq1).2 6).2.2).trans vu32
  have vu36 := (((hxq50 _ mq1).2 7).2.2).trans vu36
  have vu40 := (((hxq50 _ mq1).2 8).2.2).trans vu40
  have vu44 := (((hxq50 _ mq1).2 9).2.2).trans vu44
  have vu48 := (((hxq50 _ mq3).2 0).2.2).trans vu48
  have g0 := (hxq50 _ m0).1.trans g0
  have gq1 := (hxq50 _ mq1).1.trans gq1
  have gq3 := (hxq50 _ mq3).1.trans gq3
  have gq6 := (hxq50 _ mq6).1.trans gq6
  have gq10 := (hxq50 _ mq10).1.trans gq10
  have gq14 := (hxq50 _ mq14).1.trans gq14
  have gq18 := (hxq50 _ mq18).1.trans gq18
  have gq22 := (hxq50 _ mq22).1.trans gq22
  have gq26 := (hxq50 _ mq26).1.trans gq26
  have gq30 := (hxq50 _ mq30).1.trans gq30
  have gq34 := (hxq50 _ mq34).1.trans gq34
  have gq38 := (hxq50 _ mq38).1.trans gq38
  have gq42 := (hxq50 _ mq42).1.trans gq42
  have gq46 := (hxq50 _ mq46).1.trans gq46
  have zq50 : ∀ b ∈ L0, b ≠ q50 := fun b hb h => kq50 (h ▸ (hE.1 b hb).1)
  have nq50_p0 : p0 ≠ q50 := fun h => kq50 (h ▸ m0)
  have nq50_q1 : q1 ≠ q50 := fun h => kq50 (h ▸ mq1)
  have nq50_q3 : q3 ≠ q50 := fun h => kq50 (h ▸ mq3)
  have nq50_q6 : q6 ≠ q50 := fun h => kq50 (h ▸ mq6)
  have nq50_q10 : q10 ≠ q50 := fun h => kq50 (h ▸ mq10)
  have nq50_q14 : q14 ≠ q50 := fun h => kq50 (h ▸ mq14)
  have nq50_q18 : q18 ≠ q50 := fun h => kq50 (h ▸ mq18)
  have nq50_q22 : q22 ≠ q50 := fun h => kq50 (h ▸ mq22)
  have nq50_q26 : q26 ≠ q50 := fun h => kq50 (h ▸ mq26)
  have nq50_q30 : q30 ≠ q50 := fun h => kq50 (h ▸ mq30)
  have nq50_q34 : q34 ≠ q50 := fun h => kq50 (h ▸ mq34)
  have nq50_q38 : q38 ≠ q50 := fun h => kq50 (h ▸ mq38)
  have nq50_q42 : q42 ≠ q50 := fun h => kq50 (h ▸ mq42)
  have nq50_q46 : q46 ≠ q50 := fun h => kq50 (h ▸ mq46)
  have hE := EXTR.tr hE hEq50 (fun b hb _ => zq50 b hb) (fun h => (hEq50.1 _ ((hE.1 _ h).1)).1)
  have m0 := (hEq50.1 _ m0).1
  have mq1 := (hEq50.1 _ mq1).1
  have mq3 := (hEq50.1 _ mq3).1
  have mq6 := (hEq50.1 _ mq6).1
  have mq10 := (hEq50.1 _ mq10).1
  have mq14 := (hEq50.1 _ mq14).1
  have mq18 := (hEq50.1 _ mq18).1
  have mq22 := (hEq50.1 _ mq22).1
  have mq26 := (hEq50.1 _ mq26).1
  have mq30 := (hEq50.1 _ mq30).1
  have mq34 := (hEq50.1 _ mq34).1
  have mq38 := (hEq50.1 _ mq38).1
  have mq42 := (hEq50.1 _ mq42).1
  have mq46 := (hEq50.1 _ mq46).1
  refine lv_dup hx hb dX2_init_63 rfl ?_
  refine t_caN (n := 0) (host := "YearSkins") (As := []) (rest := [.ref q50, .int 1, .ref q3]) X hT (ka_X7_init l G tag L F hT.2.2.2 q50 mq50 gq50 (by unfold fld; rw [Fq50]; rfl) (by unfold fld; rw [Fq50]; rfl) (by unfold fld; rw [Fq50]; rfl) (by unfold fld; rw [Fq50]; rfl) (by unfold fld; rw [Fq50]; rfl) (by unfold fld; rw [Fq50]; rfl) (by unfold fld; rw [Fq50]; rfl)) (List.mem_of_getElem? (i := 7) rfl) qw_59 qw_22 qw_60 rfl ⟨by decide +kernel, by decide +kernel, by decide +kernel⟩ ⟨(Nat.le_of_ble_eq_true rfl), (Nat.le_of_ble_eq_true rfl)⟩ hl rfl rfl (Nat.le_of_ble_eq_true rfl) dX2_init_64 ⟨(Nat.le_of_ble_eq_true rfl), (Nat.le_of_ble_eq_true rfl)⟩ (fun u51 H locs hT hu51 => ?_)
  obtain ⟨tag, L, F⟩ := u51
  have hT : TH G ttC A s tag L F H locs := hT
  obtain ⟨hEu51, mq50, gq50⟩ := hu51
  have mq50 : q50 ∈ L := mq50
  have gq50 : tag q50 = 19 := gq50
  have vu2 := ((hEu51.2 _ 0 m0 nq50_p0).1).trans vu2
  have vu4 := ((hEu51.2 _ 1 m0 nq50_p0).1).trans vu4
  have f0_2 := ((hEu51.2 _ 2 m0 nq50_p0).1).trans f0_2
  have f0_3 := ((hEu51.2 _ 3 m0 nq50_p0).1).trans f0_3
  have f0_4 := ((hEu51.2 _ 4 m0 nq50_p0).1).trans f0_4
  have vu8 := ((hEu51.2 _ 0 mq1 nq50_q1).2.2).trans vu8
  have vu12 := ((hEu51.2 _ 1 mq1 nq50_q1).2.2).trans vu12
  have vu16 := ((hEu51.2 _ 2 mq1 nq50_q1).2.2).trans vu16
  have vu20 := ((hEu51.2 _ 3 mq1 nq50_q1).2.2).trans vu20
  have vu24 := ((hEu51.2 _ 4 mq1 nq50_q1).2.2).trans vu24
  have vu28 := ((hEu51.2 _ 5 mq1 nq50_q1).2.2).trans vu28
  have vu32 := ((hEu51.2 _ 6 mq1 nq50_q1).2.2).trans vu32
  have vu36 := ((hEu51.2 _ 7 mq1 nq50_q1).2.2).trans vu36
  have vu40 := ((hEu51.2 _ 8 mq1 nq50_q1).2.2).trans vu40
  have vu44 := ((hEu51.2 _ 9 mq1 nq50_q1).2.2).trans vu44
  have vu48 := ((hEu51.2 _ 0 mq3 nq50_q3).2.2).trans vu48
  have g0 : tag p0 = 53 := ((hEu51.1 _ m0).2 nq50_p0).trans g0
  have gq1 : tag q1 = 59 := ((hEu51.1 _ mq1).2 nq50_q1).trans gq1
  have gq3 : tag q3 = 60 := ((hEu51.1 _ mq3).2 nq50_q3).trans gq3
  have gq6 : tag q6 = 19 := ((hEu51.1 _ mq6).2 nq50_q6).trans gq6
  have gq10 : tag q10 = 19 := ((hEu51.1 _ mq10).2 nq50_q10).trans gq10
  have gq14 : tag q14 = 19 := ((hEu51.1 _ mq14).2 nq50_q14).trans gq14
  have gq18 : tag q18 = 19 := ((hEu51.1 _ mq18).2 nq50_q18).trans gq18
  have gq22 : tag q22 = 19 := ((hEu51.1 _ mq22).2 nq50_q22).trans gq22
  have gq26 : tag q26 = 19 := ((hEu51.1 _ mq26).2 nq50_q26).trans gq26
  have gq30 : tag q30 = 19 := ((hEu51.1 _ mq30).2 nq50_q30).trans gq30
  have gq34 : tag q34 = 19 := ((hEu51.1 _ mq34).2 nq50_q34).trans gq34
  have gq38 : tag q38 = 19 := ((hEu51.1 _ mq38).2 nq50_q38).trans gq38
  have gq42 : tag q42 = 19 := ((hEu51.1 _ mq42).2 nq50_q42).trans gq42
  have gq46 : tag q46 = 19 := ((hEu51.1 _ mq46).2 nq50_q46).trans gq46
  have hE := EXTR.tr hE hEu51 (fun b hb _ => zq50 b hb) (fun h => (hEu51.1 _ ((hE.1 _ h).1)).1)
  have m0 : p0 ∈ L := (hEu51.1 _ m0).1
  have mq1 : q1 ∈ L := (hEu51.1 _ mq1).1
  have mq3 : q3 ∈ L := (hEu51.1 _ mq3).1
  have mq6 : q6 ∈ L := (hEu51.1 _ mq6).1
  have mq10 : q10 ∈ L := (hEu51.1 _ mq10).1
  have mq14 : q14 ∈ L := (hEu51.1 _ mq14).1
  have mq18 : q18 ∈ L := (hEu51.1 _ mq18).1
  have mq22 : q22 ∈ L := (hEu51.1 _ mq22).1
  have mq26 : q26 ∈ L := (hEu51.1 _ mq26).1
  have mq30 : q30 ∈ L := (hEu51.1 _ mq30).1
  have mq34 : q34 ∈ L := (hEu51.1 _ mq34).1
  have mq38 : q38 ∈ L := (hEu51.1 _ mq38).1
  have mq42 : q42 ∈ L := (hEu51.1 _ mq42).1
  have mq46 : q46 ∈ L := (hEu51.1 _ mq46).1
  refine t_ast X hT mq3 gq3 rfl mq50 gq50 rfl (vin (by decide)) dX2_init_67 (fun F H locs hT vu52 h1u52 h2u52 => ?_)
  have vu2 := ((h2u52 _ 0 (tne g0 gq3 (by decide))).1).trans vu2
  have vu4 := ((h2u52 _ 1 (tne g0 gq3 (by decide))).1).trans vu4
  have f0_2 := ((h2u52 _ 2 (tne g0 gq3 (by decide))).1).trans f0_2
  have f0_3 := ((h2u52 _ 3 (tne g0 gq3 (by decide))).1).trans f0_3
  have f0_4 := ((h2u52 _ 4 (tne g0 gq3 (by decide))).1).trans f0_4
  have vu8 := ((h2u52 _ 0 (tne gq1 gq3 (by decide))).2.2).trans vu8
  have vu12 := ((h2u52 _ 1 (tne gq1 gq3 (by decide))).2.2).trans vu12
  have vu16 := ((h2u52 _ 2 (tne gq1 gq3 (by decide))).2.2).trans vu16
  have vu20 := ((h2u52 _ 3 (tne gq1 gq3 (by decide))).2.2).trans vu20
  have vu24 := ((h2u52 _ 4 (tne gq1 gq3 (by decide))).2.2).trans vu24
  have vu28 := ((h2u52 _ 5 (tne gq1 gq3 (by decide))).2.2).trans vu28
  have vu32 := ((h2u52 _ 6 (tne gq1 gq3 (by decide))).2.2).trans vu32
  have vu36 := ((h2u52 _ 7 (tne gq1 gq3 (by decide))).2.2).trans vu36
  have vu40 := ((h2u52 _ 8 (tne gq1 gq3 (by decide))).2.2).trans vu40
  have vu44 := ((h2u52 _ 9 (tne gq1 gq3 (by decide))).2.2).trans vu44
  have vu48 := (h1u52 0 (by decide)).trans vu48
  have hE := EXTR.tr (q := q3) (u := (tag, L, F)) hE (show EXTR q3 tag L _ (tag, L, F) from ⟨fun b hb => ⟨hb, fun _ => rfl⟩, fun b j _ hb => h2u52 b j hb⟩) (fun b hb _ => zq3 b hb) (fun h => (hE.1 _ h).1)
  have vu52 : elr F q3 1 = some q50 := vu52
  refine lv_iinc (v := 2) (lv' := [(1, .int 2), (0, .ref p0)]) hx hb dX2_init_68 hl (k := 0) rfl (by decide) (by decide) rfl (fun ls hl => ?_)
  refine lv_goto (tgt := 50) hx hb dX2_init_71 (by decide) ?_
  refine lv_iload_n hx hb dX2_init_50 rfl (lv_at hl 0 rfl) ?_
  refine lv_iconst (v := 3) hx hb dX2_init_51 (by decide) ?_
  refine lv_icmp_ge (tgt := 74) hx hb dX2_init_52 (by decide) (fun c9 => absurd c9 (by decide)) (fun _ => ?_)
  refine lv_aload_n hx hb dX2_init_55 rfl (lv_at hl 1 rfl) ?_
  refine t_get (C := RX2) (T := TX2) (N := 5) X hT m0 g0 rfl rfl 1 (by decide) qw_104 inlX2 rfl dX2_init_56 (fun vu53 hu53 ou53 => ?_)
  obtain rfl : vu53 = .ref q3 := hu53.symm.trans vu4
  refine lv_iload_n hx hb dX2_init_59 rfl (lv_at hl 0 rfl) ?_
  refine t_new (C := RX7) (T := TX7) (N := 7) (ci := 4) (fs := [.int 0, .int 0, .null, .null, .null, .null, .null]) (t := 48) X hT tyX7 tyX7_ok inlX7 qw_102 qw_21 qw_22 rfl (by decide +kernel) (Nat.le_of_ble_eq_true rfl) (Nat.le_of_ble_eq_true rfl) dX2_init_60 rfl rfl (by decide) (fun q54 tag L F H hT mq54 gq54 kq54 Fq54 hEq54 hxq54 => ?_)
  have vu2 := (((hxq54 _ m0).2 0).1).trans vu2
  have vu4 := (((hxq54 _ m0).2 1).1).trans vu4
  have f0_2 := (((hxq54 _ m0).2 2).1).trans f0_2
  have f0_3 := (((hxq54 _ m0).2 3).1).trans f0_3
  have f0_4 := (((hxq54 _ m0).2 4).1).trans f0_4
  have vu8 := (((hxq54 _ mq1).2 0).2.2).trans vu8
  have vu12 := (((hxq54 _ mq1).2 1).2.2).trans vu12
  have vu16 := (((hxq54 _ mq1).2 2).2.2).trans vu16
  have vu20 := (((hxq54 _ mq1).2 3).2.2).trans vu20
  have vu24 := (((hxq54 _ mq1).2 4).2.2).trans vu24
  have vu28 := (((hxq54 _ mq1).2 5).2.2).trans vu28
  have vu32 := (((hxq54 _ mq1).2 6).2.2).trans vu32
  have vu36 := (((hxq54 _ mq1).2 7).2.2).trans vu36
  have vu40 := (((hxq54 _ mq1).2 8).2.2).trans vu40
  have vu44 := (((hxq54 _ mq1).2 9).2.2).trans vu44
  have vu48 := (((hxq54 _ mq3).2 0).2.2).trans vu48
  have vu52 := (((hxq54 _ mq3).2 1).2.2).trans vu52
  have g0 := (hxq54 _ m0).1.trans g0
  have gq1 := (hxq54 _ mq1).1.trans gq1
  have gq3 := (hxq54 _ mq3).1.trans gq3
  have gq6 := (hxq54 _ mq6).1.trans gq6
  have gq10 := (hxq54 _ mq10).1.trans gq10
  have gq14 := (hxq54 _ mq14).1.trans gq14
  have gq18 := (hxq54 _ mq18).1.trans gq18
  have gq22 := (hxq54 _ mq22).1.trans gq22
  have gq26 := (hxq54 _ mq26).1.trans gq26
  have gq30 := (hxq54 _ mq30).1.trans gq30
  have gq34 := (hxq54 _ mq34).1.trans gq34
  have gq38 := (hxq54 _ mq38).1.trans gq38
  have gq42 := (hxq54 _ mq42).1.trans gq42
  have gq46 := (hxq54 _ mq46).1.trans gq46
  have gq50 := (hxq54 _ mq50).1.trans gq50
  have zq54 : ∀ b ∈ L0, b ≠ q54 := fun b hb h => kq54 (h ▸ (hE.1 b hb).1)
  have nq54_p0 : p0 ≠ q54 := fun h => kq54 (h ▸ m0)
  have nq54_q1 : q1 ≠ q54 := fun h => kq54 (h ▸ mq1)
  have nq54_q3 : q3 ≠ q54 := fun h => kq54 (h ▸ mq3)
  have nq54_q6 : q6 ≠ q54 := fun h => kq54 (h ▸ mq6)
  have nq54_q10 : q10 ≠ q54 := fun h => kq54 (h ▸ mq10)
  have nq54_q14 : q14 ≠ q54 := fun h => kq54 (h ▸ mq14)
  have nq54_q18 : q18 ≠ q54 := fun h => kq54 (h ▸ mq18)
  have nq54_q22 : q22 ≠ q54 := fun h => kq54 (h ▸ mq22)
  have nq54_q26 : q26 ≠ q54 := fun h => kq54 (h ▸ mq26)
  have nq54_q30 : q30 ≠ q54 := fun h => kq54 (h ▸ mq30)
  have nq54_q34 : q34 ≠ q54 := fun h => kq54 (h ▸ mq34)
  have nq54_q38 : q38 ≠ q54 := fun h => kq54 (h ▸ mq38)
  have nq54_q42 : q42 ≠ q54 := fun h => kq54 (h ▸ mq42)
  have nq54_q46 : q46 ≠ q54 := fun h => kq54 (h ▸ mq46)
  have nq54_q50 : q50 ≠ q54 := fun h => kq54 (h ▸ mq50)
  have hE := EXTR.tr hE hEq54 (fun b hb _ => zq54 b hb) (fun h => (hEq54.1 _ ((hE.1 _ h).1)).1)
  have m0 := (hEq54.1 _ m0).1
  have mq1 := (hEq54.1 _ mq1).1
  have mq3 := (hEq54.1 _ mq3).1
  have mq6 := (hEq54.1 _ mq6).1
  have mq10 := (hEq54.1 _ mq10).1
  have mq14 := (hEq54.1 _ mq14).1
  have mq18 := (hEq54.1 _ mq18).1
  have mq22 := (hEq54.1 _ mq22).1
  have mq26 := (hEq54.1 _ mq26).1
  have mq30 := (hEq54.1 _ mq30).1
  have mq34 := (hEq54.1 _ mq34).1
  have mq38 := (hEq54.1 _ mq38).1
  have mq42 := (hEq54.1 _ mq42).1
  have mq46 := (hEq54.1 _ mq46).1
  have mq50 := (hEq54.1 _ mq50).1
  refine lv_dup hx hb dX2_init_63 rfl ?_
  refine t_caN (n := 0) (host := "YearSkins") (As := []) (rest := [.ref q54, .int 2, .ref q3]) X hT (ka_X7_init l G tag L F hT.2.2.2 q54 mq54 gq54 (by unfold fld; rw [Fq54]; rfl) (by unfold fld; rw [Fq54]; rfl) (by unfold fld; rw [Fq54]; rfl) (by unfold fld; rw [Fq54]; rfl) (by unfold fld; rw [Fq54]; rfl) (by unfold fld; rw [Fq54]; rfl) (by unfold fld; rw [Fq54]; rfl)) (List.mem_of_getElem? (i := 7) rfl) qw_59 qw_22 qw_60 rfl ⟨by decide +kernel, by decide +kernel, by decide +kernel⟩ ⟨(Nat.le_of_ble_eq_true rfl), (Nat.le_of_ble_eq_true rfl)⟩ hl rfl rfl (Nat.le_of_ble_eq_true rfl) dX2_init_64 ⟨(Nat.le_of_ble_eq_true rfl), (Nat.le_of_ble_eq_true rfl)⟩ (fun u55 H locs hT hu55 => ?_)
  obtain ⟨tag, L, F⟩ := u55
  have hT : TH G ttC A s tag L F H locs := hT
  obtain ⟨hEu55, mq54, gq54⟩ := hu55
  have mq54 : q54 ∈ L := mq54
  have gq54 : tag q54 = 19 := gq54
  have vu2 := ((hEu55.2 _ 0 m0 nq54_p0).1).trans vu2
  have vu4 := ((hEu55.2 _ 1 m0 nq54_p0).1).trans vu4
  have f0_2 := ((hEu55.2 _ 2 m0 nq54_p0).1).trans f0_2
  have f0_3 := ((hEu55.2 _ 3 m0 nq54_p0).1).trans f0_3
  have f0_4 := ((hEu55.2 _ 4 m0 nq54_p0).1).trans f0_4
  have vu8 := ((hEu55.2 _ 0 mq1 nq54_q1).2.2).trans vu8
  have vu12 := ((hEu55.2 _ 1 mq1 nq54_q1).2.2).trans vu12
  have vu16 := ((hEu55.2 _ 2 mq1 nq54_q1).2.2).trans vu16
  have vu20 := ((hEu55.2 _ 3 mq1 nq54_q1).2.2).trans vu20
  have vu24 := ((hEu55.2 _ 4 mq1 nq54_q1).2.2).trans vu24
  have vu28 := ((hEu55.2 _ 5 mq1 nq54_q1).2.2).trans vu28
  have vu32 := ((hEu55.2 _ 6 mq1 nq54_q1).2.2).trans vu32
  have vu36 := ((hEu55.2 _ 7 mq1 nq54_q1).2.2).trans vu36
  have vu40 := ((hEu55.2 _ 8 mq1 nq54_q1).2.2).trans vu40
  have vu44 := ((hEu55.2 _ 9 mq1 nq54_q1).2.2).trans vu44
  have vu48 := ((hEu55.2 _ 0 mq3 nq54_q3).2.2).trans vu48
  have vu52 := ((hEu55.2 _ 1 mq3 nq54_q3).2.2).trans vu52
  have g0 : tag p0 = 53 := ((hEu55.1 _ m0).2 nq54_p0).trans g0
  have gq1 : tag q1 = 59 := ((hEu55.1 _ mq1).2 nq54_q1).trans gq1
  have gq3 : tag q3 = 60 := ((hEu55.1 _ mq3).2 nq54_q3).trans gq3
  have gq6 : tag q6 = 19 := ((hEu55.1 _ mq6).2 nq54_q6).trans gq6
  have gq10 : tag q10 = 19 := ((hEu55.1 _ mq10).2 nq54_q10).trans gq10
  have gq14 : tag q14 = 19 := ((hEu55.1 _ mq14).2 nq54_q14).trans gq14
  have gq18 : tag q18 = 19 := ((hEu55.1 _ mq18).2 nq54_q18).trans gq18
  have gq22 : tag q22 = 19 := ((hEu55.1 _ mq22).2 nq54_q22).trans gq22
  have gq26 : tag q26 = 19 := ((hEu55.1 _ mq26).2 nq54_q26).trans gq26
  have gq30 : tag q30 = 19 := ((hEu55.1 _ mq30).2 nq54_q30).trans gq30
  have gq34 : tag q34 = 19 := ((hEu55.1 _ mq34).2 nq54_q34).trans gq34
  have gq38 : tag q38 = 19 := ((hEu55.1 _ mq38).2 nq54_q38).trans gq38
  have gq42 : tag q42 = 19 := ((hEu55.1 _ mq42).2 nq54_q42).trans gq42
  have gq46 : tag q46 = 19 := ((hEu55.1 _ mq46).2 nq54_q46).trans gq46
  have gq50 : tag q50 = 19 := ((hEu55.1 _ mq50).2 nq54_q50).trans gq50
  have hE := EXTR.tr hE hEu55 (fun b hb _ => zq54 b hb) (fun h => (hEu55.1 _ ((hE.1 _ h).1)).1)
  have m0 : p0 ∈ L := (hEu55.1 _ m0).1
  have mq1 : q1 ∈ L := (hEu55.1 _ mq1).1
  have mq3 : q3 ∈ L := (hEu55.1 _ mq3).1
  have mq6 : q6 ∈ L := (hEu55.1 _ mq6).1
  have mq10 : q10 ∈ L := (hEu55.1 _ mq10).1
  have mq14 : q14 ∈ L := (hEu55.1 _ mq14).1
  have mq18 : q18 ∈ L := (hEu55.1 _ mq18).1
  have mq22 : q22 ∈ L := (hEu55.1 _ mq22).1
  have mq26 : q26 ∈ L := (hEu55.1 _ mq26).1
  have mq30 : q30 ∈ L := (hEu55.1 _ mq30).1
  have mq34 : q34 ∈ L := (hEu55.1 _ mq34).1
  have mq38 : q38 ∈ L := (hEu55.1 _ mq38).1
  have mq42 : q42 ∈ L := (hEu55.1 _ mq42).1
  have mq46 : q46 ∈ L := (hEu55.1 _ mq46).1
  have mq50 : q50 ∈ L := (hEu55.1 _ mq50).1
  refine t_ast X hT mq3 gq3 rfl mq54 gq54 rfl (vin (by decide)) dX2_init_67 (fun F H locs hT vu56 h1u56 h2u56 => ?_)
  have vu2 := ((h2u56 _ 0 (tne g0 gq3 (by decide))).1).trans vu2
  have vu4 := ((h2u56 _ 1 (tne g0 gq3 (by decide))).1).trans vu4
  have f0_2 := ((h2u56 _ 2 (tne g0 gq3 (by decide))).1).trans f0_2
  have f0_3 := ((h2u56 _ 3 (tne g0 gq3 (by decide))).1).trans f0_3
  have f0_4 := ((h2u56 _ 4 (tne g0 gq3 (by decide))).1).trans f0_4
  have vu8 := ((h2u56 _ 0 (tne gq1 gq3 (by decide))).2.2).trans vu8
  have vu12 := ((h2u56 _ 1 (tne gq1 gq3 (by decide))).2.2).trans vu12
  have vu16 := ((h2u56 _ 2 (tne gq1 gq3 (by decide))).2.2).trans vu16
  have vu20 := ((h2u56 _ 3 (tne gq1 gq3 (by decide))).2.2).trans vu20
  have vu24 := ((h2u56 _ 4 (tne gq1 gq3 (by decide))).2.2).trans vu24
  have vu28 := ((h2u56 _ 5 (tne gq1 gq3 (by decide))).2.2).trans vu28
  have vu32 := ((h2u56 _ 6 (tne gq1 gq3 (by decide))).2.2).trans vu32
  have vu36 := ((h2u56 _ 7 (tne gq1 gq3 (by decide))).2.2).trans vu36
  have vu40 := ((h2u56 _ 8 (tne gq1 gq3 (by decide))).2.2).trans vu40
  have vu44 := ((h2u56 _ 9 (tne gq1 gq3 (by decide))).2.2).trans vu44
  have vu48 := (h1u56 0 (by decide)).trans vu48
  have vu52 := (h1u56 1 (by decide)).trans vu52
  have hE := EXTR.tr (q := q3) (u := (tag, L, F)) hE (show EXTR q3 tag L _ (tag, L, F) from ⟨fun b hb => ⟨hb, fun _ => rfl⟩, fun b j _ hb => h2u56 b j hb⟩) (fun b hb _ => zq3 b hb) (fun h => (hE.1 _ h).1)
  have vu56 : elr F q3 2 = some q54 := vu56
  refine lv_iinc (v := 3) (lv' := [(1, .int 3), (0, .ref p0)]) hx hb dX2_init_68 hl (k := 0) rfl (by decide) (by decide) rfl (fun ls hl => ?_)
  refine lv_goto (tgt := 50) hx hb dX2_init_71 (by decide) ?_
  refine lv_iload_n hx hb dX2_init_50 rfl (lv_at hl 0 rfl) ?_
  refine lv_iconst (v := 3) hx hb dX2_init_51 (by decide) ?_
  refine lv_icmp_ge (tgt := 74) hx hb dX2_init_52 (by decide) (fun _ => ?_) (fun c9 => absurd c9 (by decide))
  have hT := th_doneA (t := 16) (n := 10) hT mq1 gq1 rfl rfl (nl_of (by decide)) (fun j hj => by
    match j, hj with
    | 0, _ => exact ⟨q6, vu8, mq6, by rw [tup_ne (tne gq6 gq1 (by decide))]; rw [gq6]; rfl⟩
    | 1, _ => exact ⟨q10, vu12, mq10, by rw [tup_ne (tne gq10 gq1 (by decide))]; rw [gq10]; rfl⟩
    | 2, _ => exact ⟨q14, vu16, mq14, by rw [tup_ne (tne gq14 gq1 (by decide))]; rw [gq14]; rfl⟩
    | 3, _ => exact ⟨q18, vu20, mq18, by rw [tup_ne (tne gq18 gq1 (by decide))]; rw [gq18]; rfl⟩
    | 4, _ => exact ⟨q22, vu24, mq22, by rw [tup_ne (tne gq22 gq1 (by decide))]; rw [gq22]; rfl⟩
    | 5, _ => exact ⟨q26, vu28, mq26, by rw [tup_ne (tne gq26 gq1 (by decide))]; rw [gq26]; rfl⟩
    | 6, _ => exact ⟨q30, vu32, mq30, by rw [tup_ne (tne gq30 gq1 (by decide))]; rw [gq30]; rfl⟩
    | 7, _ => exact ⟨q34, vu36, mq34, by rw [tup_ne (tne gq34 gq1 (by decide))]; rw [gq34]; rfl⟩
    | 8, _ => exact ⟨q38, vu40, mq38, by rw [tup_ne (tne gq38 gq1 (by decide))]; rw [gq38]; rfl⟩
    | 9, _ => exact ⟨q42, vu44, mq42, by rw [tup_ne (tne gq42 gq1 (by decide))]; rw [gq42]; rfl⟩
    | j + 10, hj => exact absurd hj (by omega))
  have hE := extr_re2 (t := 16) hE zq1
  have g0 := (tup_ne (tag := tag) (t := 16) (tne g0 gq1 (by decide))).trans g0
  have gq3 := (tup_ne (tag := tag) (t := 16) (tne gq3 gq1 (by decide))).trans gq3
  have gq6 := (tup_ne (tag := tag) (t := 16) (tne gq6 gq1 (by decide))).trans gq6
  have gq10 := (tup_ne (tag := tag) (t := 16) (tne gq10 gq1 (by decide))).trans gq10
  have gq14 := (tup_ne (tag := tag) (t := 16) (tne gq14 gq1 (by decide))).trans gq14
  have gq18 := (tup_ne (tag := tag) (t := 16) (tne gq18 gq1 (by decide))).trans gq18
  have gq22 := (tup_ne (tag := tag) (t := 16) (tne gq22 gq1 (by decide))).trans gq22
  have gq26 := (tup_ne (tag := tag) (t := 16) (tne gq26 gq1 (by decide))).trans gq26
  have gq30 := (tup_ne (tag := tag) (t := 16) (tne gq30 gq1 (by decide))).trans gq30
  have gq34 := (tup_ne (tag := tag) (t := 16) (tne gq34 gq1 (by decide))).trans gq34
  have gq38 := (tup_ne (tag := tag) (t := 16) (tne gq38 gq1 (by decide))).trans gq38
  have gq42 := (tup_ne (tag := tag) (t := 16) (tne gq42 gq1 (by decide))).trans gq42
  have gq46 := (tup_ne (tag := tag) (t := 16) (tne gq46 gq1 (by decide))).trans gq46
  have gq50 := (tup_ne (tag := tag) (t := 16) (tne gq50 gq1 (by decide))).trans gq50
  have gq54 := (tup_ne (tag := tag) (t := 16) (tne gq54 gq1 (by decide))).trans gq54
  have gq1 : tup tag q1 16 q1 = 16 := tup_self
  generalize tup tag q1 16 = tag at hT hE g0 gq1 gq3 gq6 gq10 gq14 gq18 gq22 gq26 gq30 gq34 gq38 gq42 gq46 gq50 gq54
  have hT := th_doneA (t := 17) (n := 3) hT mq3 gq3 rfl rfl (nl_of (by decide)) (fun j hj => by
    match j, hj with
    | 0, _ => exact ⟨q46, vu48, mq46, by rw [tup_ne (tne gq46 gq3 (by decide))]; rw [gq46]; rfl⟩
    | 1, _ => exact ⟨q50, vu52, mq50, by rw [tup_ne (tne gq50 gq3 (by decide))]; rw [gq50]; rfl⟩
    | 2, _ => exact ⟨q54, vu56, mq54, by rw [tup_ne (tne gq54 gq3 (by decide))]; rw [gq54]; rfl⟩
    | j + 3, hj => exact absurd hj (by omega))
  have hE := extr_re2 (t := 17) hE zq3
  have g0 := (tup_ne (tag := tag) (t := 17) (tne g0 gq3 (by decide))).trans g0
  have gq1 := (tup_ne (tag := tag) (t := 17) (tne gq1 gq3 (by decide))).trans gq1
  have gq6 := (tup_ne (tag := tag) (t := 17) (tne gq6 gq3 (by decide))).trans gq6
  have gq10 := (tup_ne (tag := tag) (t := 17) (tne gq10 gq3 (by decide))).trans gq10
  have gq14 := (tup_ne (tag := tag) (t := 17) (tne gq14 gq3 (by decide))).trans gq14
  have gq18 := (tup_ne (tag := tag) (t := 17) (tne gq18 gq3 (by decide))).trans gq18
  have gq22 := (tup_ne (tag := tag) (t := 17) (tne gq22 gq3 (by decide))).trans gq22
  have gq26 := (tup_ne (tag := tag) (t := 17) (tne gq26 gq3 (by decide))).trans gq26
  have gq30 := (tup_ne (tag := tag) (t := 17) (tne gq30 gq3 (by decide))).trans gq30
  have gq34 := (tup_ne (tag := tag) (t := 17) (tne gq34 gq3 (by decide))).trans gq34
  have gq38 := (tup_ne (tag := tag) (t := 17) (tne gq38 gq3 (by decide))).trans gq38
  have gq42 := (tup_ne (tag := tag) (t := 17) (tne gq42 gq3 (by decide))).trans gq42
  have gq46 := (tup_ne (tag := tag) (t := 17) (tne gq46 gq3 (by decide))).trans gq46
  have gq50 := (tup_ne (tag := tag) (t := 17) (tne gq50 gq3 (by decide))).trans gq50
  have gq54 := (tup_ne (tag := tag) (t := 17) (tne gq54 gq3 (by decide))).trans gq54
  have gq3 : tup tag q3 17 q3 = 17 := tup_self
  generalize tup tag q3 17 = tag at hT hE g0 gq1 gq3 gq6 gq10 gq14 gq18 gq22 gq26 gq30 gq34 gq38 gq42 gq46 gq50 gq54
  have hT := th_done (t := 23) hT m0 g0 rfl rfl rfl (nl_of (by decide)) (fun k f hk => by
    match k, hk with
    | 0, hk => obtain rfl := Option.some.inj (show some ((1, 16, 0) : FT) = some f from hk); rw [vu2]; exact ⟨q1, rfl, mq1, by rw [tup_ne (tne gq1 g0 (by decide))]; rw [gq1]; rfl⟩
    | 1, hk => obtain rfl := Option.some.inj (show some ((1, 17, 0) : FT) = some f from hk); rw [vu4]; exact ⟨q3, rfl, mq3, by rw [tup_ne (tne gq3 g0 (by decide))]; rw [gq3]; rfl⟩
    | 2, hk => obtain rfl := Option.some.inj (show some ((0, 0, 9) : FT) = some f from hk); rw [f0_2]; exact ⟨0, rfl, by decide, by decide⟩
    | 3, hk => obtain rfl := Option.some.inj (show some ((0, 0, 10) : FT) = some f from hk); rw [f0_3]; exact ⟨0, rfl, by decide, by decide⟩
    | 4, hk => obtain rfl := Option.some.inj (show some ((0, 0, 3) : FT) = some f from hk); rw [f0_4]; exact ⟨0, rfl, by decide, by decide⟩
    | k + 5, hk => exact absurd hk (by simp))
  exact t_vreta hQ X hT ⟨extr_re hE, m0, tup_self⟩ (Nat.le_of_ble_eq_true rfl) (Nat.le_of_ble_eq_true rfl) dX2_init_74
