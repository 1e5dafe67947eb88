set_option maxHeartbeats 4000000 in
set_option maxRecDepth 100000 in
theorem ka_X11_init (l : Launch) (G : KG) (tag0 : Nat → Nat) (L0 : List Nat) (Fo : Nat → va_E) (ho : okT G ttC tag0 L0 Fo) (p0 : Nat) (m0 : p0 ∈ L0) (g0 : tag0 p0 = 56) (f0_0 : fld Fo p0 0 = .null) (f0_1 : fld Fo p0 1 = .int 0) (f0_2 : fld Fo p0 2 = .int 0) (f0_3 : fld Fo p0 3 = .null) (f0_4 : fld Fo p0 4 = .null) (f0_5 : fld Fo p0 5 = .null) (f0_6 : fld Fo p0 6 = .null) (f0_7 : fld Fo p0 7 = .null) (f0_8 : fld Fo p0 8 = .null) (f0_9 : fld Fo p0 9 = .null) (f0_10 : fld Fo p0 10 = .null) (f0_11 : fld Fo p0 11 = .null) (f0_12 : fld Fo p0 12 = .null) (f0_13 : fld Fo p0 13 = .int 0) (f0_14 : fld Fo p0 14 = .int 0) (f0_15 : fld Fo p0 15 = .int 0) : TMa l yX11_init cX11_init 1 { frames := 3, cells := 137, slots := 5155, locals := 53 } G ttC tag0 L0 Fo [.ref p0] (fun u => EXTR p0 tag0 L0 Fo u ∧ p0 ∈ u.2.1 ∧ u.1 p0 = 26 ∧ (∃ rd xs xn : Nat, fld u.2.2 p0 8 = .ref rd ∧ rd ∈ u.2.1 ∧ u.1 rd = 25 ∧ fld u.2.2 rd 10 = .ref xs ∧ fld u.2.2 rd 11 = .ref xn ∧ xs ∈ u.2.1 ∧ xn ∈ u.2.1 ∧ u.1 xs = 14 ∧ u.1 xn = 15 ∧ (∀ j : Nat, elm u.2.2 xs j = 0)) ∧ (fld u.2.2 p0 1 = .int 0)) := by
  refine t_bodya (y := yX11_init) (cd := cX11_init) (mL := 1) (rm := { frames := 3, cells := 137, slots := 5155, locals := 53 }) (av := [.ref p0]) (by decide) (Nat.le_of_ble_eq_true rfl) ho ?_
  intro p e s m args below meth c ls A Q hQ X hi hT hl
  have hx := X.1.1
  have hb := X.1.2.1
  have hi : meth.name = "<init>" := hi
  have hl : lv_has ls 1 [(0, .ref p0)] := hl
  obtain ⟨tag, htg⟩ : ∃ t : Nat → Nat, t = tag0 := ⟨_, rfl⟩
  obtain ⟨L, hLL⟩ : ∃ t : List Nat, t = L0 := ⟨_, rfl⟩
  obtain ⟨F, hFF⟩ : ∃ t : Nat → va_E, t = Fo := ⟨_, rfl⟩
  have hE : EXTR p0 tag0 L0 Fo (tag, L, F) := by rw [htg, hLL, hFF]; exact EXTR.rf
  rw [← htg, ← hLL, ← hFF] at hT
  have m0 : p0 ∈ L := by rw [hLL]; exact m0
  have g0 : tag p0 = 56 := by rw [htg]; exact g0
  rw [← hFF] at f0_0 f0_1 f0_2 f0_3 f0_4 f0_5 f0_6 f0_7 f0_8 f0_9 f0_10 f0_11 f0_12 f0_13 f0_14 f0_15
  refine lv_aload_n hx hb dX11_init_0 rfl (lv_at hl 0 rfl) ?_
  refine m_objI X hl qw_10 qw_11 qw_12 dX11_init_1 (Nat.le_of_ble_eq_true rfl) (Nat.le_of_ble_eq_true rfl) ?_
  refine lv_aload_n hx hb dX11_init_4 rfl (lv_at hl 0 rfl) ?_
  refine lv_sipush (v := 1000) hx hb dX11_init_5 (by decide) ?_
  refine t_newa (atype := .int) (a0 := (1000, .inl (fun _ => 0))) (t := 1) X hT 0 rfl qw_13 (fun _ => rfl) (by decide) (by decide) (Nat.le_of_ble_eq_true rfl) (Nat.le_of_ble_eq_true rfl) (Nat.le_of_ble_eq_true rfl) dX11_init_8 (fun t9 l9 => (show okA G t9 l9 (0, 1000, fun _ => (0, 255)) (.inl (G.2 0, (1000, .inl (fun _ => 0)))) from ⟨_, rfl, fun _ _ => ⟨show (0 : Int) ≤ (0 : Int32).toInt from by decide, show (0 : Int32).toInt ≤ (255 : Int) from by decide⟩⟩)) (fun q1 tag L F H hT mq1 gq1 kq1 Fq1 hEq1 hxq1 => ?_)
  have f0_0 := (((hxq1 _ m0).2 0).1).trans f0_0
  have f0_1 := (((hxq1 _ m0).2 1).1).trans f0_1
  have f0_2 := (((hxq1 _ m0).2 2).1).trans f0_2
  have f0_3 := (((hxq1 _ m0).2 3).1).trans f0_3
  have f0_4 := (((hxq1 _ m0).2 4).1).trans f0_4
  have f0_5 := (((hxq1 _ m0).2 5).1).trans f0_5
  have f0_6 := (((hxq1 _ m0).2 6).1).trans f0_6
  have f0_7 := (((hxq1 _ m0).2 7).1).trans f0_7
  have f0_8 := (((hxq1 _ m0).2 8).1).trans f0_8
  have f0_9 := (((hxq1 _ m0).2 9).1).trans f0_9
  have f0_10 := (((hxq1 _ m0).2 10).1).trans f0_10
  have f0_11 := (((hxq1 _ m0).2 11).1).trans f0_11
  have f0_12 := (((hxq1 _ m0).2 12).1).trans f0_12
  have f0_13 := (((hxq1 _ m0).2 13).1).trans f0_13
  have f0_14 := (((hxq1 _ m0).2 14).1).trans f0_14
  have f0_15 := (((hxq1 _ m0).2 15).1).trans f0_15
  have g0 := (hxq1 _ m0).1.trans g0
  have zq1 : ∀ b ∈ L0, b ≠ q1 := fun b hb h => kq1 (h ▸ (hE.1 b hb).1)
  have nq1_p0 : p0 ≠ q1 := fun h => kq1 (h ▸ m0)
  have hE := EXTR.tr hE hEq1 (fun b hb _ => zq1 b hb) (fun h => (hEq1.1 _ ((hE.1 _ h).1)).1)
  have m0 := (hEq1.1 _ m0).1
  refine t_putF (C := RX11) (T := TX11) (N := 16) (v := .ref q1) X hi hT m0 g0 rfl tyX11 tyX11_ok nmX11 rfl 0 (by decide) qw_14 inlX11 rfl rfl (by first | rfl | decide) (by first | rfl | decide) rfl trivial dX11_init_10 (fun F H locs hT vu2 h1u2 h2u2 => ?_)
  have f0_1 := (h1u2 1 (by decide)).trans f0_1
  have f0_2 := (h1u2 2 (by decide)).trans f0_2
  have f0_3 := (h1u2 3 (by decide)).trans f0_3
  have f0_4 := (h1u2 4 (by decide)).trans f0_4
  have f0_5 := (h1u2 5 (by decide)).trans f0_5
  have f0_6 := (h1u2 6 (by decide)).trans f0_6
  have f0_7 := (h1u2 7 (by decide)).trans f0_7
  have f0_8 := (h1u2 8 (by decide)).trans f0_8
  have f0_9 := (h1u2 9 (by decide)).trans f0_9
  have f0_10 := (h1u2 10 (by decide)).trans f0_10
  have f0_11 := (h1u2 11 (by decide)).trans f0_11
  have f0_12 := (h1u2 12 (by decide)).trans f0_12
  have f0_13 := (h1u2 13 (by decide)).trans f0_13
  have f0_14 := (h1u2 14 (by decide)).trans f0_14
  have f0_15 := (h1u2 15 (by decide)).trans f0_15
  have hE := EXTR.tr (u := (tag, L, F)) hE (show EXTR p0 tag L _ (tag, L, F) from ⟨fun b hb => ⟨hb, fun _ => rfl⟩, fun b j _ hb => h2u2 b j hb⟩) (fun _ _ h => h) (fun h => (hE.1 _ h).1)
  refine lv_aload_n hx hb dX11_init_13 rfl (lv_at hl 0 rfl) ?_
  refine t_new (C := RX1) (T := TX1) (N := 20) (ci := 1) (fs := [.int 0, .int 0, .int 0, .int 0, .int 0, .int 0, .int 0, .null, .int 0, .null, .int 0, .null, .null, .null, .int 0, .null, .int 0, .null, .null, .null]) (t := 49) X hT tyX1 tyX1_ok inlX1 qw_15 qw_16 qw_17 rfl (by decide +kernel) (Nat.le_of_ble_eq_true rfl) (Nat.le_of_ble_eq_true rfl) dX11_init_14 rfl rfl (by decide) (fun q3 tag L F H hT mq3 gq3 kq3 Fq3 hEq3 hxq3 => ?_)
  have vu2 := (((hxq3 _ m0).2 0).1).trans vu2
  have f0_1 := (((hxq3 _ m0).2 1).1).trans f0_1
  have f0_2 := (((hxq3 _ m0).2 2).1).trans f0_2
  have f0_3 := (((hxq3 _ m0).2 3).1).trans f0_3
  have f0_4 := (((hxq3 _ m0).2 4).1).trans f0_4
  have f0_5 := (((hxq3 _ m0).2 5).1).trans f0_5
  have f0_6 := (((hxq3 _ m0).2 6).1).trans f0_6
  have f0_7 := (((hxq3 _ m0).2 7).1).trans f0_7
  have f0_8 := (((hxq3 _ m0).2 8).1).trans f0_8
  have f0_9 := (((hxq3 _ m0).2 9).1).trans f0_9
  have f0_10 := (((hxq3 _ m0).2 10).1).trans f0_10
  have f0_11 := (((hxq3 _ m0).2 11).1).trans f0_11
  have f0_12 := (((hxq3 _ m0).2 12).1).trans f0_12
  have f0_13 := (((hxq3 _ m0).2 13).1).trans f0_13
  have f0_14 := (((hxq3 _ m0).2 14).1).trans f0_14
  have f0_15 := (((hxq3 _ m0).2 15).1).trans f0_15
  have g0 := (hxq3 _ m0).1.trans g0
  have gq1 := (hxq3 _ mq1).1.trans gq1
  have zq3 : ∀ b ∈ L0, b ≠ q3 := fun b hb h => kq3 (h ▸ (hE.1 b hb).1)
  have nq3_p0 : p0 ≠ q3 := fun h => kq3 (h ▸ m0)
  have nq3_q1 : q1 ≠ q3 := fun h => kq3 (h ▸ mq1)
  have hE := EXTR.tr hE hEq3 (fun b hb _ => zq3 b hb) (fun h => (hEq3.1 _ ((hE.1 _ h).1)).1)
  have m0 := (hEq3.1 _ m0).1
  have mq1 := (hEq3.1 _ mq1).1
  refine lv_dup hx hb dX11_init_17 rfl ?_
  refine t_caN (n := 0) (host := "YearSkins") (As := []) (rest := [.ref q3, .ref p0]) X hT (ka_X1_init l G tag L F hT.2.2.2 q3 mq3 gq3 (by unfold fld; rw [Fq3]; rfl) (by unfold fld; rw [Fq3]; rfl) (by unfold fld; rw [Fq3]; rfl) (by unfold fld; rw [Fq3]; rfl) (by unfold fld; rw [Fq3]; rfl) (by unfold fld; rw [Fq3]; rfl) (by unfold fld; rw [Fq3]; rfl) (by unfold fld; rw [Fq3]; rfl) (by unfold fld; rw [Fq3]; rfl) (by unfold fld; rw [Fq3]; rfl) (by unfold fld; rw [Fq3]; rfl) (by unfold fld; rw [Fq3]; rfl) (by unfold fld; rw [Fq3]; rfl) (by unfold fld; rw [Fq3]; rfl) (by unfold fld; rw [Fq3]; rfl) (by unfold fld; rw [Fq3]; rfl) (by unfold fld; rw [Fq3]; rfl) (by unfold fld; rw [Fq3]; rfl) (by unfold fld; rw [Fq3]; rfl) (by unfold fld; rw [Fq3]; rfl)) (List.mem_of_getElem? (i := 0) rfl) qw_46 qw_17 qw_47 rfl ⟨by decide +kernel, by decide +kernel, by decide +kernel⟩ ⟨(Nat.le_of_ble_eq_true rfl), (Nat.le_of_ble_eq_true rfl)⟩ hl rfl rfl (Nat.le_of_ble_eq_true rfl) dX11_init_18 ⟨(Nat.le_of_ble_eq_true rfl), (Nat.le_of_ble_eq_true rfl)⟩ (fun u4 H locs hT hu4 => ?_)
  obtain ⟨tag, L, F⟩ := u4
  have hT : TH G ttC A s tag L F H locs := hT
  obtain ⟨hEu4, mq3, gq3⟩ := hu4
  have mq3 : q3 ∈ L := mq3
  have gq3 : tag q3 = 18 := gq3
  have vu2 := ((hEu4.2 _ 0 m0 nq3_p0).1).trans vu2
  have f0_1 := ((hEu4.2 _ 1 m0 nq3_p0).1).trans f0_1
  have f0_2 := ((hEu4.2 _ 2 m0 nq3_p0).1).trans f0_2
  have f0_3 := ((hEu4.2 _ 3 m0 nq3_p0).1).trans f0_3
  have f0_4 := ((hEu4.2 _ 4 m0 nq3_p0).1).trans f0_4
  have f0_5 := ((hEu4.2 _ 5 m0 nq3_p0).1).trans f0_5
  have f0_6 := ((hEu4.2 _ 6 m0 nq3_p0).1).trans f0_6
  have f0_7 := ((hEu4.2 _ 7 m0 nq3_p0).1).trans f0_7
  have f0_8 := ((hEu4.2 _ 8 m0 nq3_p0).1).trans f0_8
  have f0_9 := ((hEu4.2 _ 9 m0 nq3_p0).1).trans f0_9
  have f0_10 := ((hEu4.2 _ 10 m0 nq3_p0).1).trans f0_10
  have f0_11 := ((hEu4.2 _ 11 m0 nq3_p0).1).trans f0_11
  have f0_12 := ((hEu4.2 _ 12 m0 nq3_p0).1).trans f0_12
  have f0_13 := ((hEu4.2 _ 13 m0 nq3_p0).1).trans f0_13
  have f0_14 := ((hEu4.2 _ 14 m0 nq3_p0).1).trans f0_14
  have f0_15 := ((hEu4.2 _ 15 m0 nq3_p0).1).trans f0_15
  have g0 : tag p0 = 56 := ((hEu4.1 _ m0).2 nq3_p0).trans g0
  have gq1 : tag q1 = 1 := ((hEu4.1 _ mq1).2 nq3_q1).trans gq1
  have hE := EXTR.tr hE hEu4 (fun b hb _ => zq3 b hb) (fun h => (hEu4.1 _ ((hE.1 _ h).1)).1)
  have m0 : p0 ∈ L := (hEu4.1 _ m0).1
  have mq1 : q1 ∈ L := (hEu4.1 _ mq1).1
  refine t_putX (C := RX11) (T := TX11) (N := 16) (v := .ref q3) X hT m0 g0 rfl tyX11 tyX11_ok nmX11 rfl 3 (by decide) qw_18 inlX11 rfl (by first | rfl | decide) (by first | rfl | decide) rfl trivial dX11_init_21 (fun F H locs hT vu5 h1u5 h2u5 => ?_)
  have vu2 := (h1u5 0 (by decide)).trans vu2
  have f0_1 := (h1u5 1 (by decide)).trans f0_1
  have f0_2 := (h1u5 2 (by decide)).trans f0_2
  have f0_4 := (h1u5 4 (by decide)).trans f0_4
  have f0_5 := (h1u5 5 (by decide)).trans f0_5
  have f0_6 := (h1u5 6 (by decide)).trans f0_6
  have f0_7 := (h1u5 7 (by decide)).trans f0_7
  have f0_8 := (h1u5 8 (by decide)).trans f0_8
  have f0_9 := (h1u5 9 (by decide)).trans f0_9
  have f0_10 := (h1u5 10 (by decide)).trans f0_10
  have f0_11 := (h1u5 11 (by decide)).trans f0_11
  have f0_12 := (h1u5 12 (by decide)).trans f0_12
  have f0_13 := (h1u5 13 (by decide)).trans f0_13
  have f0_14 := (h1u5 14 (by decide)).trans f0_14
  have f0_15 := (h1u5 15 (by decide)).trans f0_15
  have hE := EXTR.tr (u := (tag, L, F)) hE (show EXTR p0 tag L _ (tag, L, F) from ⟨fun b hb => ⟨hb, fun _ => rfl⟩, fun b j _ hb => h2u5 b j hb⟩) (fun _ _ h => h) (fun h => (hE.1 _ h).1)
  refine lv_aload_n hx hb dX11_init_24 rfl (lv_at hl 0 rfl) ?_
  refine t_new (C := RX1) (T := TX1) (N := 20) (ci := 1) (fs := [.int 0, .int 0, .int 0, .int 0, .int 0, .int 0, .int 0, .null, .int 0, .null, .int 0, .null, .null, .null, .int 0, .null, .int 0, .null, .null, .null]) (t := 49) X hT tyX1 tyX1_ok inlX1 qw_15 qw_16 qw_17 rfl (by decide +kernel) (Nat.le_of_ble_eq_true rfl) (Nat.le_of_ble_eq_true rfl) dX11_init_25 rfl rfl (by decide) (fun q6 tag L F H hT mq6 gq6 kq6 Fq6 hEq6 hxq6 => ?_)
  have vu2 := (((hxq6 _ m0).2 0).1).trans vu2
  have f0_1 := (((hxq6 _ m0).2 1).1).trans f0_1
  have f0_2 := (((hxq6 _ m0).2 2).1).trans f0_2
  have vu5 := (((hxq6 _ m0).2 3).1).trans vu5
  have f0_4 := (((hxq6 _ m0).2 4).1).trans f0_4
  have f0_5 := (((hxq6 _ m0).2 5).1).trans f0_5
  have f0_6 := (((hxq6 _ m0).2 6).1).trans f0_6
  have f0_7 := (((hxq6 _ m0).2 7).1).trans f0_7
  have f0_8 := (((hxq6 _ m0).2 8).1).trans f0_8
  have f0_9 := (((hxq6 _ m0).2 9).1).trans f0_9
  have f0_10 := (((hxq6 _ m0).2 10).1).trans f0_10
  have f0_11 := (((hxq6 _ m0).2 11).1).trans f0_11
  have f0_12 := (((hxq6 _ m0).2 12).1).trans f0_12
  have f0_13 := (((hxq6 _ m0).2 13).1).trans f0_13
  have f0_14 := (((hxq6 _ m0).2 14).1).trans f0_14
  have f0_15 := (((hxq6 _ m0).2 15).1).trans f0_15
  have g0 := (hxq6 _ m0).1.trans g0
  have gq1 := (hxq6 _ mq1).1.trans gq1
  have gq3 := (hxq6 _ mq3).1.trans gq3
  have zq6 : ∀ b ∈ L0, b ≠ q6 := fun b hb h => kq6 (h ▸ (hE.1 b hb).1)
  have nq6_p0 : p0 ≠ q6 := fun h => kq6 (h ▸ m0)
  have nq6_q1 : q1 ≠ q6 := fun h => kq6 (h ▸ mq1)
  have nq6_q3 : q3 ≠ q6 := fun h => kq6 (h ▸ mq3)
  have hE := EXTR.tr hE hEq6 (fun b hb _ => zq6 b hb) (fun h => (hEq6.1 _ ((hE.1 _ h).1)).1)
  have m0 := (hEq6.1 _ m0).1
  have mq1 := (hEq6.1 _ mq1).1
  have mq3 := (hEq6.1 _ mq3).1
  refine lv_dup hx hb dX11_init_28 rfl ?_
  refine t_caN (n := 0) (host := "YearSkins") (As := []) (rest := [.ref q6, .ref p0]) X hT (ka_X1_init l G tag L F hT.2.2.2 q6 mq6 gq6 (by unfold fld; rw [Fq6]; rfl) (by unfold fld; rw [Fq6]; rfl) (by unfold fld; rw [Fq6]; rfl) (by unfold fld; rw [Fq6]; rfl) (by unfold fld; rw [Fq6]; rfl) (by unfold fld; rw [Fq6]; rfl) (by unfold fld; rw [Fq6]; rfl) (by unfold fld; rw [Fq6]; rfl) (by unfold fld; rw [Fq6]; rfl) (by unfold fld; rw [Fq6]; rfl) (by unfold fld; rw [Fq6]; rfl) (by unfold fld; rw [Fq6]; rfl) (by unfold fld; rw [Fq6]; rfl) (by unfold fld; rw [Fq6]; rfl) (by unfold fld; rw [Fq6]; rfl) (by unfold fld; rw [Fq6]; rfl) (by unfold fld; rw [Fq6]; rfl) (by unfold fld; rw [Fq6]; rfl) (by unfold fld; rw [Fq6]; rfl) (by unfold fld; rw [Fq6]; rfl)) (List.mem_of_getElem? (i := 0) rfl) qw_46 qw_17 qw_47 rfl ⟨by decide +kernel, by decide +kernel, by decide +kernel⟩ ⟨(Nat.le_of_ble_eq_true rfl), (Nat.le_of_ble_eq_true rfl)⟩ hl rfl rfl (Nat.le_of_ble_eq_true rfl) dX11_init_29 ⟨(Nat.le_of_ble_eq_true rfl), (Nat.le_of_ble_eq_true rfl)⟩ (fun u7 H locs hT hu7 => ?_)
  obtain ⟨tag, L, F⟩ := u7
  have hT : TH G ttC A s tag L F H locs := hT
  obtain ⟨hEu7, mq6, gq6⟩ := hu7
  have mq6 : q6 ∈ L := mq6
  have gq6 : tag q6 = 18 := gq6
  have vu2 := ((hEu7.2 _ 0 m0 nq6_p0).1).trans vu2
  have f0_1 := ((hEu7.2 _ 1 m0 nq6_p0).1).trans f0_1
  have f0_2 := ((hEu7.2 _ 2 m0 nq6_p0).1).trans f0_2
  have vu5 := ((hEu7.2 _ 3 m0 nq6_p0).1).trans vu5
  have f0_4 := ((hEu7.2 _ 4 m0 nq6_p0).1).trans f0_4
  have f0_5 := ((hEu7.2 _ 5 m0 nq6_p0).1).trans f0_5
  have f0_6 := ((hEu7.2 _ 6 m0 nq6_p0).1).trans f0_6
  have f0_7 := ((hEu7.2 _ 7 m0 nq6_p0).1).trans f0_7
  have f0_8 := ((hEu7.2 _ 8 m0 nq6_p0).1).trans f0_8
  have f0_9 := ((hEu7.2 _ 9 m0 nq6_p0).1).trans f0_9
  have f0_10 := ((hEu7.2 _ 10 m0 nq6_p0).1).trans f0_10
  have f0_11 := ((hEu7.2 _ 11 m0 nq6_p0).1).trans f0_11
  have f0_12 := ((hEu7.2 _ 12 m0 nq6_p0).1).trans f0_12
  have f0_13 := ((hEu7.2 _ 13 m0 nq6_p0).1).trans f0_13
  have f0_14 := ((hEu7.2 _ 14 m0 nq6_p0).1).trans f0_14
  have f0_15 := ((hEu7.2 _ 15 m0 nq6_p0).1).trans f0_15
  have g0 : tag p0 = 56 := ((hEu7.1 _ m0).2 nq6_p0).trans g0
  have gq1 : tag q1 = 1 := ((hEu7.1 _ mq1).2 nq6_q1).trans gq1
  have gq3 : tag q3 = 18 := ((hEu7.1 _ mq3).2 nq6_q3).trans gq3
  have hE := EXTR.tr hE hEu7 (fun b hb _ => zq6 b hb) (fun h => (hEu7.1 _ ((hE.1 _ h).1)).1)
  have m0 : p0 ∈ L := (hEu7.1 _ m0).1
  have mq1 : q1 ∈ L := (hEu7.1 _ mq1).1
  have mq3 : q3 ∈ L := (hEu7.1 _ mq3).1
  refine t_putX (C := RX11) (T := TX11) (N := 16) (v := .ref q6) X hT m0 g0 rfl tyX11 tyX11_ok nmX11 rfl 4 (by decide) qw_19 inlX11 rfl (by first | rfl | decide) (by first | rfl | decide) rfl trivial dX11_init_32 (fun F H locs hT vu8 h1u8 h2u8 => ?_)
  have vu2 := (h1u8 0 (by decide)).trans vu2
  have f0_1 := (h1u8 1 (by decide)).trans f0_1
  have f0_2 := (h1u8 2 (by decide)).trans f0_2
  have vu5 := (h1u8 3 (by decide)).trans vu5
  have f0_5 := (h1u8 5 (by decide)).trans f0_5
  have f0_6 := (h1u8 6 (by decide)).trans f0_6
  have f0_7 := (h1u8 7 (by decide)).trans f0_7
  have f0_8 := (h1u8 8 (by decide)).trans f0_8
  have f0_9 := (h1u8 9 (by decide)).trans f0_9
  have f0_10 := (h1u8 10 (by decide)).trans f0_10
  have f0_11 := (h1u8 11 (by decide)).trans f0_11
  have f0_12 := (h1u8 12 (by decide)).trans f0_12
  have f0_13 := (h1u8 13 (by decide)).trans f0_13
  have f0_14 := (h1u8 14 (by decide)).trans f0_14
  have f0_15 := (h1u8 15 (by decide)).trans f0_15
  have hE := EXTR.tr (u := (tag, L, F)) hE (show EXTR p0 tag L _ (tag, L, F) from ⟨fun b hb => ⟨hb, fun _ => rfl⟩, fun b j _ hb => h2u8 b j hb⟩) (fun _ _ h => h) (fun h => (hE.1 _ h).1)
  refine lv_aload_n hx hb dX11_init_35 rfl (lv_at hl 0 rfl) ?_
  refine t_new (C := RX7) (T := TX7) (N := 7) (ci := 4) (fs := [.int 0, .int 0, .null, .null, .null, .null, .null]) (t := 48) X hT tyX7 tyX7_ok inlX7 qw_20 qw_21 qw_22 rfl (by decide +kernel) (Nat.le_of_ble_eq_true rfl) (Nat.le_of_ble_eq_true rfl) dX11_init_36 rfl rfl (by decide) (fun q9 tag L F H hT mq9 gq9 kq9 Fq9 hEq9 hxq9 => ?_)
  have vu2 := (((hxq9 _ m0).2 0).1).trans vu2
  have f0_1 := (((hxq9 _ m0).2 1).1).trans f0_1
  have f0_2 := (((hxq9 _ m0).2 2).1).trans f0_2
  have vu5 := (((hxq9 _ m0).2 3).1).trans vu5
  have vu8 := (((hxq9 _ m0).2 4).1).trans vu8
  have f0_5 := (((hxq9 _ m0).2 5).1).trans f0_5
  have f0_6 := (((hxq9 _ m0).2 6).1).trans f0_6
  have f0_7 := (((hxq9 _ m0).2 7).1).trans f0_7
  have f0_8 := (((hxq9 _ m0).2 8).1).trans f0_8
  have f0_9 := (((hxq9 _ m0).2 9).1).trans f0_9
  have f0_10 := (((hxq9 _ m0).2 10).1).trans f0_10
  have f0_11 := (((hxq9 _ m0).2 11).1).trans f0_11
  have f0_12 := (((hxq9 _ m0).2 12).1).trans f0_12
  have f0_13 := (((hxq9 _ m0).2 13).1).trans f0_13
  have f0_14 := (((hxq9 _ m0).2 14).1).trans f0_14
  have f0_15 := (((hxq9 _ m0).2 15).1).trans f0_15
  have g0 := (hxq9 _ m0).1.trans g0
  have gq1 := (hxq9 _ mq1).1.trans gq1
  have gq3 := (hxq9 _ mq3).1.trans gq3
  have gq6 := (hxq9 _ mq6).1.trans gq6
  have zq9 : ∀ b ∈ L0, b ≠ q9 := fun b hb h => kq9 (h ▸ (hE.1 b hb).1)
  have nq9_p0 : p0 ≠ q9 := fun h => kq9 (h ▸ m0)
  have nq9_q1 : q1 ≠ q9 := fun h => kq9 (h ▸ mq1)
  have nq9_q3 : q3 ≠ q9 := fun h => kq9 (h ▸ mq3)
  have nq9_q6 : q6 ≠ q9 := fun h => kq9 (h ▸ mq6)
  have hE := EXTR.tr hE hEq9 (fun b hb _ => zq9 b hb) (fun h => (hEq9.1 _ ((hE.1 _ h).1)).1)
  have m0 := (hEq9.1 _ m0).1
  have mq1 := (hEq9.1 _ mq1).1
  have mq3 := (hEq9.1 _ mq3).1
  have mq6 := (hEq9.1 _ mq6).1
  refine lv_dup hx hb dX11_init_39 rfl ?_
  refine t_caN (n := 0) (host := "YearSkins") (As := []) (rest := [.ref q9, .ref p0]) X hT (ka_X7_init l G tag L F hT.2.2.2 q9 mq9 gq9 (by unfold fld; rw [Fq9]; rfl) (by unfold fld; rw [Fq9]; rfl) (by unfold fld; rw [Fq9]; rfl) (by unfold fld; rw [Fq9]; rfl) (by unfold fld; rw [Fq9]; rfl) (by unfold fld; rw [Fq9]; rfl) (by unfold fld; rw [Fq9]; rfl)) (List.mem_of_getElem? (i := 1) rfl) qw_59 qw_22 qw_60 rfl ⟨by decide +kernel, by decide +kernel, by decide +kernel⟩ ⟨(Nat.le_of_ble_eq_true rfl), (Nat.le_of_ble_eq_true rfl)⟩ hl rfl rfl (Nat.le_of_ble_eq_true rfl) dX11_init_40 ⟨(Nat.le_of_ble_eq_true rfl), (Nat.le_of_ble_eq_true rfl)⟩ (fun u10 H locs hT hu10 => ?_)
  obtain ⟨tag, L, F⟩ := u10
  have hT : TH G ttC A s tag L F H locs := hT
  obtain ⟨hEu10, mq9, gq9⟩ := hu10
  have mq9 : q9 ∈ L := mq9
  have gq9 : tag q9 = 19 := gq9
  have vu2 := ((hEu10.2 _ 0 m0 nq9_p0).1).trans vu2
  have f0_1 := ((hEu10.2 _ 1 m0 nq9_p0).1).trans f0_1
  have f0_2 := ((hEu10.2 _ 2 m0 nq9_p0).1).trans f0_2
  have vu5 := ((hEu10.2 _ 3 m0 nq9_p0).1).trans vu5
  have vu8 := ((hEu10.2 _ 4 m0 nq9_p0).1).trans vu8
  have f0_5 := ((hEu10.2 _ 5 m0 nq9_p0).1).trans f0_5
  have f0_6 := ((hEu10.2 _ 6 m0 nq9_p0).1).trans f0_6
  have f0_7 := ((hEu10.2 _ 7 m0 nq9_p0).1).trans f0_7
  have f0_8 := ((hEu10.2 _ 8 m0 nq9_p0).1).trans f0_8
  have f0_9 := ((hEu10.2 _ 9 m0 nq9_p0).1).trans f0_9
  have f0_10 := ((hEu10.2 _ 10 m0 nq9_p0).1).trans f0_10
  have f0_11 := ((hEu10.2 _ 11 m0 nq9_p0).1).trans f0_11
  have f0_12 := ((hEu10.2 _ 12 m0 nq9_p0).1).trans f0_12
  have f0_13 := ((hEu10.2 _ 13 m0 nq9_p0).1).trans f0_13
  have f0_14 := ((hEu10.2 _ 14 m0 nq9_p0).1).trans f0_14
  have f0_15 := ((hEu10.2 _ 15 m0 nq9_p0).1).trans f0_15
  have g0 : tag p0 = 56 := ((hEu10.1 _ m0).2 nq9_p0).trans g0
  have gq1 : tag q1 = 1 := ((hEu10.1 _ mq1).2 nq9_q1).trans gq1
  have gq3 : tag q3 = 18 := ((hEu10.1 _ mq3).2 nq9_q3).trans gq3
  have gq6 : tag q6 = 18 := ((hEu10.1 _ mq6).2 nq9_q6).trans gq6
  have hE := EXTR.tr hE hEu10 (fun b hb _ => zq9 b hb) (fun h => (hEu10.1 _ ((hE.1 _ h).1)).1)
  have m0 : p0 ∈ L := (hEu10.1 _ m0).1
  have mq1 : q1 ∈ L := (hEu10.1 _ mq1).1
  have mq3 : q3 ∈ L := (hEu10.1 _ mq3).1
  have mq6 : q6 ∈ L := (hEu10.1 _ mq6).1
  refine t_putF (C := RX11) (T := TX11) (N := 16) (v := .ref q9) X hi hT m0 g0 rfl tyX11 tyX11_ok nmX11 rfl 5 (by decide) qw_23 inlX11 rfl rfl (by first | rfl | decide) (by first | rfl | decide) rfl trivial dX11_init_43 (fun F H locs hT vu11 h1u11 h2u11 => ?_)
  have vu2 := (h1u11 0 (by decide)).trans vu2
  have f0_1 := (h1u11 1 (by decide)).trans f0_1
  have f0_2 := (h1u11 2 (by decide)).trans f0_2
  have vu5 := (h1u11 3 (by decide)).trans vu5
  have vu8 := (h1u11 4 (by decide)).trans vu8
  have f0_6 := (h1u11 6 (by decide)).trans f0_6
  have f0_7 := (h1u11 7 (by decide)).trans f0_7
  have f0_8 := (h1u11 8 (by decide)).trans f0_8
  have f0_9 := (h1u11 9 (by decide)).trans f0_9
  have f0_10 := (h1u11 10 (by decide)).trans f0_10
  have f0_11 := (h1u11 11 (by decide)).trans f0_11
  have f0_12 := (h1u11 12 (by decide)).trans f0_12
  have f0_13 := (h1u11 13 (by decide)).trans f0_13
  have f0_14 := (h1u11 14 (by decide)).trans f0_14
  have f0_15 := (h1u11 15 (by decide)).trans f0_15
  have hE := EXTR.tr (u := (tag, L, F)) hE (show EXTR p0 tag L _ (tag, L, F) from ⟨fun b hb => ⟨hb, fun _ => rfl⟩, fun b j _ hb => h2u11 b j hb⟩) (fun _ _ h => h) (fun h => (hE.1 _ h).1)
  refine lv_aload_n hx hb dX11_init_46 rfl (lv_at hl 0 rfl) ?_
  refine t_new (C := RX7) (T := TX7) (N := 7) (ci := 4) (fs := [.int 0, .int 0, .null, .null, .null, .null, .null]) (t := 48) X hT tyX7 tyX7_ok inlX7 qw_20 qw_21 qw_22 rfl (by decide +kernel) (Nat.le_of_ble_eq_true rfl) (Nat.le_of_ble_eq_true rfl) dX11_init_47 rfl rfl (by decide) (fun q12 tag L F H hT mq12 gq12 kq12 Fq12 hEq12 hxq12 => ?_)
  have vu2 := (((hxq12 _ m0).2 0).1).trans vu2
  have f0_1 := (((hxq12 _ m0).2 1).1).trans f0_1
  have f0_2 := (((hxq12 _ m0).2 2).1).trans f0_2
  have vu5 := (((hxq12 _ m0).2 3).1).trans vu5
  have vu8 := (((hxq12 _ m0).2 4).1).trans vu8
  have vu11 := (((hxq12 _ m0).2 5).1).trans vu11
  have f0_6 := (((hxq12 _ m0).2 6).1).trans f0_6
  have f0_7 := (((hxq12 _ m0).2 7).1).trans f0_7
  have f0_8 := (((hxq12 _ m0).2 8).1).trans f0_8
  have f0_9 := (((hxq12 _ m0).2 9).1).trans f0_9
  have f0_10 := (((hxq12 _ m0).2 10).1).trans f0_10
  have f0_11 := (((hxq12 _ m0).2 11).1).trans f0_11
  have f0_12 := (((hxq12 _ m0).2 12).1).trans f0_12
  have f0_13 := (((hxq12 _ m0).2 13).1).trans f0_13
  have f0_14 := (((hxq12 _ m0).2 14).1).trans f0_14
  have f0_15 := (((hxq12 _ m0).2 15).1).trans f0_15
  have g0 := (hxq12 _ m0).1.trans g0
  have gq1 := (hxq12 _ mq1).1.trans gq1
  have gq3 := (hxq12 _ mq3).1.trans gq3
  have gq6 := (hxq12 _ mq6).1.trans gq6
  have gq9 := (hxq12 _ mq9).1.trans gq9
  have zq12 : ∀ b ∈ L0, b ≠ q12 := fun b hb h => kq12 (h ▸ (hE.1 b hb).1)
  have nq12_p0 : p0 ≠ q12 := fun h => kq12 (h ▸ m0)
  have nq12_q1 : q1 ≠ q12 := fun h => kq12 (h ▸ mq1)
  have nq12_q3 : q3 ≠ q12 := fun h => kq12 (h ▸ mq3)
  have nq12_q6 : q6 ≠ q12 := fun h => kq12 (h ▸ mq6)
  have nq12_q9 : q9 ≠ q12 := fun h => kq12 (h ▸ mq9)
  have hE := EXTR.tr hE hEq12 (fun b hb _ => zq12 b hb) (fun h => (hEq12.1 _ ((hE.1 _ h).1)).1)
  have m0 := (hEq12.1 _ m0).1
  have mq1 := (hEq12.1 _ mq1).1
  have mq3 := (hEq12.1 _ mq3).1
  have mq6 := (hEq12.1 _ mq6).1
  have mq9 := (hEq12.1 _ mq9).1
  refine lv_dup hx hb dX11_init_50 rfl ?_
  refine t_caN (n := 0) (host := "YearSkins") (As := []) (rest := [.ref q12, .ref p0]) X hT (ka_X7_init l G tag L F hT.2.2.2 q12 mq12 gq12 (by unfold fld; rw [Fq12]; rfl) (by unfold fld; rw [Fq12]; rfl) (by unfold fld; rw [Fq12]; rfl) (by unfold fld; rw [Fq12]; rfl) (by unfold fld; rw [Fq12]; rfl) (by unfold fld; rw [Fq12]; rfl) (by unfold fld; rw [Fq12]; rfl)) (List.mem_of_getElem? (i := 1) rfl) qw_59 qw_22 qw_60 rfl ⟨by decide +kernel, by decide +kernel, by decide +kernel⟩ ⟨(Nat.le_of_ble_eq_true rfl), (Nat.le_of_ble_eq_true rfl)⟩ hl rfl rfl (Nat.le_of_ble_eq_true rfl) dX11_init_51 ⟨(Nat.le_of_ble_eq_true rfl), (Nat.le_of_ble_eq_true rfl)⟩ (fun u13 H locs hT hu13 => ?_)
  obtain ⟨tag, L, F⟩ := u13
  have hT : TH G ttC A s tag L F H locs := hT
  obtain ⟨hEu13, mq12, gq12⟩ := hu13
  have mq12 : q12 ∈ L := mq12
  have gq12 : tag q12 = 19 := gq12
  have vu2 := ((hEu13.2 _ 0 m0 nq12_p0).1).trans vu2
  have f0_1 := ((hEu13.2 _ 1 m0 nq12_p0).1).trans f0_1
  have f0_2 := ((hEu13.2 _ 2 m0 nq12_p0).1).trans f0_2
  have vu5 := ((hEu13.2 _ 3 m0 nq12_p0).1).trans vu5
  have vu8 := ((hEu13.2 _ 4 m0 nq12_p0).1).trans vu8
  have vu11 := ((hEu13.2 _ 5 m0 nq12_p0).1).trans vu11
  have f0_6 := ((hEu13.2 _ 6 m0 nq12_p0).1).trans f0_6
  have f0_7 := ((hEu13.2 _ 7 m0 nq12_p0).1).trans f0_7
  have f0_8 := ((hEu13.2 _ 8 m0 nq12_p0).1).trans f0_8
  have f0_9 := ((hEu13.2 _ 9 m0 nq12_p0).1).trans f0_9
  have f0_10 := ((hEu13.2 _ 10 m0 nq12_p0).1).trans f0_10
  have f0_11 := ((hEu13.2 _ 11 m0 nq12_p0).1).trans f0_11
  have f0_12 := ((hEu13.2 _ 12 m0 nq12_p0).1).trans f0_12
  have f0_13 := ((hEu13.2 _ 13 m0 nq12_p0).1).trans f0_13
  have f0_14 := ((hEu13.2 _ 14 m0 nq12_p0).1).trans f0_14
  have f0_15 := ((hEu13.2 _ 15 m0 nq12_p0).1).trans f0_15
  have g0 : tag p0 = 56 := ((hEu13.1 _ m0).2 nq12_p0).trans g0
  have gq1 : tag q1 = 1 := ((hEu13.1 _ mq1).2 nq12_q1).trans gq1
  have gq3 : tag q3 = 18 := ((hEu13.1 _ mq3).2 nq12_q3).trans gq3
  have gq6 : tag q6 = 18 := ((hEu13.1 _ mq6).2 nq12_q6).trans gq6
  have gq9 : tag q9 = 19 := ((hEu13.1 _ mq9).2 nq12_q9).trans gq9
  have hE := EXTR.tr hE hEu13 (fun b hb _ => zq12 b hb) (fun h => (hEu13.1 _ ((hE.1 _ h).1)).1)
  have m0 : p0 ∈ L := (hEu13.1 _ m0).1
  have mq1 : q1 ∈ L := (hEu13.1 _ mq1).1
  have mq3 : q3 ∈ L := (hEu13.1 _ mq3).1
  have mq6 : q6 ∈ L := (hEu13.1 _ mq6).1
  have mq9 : q9 ∈ L := (hEu13.1 _ mq9).1
  refine t_putF (C := RX11) (T := TX11) (N := 16) (v := .ref q12) X hi hT m0 g0 rfl tyX11 tyX11_ok nmX11 rfl 6 (by decide) qw_24 inlX11 rfl rfl (by first | rfl | decide) (by first | rfl | decide) rfl trivial dX11_init_54 (fun F H locs hT vu14 h1u14 h2u14 => ?_)
  have vu2 := (h1u14 0 (by decide)).trans vu2
  have f0_1 := (h1u14 1 (by decide)).trans f0_1
  have f0_2 := (h1u14 2 (by decide)).trans f0_2
  have vu5 := (h1u14 3 (by decide)).trans vu5
  have vu8 := (h1u14 4 (by decide)).trans vu8
  have vu11 := (h1u14 5 (by decide)).trans vu11
  have f0_7 := (h1u14 7 (by decide)).trans f0_7
  have f0_8 := (h1u14 8 (by decide)).trans f0_8
  have f0_9 := (h1u14 9 (by decide)).trans f0_9
  have f0_10 := (h1u14 10 (by decide)).trans f0_10
  have f0_11 := (h1u14 11 (by decide)).trans f0_11
  have f0_12 := (h1u14 12 (by decide)).trans f0_12
  have f0_13 := (h1u14 13 (by decide)).trans f0_13
  have f0_14 := (h1u14 14 (by decide)).trans f0_14
  have f0_15 := (h1u14 15 (by decide)).trans f0_15
  have hE := EXTR.tr (u := (tag, L, F)) hE (show EXTR p0 tag L _ (tag, L, F) from ⟨fun b hb => ⟨hb, fun _ => rfl⟩, fun b j _ hb => h2u14 b j hb⟩) (fun _ _ h => h) (fun h => (hE.1 _ h).1)
  refine lv_aload_n hx hb dX11_init_57 rfl (lv_at hl 0 rfl) ?_
  refine t_new (C := RX7) (T := TX7) (N := 7) (ci := 4) (fs := [.int 0, .int 0, .null, .null, .null, .null, .null]) (t := 48) X hT tyX7 tyX7_ok inlX7 qw_20 qw_21 qw_22 rfl (by decide +kernel) (Nat.le_of_ble_eq_true rfl) (Nat.le_of_ble_eq_true rfl) dX11_init_58 rfl rfl (by decide) (fun q15 tag L F H hT mq15 gq15 kq15 Fq15 hEq15 hxq15 => ?_)
  have vu2 := (((hxq15 _ m0).2 0).1).trans vu2
  have f0_1 := (((hxq15 _ m0).2 1).1).trans f0_1
  have f0_2 := (((hxq15 _ m0).2 2).1).trans f0_2
  have vu5 := (((hxq15 _ m0).2 3).1).trans vu5
  have vu8 := (((hxq15 _ m0).2 4).1).trans vu8
  have vu11 := (((hxq15 _ m0).2 5).1).trans vu11
  have vu14 := (((hxq15 _ m0).2 6).1).trans vu14
  have f0_7 := (((hxq15 _ m0).2 7).1).trans f0_7
  have f0_8 := (((hxq15 _ m0).2 8).1).trans f0_8
  have f0_9 := (((hxq15 _ m0).2 9).1).trans f0_9
  have f0_10 := (((hxq15 _ m0).2 10).1).trans f0_10
  have f0_11 := (((hxq15 _ m0).2 11).1).trans f0_11
  have f0_12 := (((hxq15 _ m0).2 12).1).trans f0_12
  have f0_13 := (((hxq15 _ m0).2 13).1).trans f0_13
  have f0_14 := (((hxq15 _ m0).2 14).1).trans f0_14
  have f0_15 := (((hxq15 _ m0).2 15).1).trans f0_15
  have g0 := (hxq15 _ m0).1.trans g0
  have gq1 := (hxq15 _ mq1).1.trans gq1
  have gq3 := (hxq15 _ mq3).1.trans gq3
  have gq6 := (hxq15 _ mq6).1.trans gq6
  have gq9 := (hxq15 _ mq9).1.trans gq9
  have gq12 := (hxq15 _ mq12).1.trans gq12
  have zq15 : ∀ b ∈ L0, b ≠ q15 := fun b hb h => kq15 (h ▸ (hE.1 b hb).1)
  have nq15_p0 : p0 ≠ q15 := fun h => kq15 (h ▸ m0)
  have nq15_q1 : q1 ≠ q15 := fun h => kq15 (h ▸ mq1)
  have nq15_q3 : q3 ≠ q15 := fun h => kq15 (h ▸ mq3)
  have nq15_q6 : q6 ≠ q15 := fun h => kq15 (h ▸ mq6)
  have nq15_q9 : q9 ≠ q15 := fun h => kq15 (h ▸ mq9)
  have nq15_q12 : q12 ≠ q15 := fun h => kq15 (h ▸ mq12)
  have hE := EXTR.tr hE hEq15 (fun b hb _ => zq15 b hb) (fun h => (hEq15.1 _ ((hE.1 _ h).1)).1)
  have m0 := (hEq15.1 _ m0).1
  have mq1 := (hEq15.1 _ mq1).1
  have mq3 := (hEq15.1 _ mq3).1
  have mq6 := (hEq15.1 _ mq6).1
  have mq9 := (hEq15.1 _ mq9).1
  have mq12 := (hEq15.1 _ mq12).1
  refine lv_dup hx hb dX11_init_61 rfl ?_
  refine t_caN (n := 0) (host := "YearSkins") (As := []) (rest := [.ref q15, .ref p0]) X hT (ka_X7_init l G tag L F hT.2.2.2 q15 mq15 gq15 (by unfold fld; rw [Fq15]; rfl) (by unfold fld; rw [Fq15]; rfl) (by unfold fld; rw [Fq15]; rfl) (by unfold fld; rw [Fq15]; rfl) (by unfold fld; rw [Fq15]; rfl) (by unfold fld; rw [Fq15]; rfl) (by unfold fld; rw [Fq15]; rfl)) (List.mem_of_getElem? (i := 1) rfl) qw_59 qw_22 qw_60 rfl ⟨by decide +kernel, by decide +kernel, by decide +kernel⟩ ⟨(Nat.le_of_ble_eq_true rfl), (Nat.le_of_ble_eq_true rfl)⟩ hl rfl rfl (Nat.le_of_ble_eq_true rfl) dX11_init_62 ⟨(Nat.le_of_ble_eq_true rfl), (Nat.le_of_ble_eq_true rfl)⟩ (fun u16 H locs hT hu16 => ?_)
  obtain ⟨tag, L, F⟩ := u16
  have hT : TH G ttC A s tag L F H locs := hT
  obtain ⟨hEu16, mq15, gq15⟩ := hu16
  have mq15 : q15 ∈ L := mq15
  have gq15 : tag q15 = 19 := gq15
  have vu2 := ((hEu16.2 _ 0 m0 nq15_p0).1).trans vu2
  have f0_1 := ((hEu16.2 _ 1 m0 nq15_p0).1).trans f0_1
  have f0_2 := ((hEu16.2 _ 2 m0 nq15_p0).1).trans f0_2
  have vu5 := ((hEu16.2 _ 3 m0 nq15_p0).1).trans vu5
  have vu8 := ((hEu16.2 _ 4 m0 nq15_p0).1).trans vu8
  have vu11 := ((hEu16.2 _ 5 m0 nq15_p0).1).trans vu11
  have vu14 := ((hEu16.2 _ 6 m0 nq15_p0).1).trans vu14
  have f0_7 := ((hEu16.2 _ 7 m0 nq15_p0).1).trans f0_7
  have f0_8 := ((hEu16.2 _ 8 m0 nq15_p0).1).trans f0_8
  have f0_9 := ((hEu16.2 _ 9 m0 nq15_p0).1).trans f0_9
  have f0_10 := ((hEu16.2 _ 10 m0 nq15_p0).1).trans f0_10
  have f0_11 := ((hEu16.2 _ 11 m0 nq15_p0).1).trans f0_11
  have f0_12 := ((hEu16.2 _ 12 m0 nq15_p0).1).trans f0_12
  have f0_13 := ((hEu16.2 _ 13 m0 nq15_p0).1).trans f0_13
  have f0_14 := ((hEu16.2 _ 14 m0 nq15_p0).1).trans f0_14
  have f0_15 := ((hEu16.2 _ 15 m0 nq15_p0).1).trans f0_15
  have g0 : tag p0 = 56 := ((hEu16.1 _ m0).2 nq15_p0).trans g0
  have gq1 : tag q1 = 1 := ((hEu16.1 _ mq1).2 nq15_q1).trans gq1
  have gq3 : tag q3 = 18 := ((hEu16.1 _ mq3).2 nq15_q3).trans gq3
  have gq6 : tag q6 = 18 := ((hEu16.1 _ mq6).2 nq15_q6).trans gq6
  have gq9 : tag q9 = 19 := ((hEu16.1 _ mq9).2 nq15_q9).trans gq9
  have gq12 : tag q12 = 19 := ((hEu16.1 _ mq12).2 nq15_q12).trans gq12
  have hE := EXTR.tr hE hEu16 (fun b hb _ => zq15 b hb) (fun h => (hEu16.1 _ ((hE.1 _ h).1)).1)
  have m0 : p0 ∈ L := (hEu16.1 _ m0).1
  have mq1 : q1 ∈ L := (hEu16.1 _ mq1).1
  have mq3 : q3 ∈ L := (hEu16.1 _ mq3).1
  have mq6 : q6 ∈ L := (hEu16.1 _ mq6).1
  have mq9 : q9 ∈ L := (hEu16.1 _ mq9).1
  have mq12 : q12 ∈ L := (hEu16.1 _ mq12).1
  refine t_putF (C := RX11) (T := TX11) (N := 16) (v := .ref q15) X hi hT m0 g0 rfl tyX11 tyX11_ok nmX11 rfl 7 (by decide) qw_25 inlX11 rfl rfl (by first | rfl | decide) (by first | rfl | decide) rfl trivial dX11_init_65 (fun F H locs hT vu17 h1u17 h2u17 => ?_)
  have vu2 := (h1u17 0 (by decide)).trans vu2
  have f0_1 := (h1u17 1 (by decide)).trans f0_1
  have f0_2 := (h1u17 2 (by decide)).trans f0_2
  have vu5 := (h1u17 3 (by decide)).trans vu5
  have vu8 := (h1u17 4 (by decide)).trans vu8
  have vu11 := (h1u17 5 (by decide)).trans vu11
  have vu14 := (h1u17 6 (by decide)).trans vu14
  have f0_8 := (h1u17 8 (by decide)).trans f0_8
  have f0_9 := (h1u17 9 (by decide)).trans f0_9
  have f0_10 := (h1u17 10 (by decide)).trans f0_10
  have f0_11 := (h1u17 11 (by decide)).trans f0_11
  have f0_12 := (h1u17 12 (by decide)).trans f0_12
  have f0_13 := (h1u17 13 (by decide)).trans f0_13
  have f0_14 := (h1u17 14 (by decide)).trans f0_14
  have f0_15 := (h1u17 15 (by decide)).trans f0_15
  have hE := EXTR.tr (u := (tag, L, F)) hE (show EXTR p0 tag L _ (tag, L, F) from ⟨fun b hb => ⟨hb, fun _ => rfl⟩, fun b j _ hb => h2u17 b j hb⟩) (fun _ _ h => h) (fun h => (hE.1 _ h).1)
  refine lv_aload_n hx hb dX11_init_68 rfl (lv_at hl 0 rfl) ?_
  refine t_new (C := RX3) (T := TX3) (N := 13) (ci := 3) (fs := [.null, .null, .null, .int 0, .int 0, .int 0, .int 0, .int 0, .int 0, .null, .null, .null, .int 0]) (t := 55) X hT tyX3 tyX3_ok inlX3 qw_26 qw_27 qw_28 rfl (by decide +kernel) (Nat.le_of_ble_eq_true rfl) (Nat.le_of_ble_eq_true rfl) dX11_init_69 rfl rfl (by decide) (fun q18 tag L F H hT mq18 gq18 kq18 Fq18 hEq18 hxq18 => ?_)
  have vu2 := (((hxq18 _ m0).2 0).1).trans vu2
  have f0_1 := (((hxq18 _ m0).2 1).1).trans f0_1
  have f0_2 := (((hxq18 _ m0).2 2).1).trans f0_2
  have vu5 := (((hxq18 _ m0).2 3).1).trans vu5
  have vu8 := (((hxq18 _ m0).2 4).1).trans vu8
  have vu11 := (((hxq18 _ m0).2 5).1).trans vu11
  have vu14 := (((hxq18 _ m0).2 6).1).trans vu14
  have vu17 := (((hxq18 _ m0).2 7).1).trans vu17
  have f0_8 := (((hxq18 _ m0).2 8).1).trans f0_8
  have f0_9 := (((hxq18 _ m0).2 9).1).trans f0_9
  have f0_10 := (((hxq18 _ m0).2 10).1).trans f0_10
  have f0_11 := (((hxq18 _ m0).2 11).1).trans f0_11
  have f0_12 := (((hxq18 _ m0).2 12).1).trans f0_12
  have f0_13 := (((hxq18 _ m0).2 13).1).trans f0_13
  have f0_14 := (((hxq18 _ m0).2 14).1).trans f0_14
  have f0_15 := (((hxq18 _ m0).2 15).1).trans f0_15
  have g0 := (hxq18 _ m0).1.trans g0
  have gq1 := (hxq18 _ mq1).1.trans gq1
  have gq3 := (hxq18 _ mq3).1.trans gq3
  have gq6 := (hxq18 _ mq6).1.trans gq6
  have gq9 := (hxq18 _ mq9).1.trans gq9
  have gq12 := (hxq18 _ mq12).1.trans gq12
  have gq15 := (hxq18 _ mq15).1.trans gq15
  have zq18 : ∀ b ∈ L0, b ≠ q18 := fun b hb h => kq18 (h ▸ (hE.1 b hb).1)
  have nq18_p0 : p0 ≠ q18 := fun h => kq18 (h ▸ m0)
  have nq18_q1 : q1 ≠ q18 := fun h => kq18 (h ▸ mq1)
  have nq18_q3 : q3 ≠ q18 := fun h => kq18 (h ▸ mq3)
  have nq18_q6 : q6 ≠ q18 := fun h => kq18 (h ▸ mq6)
  have nq18_q9 : q9 ≠ q18 := fun h => kq18 (h ▸ mq9)
  have nq18_q12 : q12 ≠ q18 := fun h => kq18 (h ▸ mq12)
  have nq18_q15 : q15 ≠ q18 := fun h => kq18 (h ▸ mq15)
  have hE := EXTR.tr hE hEq18 (fun b hb _ => zq18 b hb) (fun h => (hEq18.1 _ ((hE.1 _ h).1)).1)
  have m0 := (hEq18.1 _ m0).1
  have mq1 := (hEq18.1 _ mq1).1
  have mq3 := (hEq18.1 _ mq3).1
  have mq6 := (hEq18.1 _ mq6).1
  have mq9 := (hEq18.1 _ mq9).1
  have mq12 := (hEq18.1 _ mq12).1
  have mq15 := (hEq18.1 _ mq15).1
  refine lv_dup hx hb dX11_init_72 rfl ?_
  refine t_caN (n := 0) (host := "YearSkins") (As := []) (rest := [.ref q18, .ref p0]) X hT (ka_X3_init l G tag L F hT.2.2.2 q18 mq18 gq18 (by unfold fld; rw [Fq18]; rfl) (by unfold fld; rw [Fq18]; rfl) (by unfold fld; rw [Fq18]; rfl) (by unfold fld; rw [Fq18]; rfl) (by unfold fld; rw [Fq18]; rfl) (by unfold fld; rw [Fq18]; rfl) (by unfold fld; rw [Fq18]; rfl) (by unfold fld; rw [Fq18]; rfl) (by unfold fld; rw [Fq18]; rfl) (by unfold fld; rw [Fq18]; rfl) (by unfold fld; rw [Fq18]; rfl) (by unfold fld; rw [Fq18]; rfl) (by unfold fld; rw [Fq18]; rfl)) (List.mem_of_getElem? (i := 2) rfl) qw_67 qw_28 qw_68 rfl ⟨by decide +kernel, by decide +kernel, by decide +kernel⟩ ⟨(Nat.le_of_ble_eq_true rfl), (Nat.le_of_ble_eq_true rfl)⟩ hl rfl rfl (Nat.le_of_ble_eq_true rfl) dX11_init_73 ⟨(Nat.le_of_ble_eq_true rfl), (Nat.le_of_ble_eq_true rfl)⟩ (fun u19 H locs hT hu19 => ?_)
  obtain ⟨tag, L, F⟩ := u19
  have hT : TH G ttC A s tag L F H locs := hT
  obtain ⟨hEu19, mq18, gq18, ⟨xsq18, xnq18, h1q18, h2q18, msq18, mnq18, gsq18, gnq18, zsq18⟩⟩ := hu19
  have mq18 : q18 ∈ L := mq18
  have gq18 : tag q18 = 25 := gq18
  have vu2 := ((hEu19.2 _ 0 m0 nq18_p0).1).trans vu2
  have f0_1 := ((hEu19.2 _ 1 m0 nq18_p0).1).trans f0_1
  have f0_2 := ((hEu19.2 _ 2 m0 nq18_p0).1).trans f0_2
  have vu5 := ((hEu19.2 _ 3 m0 nq18_p0).1).trans vu5
  have vu8 := ((hEu19.2 _ 4 m0 nq18_p0).1).trans vu8
  have vu11 := ((hEu19.2 _ 5 m0 nq18_p0).1).trans vu11
  have vu14 := ((hEu19.2 _ 6 m0 nq18_p0).1).trans vu14
  have vu17 := ((hEu19.2 _ 7 m0 nq18_p0).1).trans vu17
  have f0_8 := ((hEu19.2 _ 8 m0 nq18_p0).1).trans f0_8
  have f0_9 := ((hEu19.2 _ 9 m0 nq18_p0).1).trans f0_9
  have f0_10 := ((hEu19.2 _ 10 m0 nq18_p0).1).trans f0_10
  have f0_11 := ((hEu19.2 _ 11 m0 nq18_p0).1).trans f0_11
  have f0_12 := ((hEu19.2 _ 12 m0 nq18_p0).1).trans f0_12
  have f0_13 := ((hEu19.2 _ 13 m0 nq18_p0).1).trans f0_13
  have f0_14 := ((hEu19.2 _ 14 m0 nq18_p0).1).trans f0_14
  have f0_15 := ((hEu19.2 _ 15 m0 nq18_p0).1).trans f0_15
  have g0 : tag p0 = 56 := ((hEu19.1 _ m0).2 nq18_p0).trans g0
  have gq1 : tag q1 = 1 := ((hEu19.1 _ mq1).2 nq18_q1).trans gq1
  have gq3 : tag q3 = 18 := ((hEu19.1 _ mq3).2 nq18_q3).trans gq3
  have gq6 : tag q6 = 18 := ((hEu19.1 _ mq6).2 nq18_q6).trans gq6
  have gq9 : tag q9 = 19 := ((hEu19.1 _ mq9).2 nq18_q9).trans gq9
  have gq12 : tag q12 = 19 := ((hEu19.1 _ mq12).2 nq18_q12).trans gq12
  have gq15 : tag q15 = 19 := ((hEu19.1 _ mq15).2 nq18_q15).trans gq15
  have hE := EXTR.tr hE hEu19 (fun b hb _ => zq18 b hb) (fun h => (hEu19.1 _ ((hE.1 _ h).1)).1)
  have m0 : p0 ∈ L := (hEu19.1 _ m0).1
  have mq1 : q1 ∈ L := (hEu19.1 _ mq1).1
  have mq3 : q3 ∈ L := (hEu19.1 _ mq3).1
  have mq6 : q6 ∈ L := (hEu19.1 _ mq6).1
  have mq9 : q9 ∈ L := (hEu19.1 _ mq9).1
  have mq12 : q12 ∈ L := (hEu19.1 _ mq12).1
  have mq15 : q15 ∈ L := (hEu19.1 _ mq15).1
  have msq18 : xsq18 ∈ L := msq18
  have mnq18 : xnq18 ∈ L := mnq18
  have gsq18 : tag xsq18 = 14 := gsq18
  have gnq18 : tag xnq18 = 15 := gnq18
  have h1q18 : fld F q18 10 = .ref xsq18 := h1q18
  have h2q18 : fld F q18 11 = .ref xnq18 := h2q18
  have zsq18 : ∀ j : Nat, elm F xsq18 j = 0 := zsq18
  refine t_putF (C := RX11) (T := TX11) (N := 16) (v := .ref q18) X hi hT m0 g0 rfl tyX11 tyX11_ok nmX11 rfl 8 (by decide) qw_29 inlX11 rfl rfl (by first | rfl | decide) (by first | rfl | decide) rfl trivial dX11_init_76 (fun F H locs hT vu20 h1u20 h2u20 => ?_)
  have vu2 := (h1u20 0 (by decide)).trans vu2
  have f0_1 := (h1u20 1 (by decide)).trans f0_1
  have f0_2 := (h1u20 2 (by decide)).trans f0_2
  have vu5 := (h1u20 3 (by decide)).trans vu5
  have vu8 := (h1u20 4 (by decide)).trans vu8
  have vu11 := (h1u20 5 (by decide)).trans vu11
  have vu14 := (h1u20 6 (by decide)).trans vu14
  have vu17 := (h1u20 7 (by decide)).trans vu17
  have f0_9 := (h1u20 9 (by decide)).trans f0_9
  have f0_10 := (h1u20 10 (by decide)).trans f0_10
  have f0_11 := (h1u20 11 (by decide)).trans f0_11
  have f0_12 := (h1u20 12 (by decide)).trans f0_12
  have f0_13 := (h1u20 13 (by decide)).trans f0_13
  have f0_14 := (h1u20 14 (by decide)).trans f0_14
  have f0_15 := (h1u20 15 (by decide)).trans f0_15
  have h1q18 := ((h2u20 _ 10 (tne gq18 g0 (by decide))).1).trans h1q18
  have h2q18 := ((h2u20 _ 11 (tne gq18 g0 (by decide))).1).trans h2q18
  have zsq18 := (fun j => ((h2u20 _ j (tne gsq18 g0 (by decide))).2.1).trans (zsq18 j))
  have hE := EXTR.tr (u := (tag, L, F)) hE (show EXTR p0 tag L _ (tag, L, F) from ⟨fun b hb => ⟨hb, fun _ => rfl⟩, fun b j _ hb => h2u20 b j hb⟩) (fun _ _ h => h) (fun h => (hE.1 _ h).1)
  refine lv_aload_n hx hb dX11_init_79 rfl (lv_at hl 0 rfl) ?_
  refine t_new (C := RX10) (T := TX10) (N := 2) (ci := 7) (fs := [.null, .null]) (t := 50) X hT tyX10 tyX10_ok inlX10 qw_30 qw_31 qw_32 rfl (by decide +kernel) (Nat.le_of_ble_eq_true rfl) (Nat.le_of_ble_eq_true rfl) dX11_init_80 rfl rfl (by decide) (fun q21 tag L F H hT mq21 gq21 kq21 Fq21 hEq21 hxq21 => ?_)
  have vu2 := (((hxq21 _ m0).2 0).1).trans vu2
  have f0_1 := (((hxq21 _ m0).2 1).1).trans f0_1
  have f0_2 := (((hxq21 _ m0).2 2).1).trans f0_2
  have vu5 := (((hxq21 _ m0).2 3).1).trans vu5
  have vu8 := (((hxq21 _ m0).2 4).1).trans vu8
  have vu11 := (((hxq21 _ m0).2 5).1).trans vu11
  have vu14 := (((hxq21 _ m0).2 6).1).trans vu14
  have vu17 := (((hxq21 _ m0).2 7).1).trans vu17
  have vu20 := (((hxq21 _ m0).2 8).1).trans vu20
  have f0_9 := (((hxq21 _ m0).2 9).1).trans f0_9
  have f0_10 := (((hxq21 _ m0).2 10).1).trans f0_10
  have f0_11 := (((hxq21 _ m0).2 11).1).trans f0_11
  have f0_12 := (((hxq21 _ m0).2 12).1).trans f0_12
  have f0_13 := (((hxq21 _ m0).2 13).1).trans f0_13
  have f0_14 := (((hxq21 _ m0).2 14).1).trans f0_14
  have f0_15 := (((hxq21 _ m0).2 15).1).trans f0_15
  have h1q18 := (((hxq21 _ mq18).2 10).1).trans h1q18
  have h2q18 := (((hxq21 _ mq18).2 11).1).trans h2q18
  have zsq18 := (fun j => (((hxq21 _ msq18).2 j).2.1).trans (zsq18 j))
  have g0 := (hxq21 _ m0).1.trans g0
  have gq1 := (hxq21 _ mq1).1.trans gq1
  have gq3 := (hxq21 _ mq3).1.trans gq3
  have gq6 := (hxq21 _ mq6).1.trans gq6
  have gq9 := (hxq21 _ mq9).1.trans gq9
  have gq12 := (hxq21 _ mq12).1.trans gq12
  have gq15 := (hxq21 _ mq15).1.trans gq15
  have gq18 := (hxq21 _ mq18).1.trans gq18
  have gsq18 := (hxq21 _ msq18).1.trans gsq18
  have gnq18 := (hxq21 _ mnq18).1.trans gnq18
  have zq21 : ∀ b ∈ L0, b ≠ q21 := fun b hb h => kq21 (h ▸ (hE.1 b hb).1)
  have nq21_p0 : p0 ≠ q21 := fun h => kq21 (h ▸ m0)
  have nq21_q1 : q1 ≠ q21 := fun h => kq21 (h ▸ mq1)
  have nq21_q3 : q3 ≠ q21 := fun h => kq21 (h ▸ mq3)
  have nq21_q6 : q6 ≠ q21 := fun h => kq21 (h ▸ mq6)
  have nq21_q9 : q9 ≠ q21 := fun h => kq21 (h ▸ mq9)
  have nq21_q12 : q12 ≠ q21 := fun h => kq21 (h ▸ mq12)
  have nq21_q15 : q15 ≠ q21 := fun h => kq21 (h ▸ mq15)
  have nq21_q18 : q18 ≠ q21 := fun h => kq21 (h ▸ mq18)
  have nq21_xsq18 : xsq18 ≠ q21 := fun h => kq21 (h ▸ msq18)
  have nq21_xnq18 : xnq18 ≠ q21 := fun h => kq21 (h ▸ mnq18)
  have hE := EXTR.tr hE hEq21 (fun b hb _ => zq21 b hb) (fun h => (hEq21.1 _ ((hE.1 _ h).1)).1)
  have m0 := (hEq21.1 _ m0).1
  have mq1 := (hEq21.1 _ mq1).1
  have mq3 := (hEq21.1 _ mq3).1
  have mq6 := (hEq21.1 _ mq6).1
  have mq9 := (hEq21.1 _ mq9).1
  have mq12 := (hEq21.1 _ mq12).1
  have mq15 := (hEq21.1 _ mq15).1
  have mq18 := (hEq21.1 _ mq18).1
  have msq18 := (hEq21.1 _ msq18).1
  have mnq18 := (hEq21.1 _ mnq18).1
  refine lv_dup hx hb dX11_init_83 rfl ?_
  refine t_caN (n := 0) (host := "YearSkins") (As := []) (rest := [.ref q21, .ref p0]) X hT (ka_X10_init l G tag L F hT.2.2.2 q21 mq21 gq21 (by unfold fld; rw [Fq21]; rfl) (by unfold fld; rw [Fq21]; rfl)) (List.mem_of_getElem? (i := 4) rfl) qw_80 qw_32 qw_81 rfl ⟨by decide +kernel, by decide +kernel, by decide +kernel⟩ ⟨(Nat.le_of_ble_eq_true rfl), (Nat.le_of_ble_eq_true rfl)⟩ hl rfl rfl (Nat.le_of_ble_eq_true rfl) dX11_init_84 ⟨(Nat.le_of_ble_eq_true rfl), (Nat.le_of_ble_eq_true rfl)⟩ (fun u22 H locs hT hu22 => ?_)
  obtain ⟨tag, L, F⟩ := u22
  have hT : TH G ttC A s tag L F H locs := hT
  obtain ⟨hEu22, mq21, gq21⟩ := hu22
  have mq21 : q21 ∈ L := mq21
  have gq21 : tag q21 = 20 := gq21
  have vu2 := ((hEu22.2 _ 0 m0 nq21_p0).1).trans vu2
  have f0_1 := ((hEu22.2 _ 1 m0 nq21_p0).1).trans f0_1
  have f0_2 := ((hEu22.2 _ 2 m0 nq21_p0).1).trans f0_2
  have vu5 := ((hEu22.2 _ 3 m0 nq21_p0).1).trans vu5
  have vu8 := ((hEu22.2 _ 4 m0 nq21_p0).1).trans vu8
  have vu11 := ((hEu22.2 _ 5 m0 nq21_p0).1).trans vu11
  have vu14 := ((hEu22.2 _ 6 m0 nq21_p0).1).trans vu14
  have vu17 := ((hEu22.2 _ 7 m0 nq21_p0).1).trans vu17
  have vu20 := ((hEu22.2 _ 8 m0 nq21_p0).1).trans vu20
  have f0_9 := ((hEu22.2 _ 9 m0 nq21_p0).1).trans f0_9
  have f0_10 := ((hEu22.2 _ 10 m0 nq21_p0).1).trans f0_10
  have f0_11 := ((hEu22.2 _ 11 m0 nq21_p0).1).trans f0_11
  have f0_12 := ((hEu22.2 _ 12 m0 nq21_p0).1).trans f0_12
  have f0_13 := ((hEu22.2 _ 13 m0 nq21_p0).1).trans f0_13
  have f0_14 := ((hEu22.2 _ 14 m0 nq21_p0).1).trans f0_14
  have f0_15 := ((hEu22.2 _ 15 m0 nq21_p0).1).trans f0_15
  have h1q18 := ((hEu22.2 _ 10 mq18 nq21_q18).1).trans h1q18
  have h2q18 := ((hEu22.2 _ 11 mq18 nq21_q18).1).trans h2q18
  have zsq18 := (fun j => ((hEu22.2 _ j msq18 nq21_xsq18).2.1).trans (zsq18 j))
  have g0 : tag p0 = 56 := ((hEu22.1 _ m0).2 nq21_p0).trans g0
  have gq1 : tag q1 = 1 := ((hEu22.1 _ mq1).2 nq21_q1).trans gq1
  have gq3 : tag q3 = 18 := ((hEu22.1 _ mq3).2 nq21_q3).trans gq3
  have gq6 : tag q6 = 18 := ((hEu22.1 _ mq6).2 nq21_q6).trans gq6
  have gq9 : tag q9 = 19 := ((hEu22.1 _ mq9).2 nq21_q9).trans gq9
  have gq12 : tag q12 = 19 := ((hEu22.1 _ mq12).2 nq21_q12).trans gq12
  have gq15 : tag q15 = 19 := ((hEu22.1 _ mq15).2 nq21_q15).trans gq15
  have gq18 : tag q18 = 25 := ((hEu22.1 _ mq18).2 nq21_q18).trans gq18
  have gsq18 : tag xsq18 = 14 := ((hEu22.1 _ msq18).2 nq21_xsq18).trans gsq18
  have gnq18 : tag xnq18 = 15 := ((hEu22.1 _ mnq18).2 nq21_xnq18).trans gnq18
  have hE := EXTR.tr hE hEu22 (fun b hb _ => zq21 b hb) (fun h => (hEu22.1 _ ((hE.1 _ h).1)).1)
  have m0 : p0 ∈ L := (hEu22.1 _ m0).1
  have mq1 : q1 ∈ L := (hEu22.1 _ mq1).1
  have mq3 : q3 ∈ L := (hEu22.1 _ mq3).1
  have mq6 : q6 ∈ L := (hEu22.1 _ mq6).1
  have mq9 : q9 ∈ L := (hEu22.1 _ mq9).1
  have mq12 : q12 ∈ L := (hEu22.1 _ mq12).1
  have mq15 : q15 ∈ L := (hEu22.1 _ mq15).1
  have mq18 : q18 ∈ L := (hEu22.1 _ mq18).1
  have msq18 : xsq18 ∈ L := (hEu22.1 _ msq18).1
  have mnq18 : xnq18 ∈ L := (hEu22.1 _ mnq18).1
  refine t_putF (C := RX11) (T := TX11) (N := 16) (v := .ref q21) X hi hT m0 g0 rfl tyX11 tyX11_ok nmX11 rfl 9 (by decide) qw_33 inlX11 rfl rfl (by first | rfl | decide) (by first | rfl | decide) rfl trivial dX11_init_87 (fun F H locs hT vu23 h1u23 h2u23 => ?_)
  have vu2 := (h1u23 0 (by decide)).trans vu2
  have f0_1 := (h1u23 1 (by decide)).trans f0_1
  have f0_2 := (h1u23 2 (by decide)).trans f0_2
  have vu5 := (h1u23 3 (by decide)).trans vu5
  have vu8 := (h1u23 4 (by decide)).trans vu8
  have vu11 := (h1u23 5 (by decide)).trans vu11
  have vu14 := (h1u23 6 (by decide)).trans vu14
  have vu17 := (h1u23 7 (by decide)).trans vu17
  have vu20 := (h1u23 8 (by decide)).trans vu20
  have f0_10 := (h1u23 10 (by decide)).trans f0_10
  have f0_11 := (h1u23 11 (by decide)).trans f0_11
  have f0_12 := (h1u23 12 (by decide)).trans f0_12
  have f0_13 := (h1u23 13 (by decide)).trans f0_13
  have f0_14 := (h1u23 14 (by decide)).trans f0_14
  have f0_15 := (h1u23 15 (by decide)).trans f0_15
  have h1q18 := ((h2u23 _ 10 (tne gq18 g0 (by decide))).1).trans h1q18
  have h2q18 := ((h2u23 _ 11 (tne gq18 g0 (by decide))).1).trans h2q18
  have zsq18 := (fun j => ((h2u23 _ j (tne gsq18 g0 (by decide))).2.1).trans (zsq18 j))
  have hE := EXTR.tr (u := (tag, L, F)) hE (show EXTR p0 tag L _ (tag, L, F) from ⟨fun b hb => ⟨hb, fun _ => rfl⟩, fun b j _ hb => h2u23 b j hb⟩) (fun _ _ h => h) (fun h => (hE.1 _ h).1)
  refine lv_aload_n hx hb dX11_init_90 rfl (lv_at hl 0 rfl) ?_
  refine t_new (C := RX0) (T := TX0) (N := 2) (ci := 0) (fs := [.null, .null]) (t := 51) X hT tyX0 tyX0_ok inlX0 qw_34 qw_35 qw_36 rfl (by decide +kernel) (Nat.le_of_ble_eq_true rfl) (Nat.le_of_ble_eq_true rfl) dX11_init_91 rfl rfl (by decide) (fun q24 tag L F H hT mq24 gq24 kq24 Fq24 hEq24 hxq24 => ?_)
  have vu2 := (((hxq24 _ m0).2 0).1).trans vu2
  have f0_1 := (((hxq24 _ m0).2 1).1).trans f0_1
  have f0_2 := (((hxq24 _ m0).2 2).1).trans f0_2
  have vu5 := (((hxq24 _ m0).2 3).1).trans vu5
  have vu8 := (((hxq24 _ m0).2 4).1).trans vu8
  have vu11 := (((hxq24 _ m0).2 5).1).trans vu11
  have vu14 := (((hxq24 _ m0).2 6).1).trans vu14
  have vu17 := (((hxq24 _ m0).2 7).1).trans vu17
  have vu20 := (((hxq24 _ m0).2 8).1).trans vu20
  have vu23 := (((hxq24 _ m0).2 9).1).trans vu23
  have f0_10 := (((hxq24 _ m0).2 10).1).trans f0_10
  have f0_11 := (((hxq24 _ m0).2 11).1).trans f0_11
  have f0_12 := (((hxq24 _ m0).2 12).1).trans f0_12
  have f0_13 := (((hxq24 _ m0).2 13).1).trans f0_13
  have f0_14 := (((hxq24 _ m0).2 14).1).trans f0_14
  have f0_15 := (((hxq24 _ m0).2 15).1).trans f0_15
  have h1q18 := (((hxq24 _ mq18).2 10).1).trans h1q18
  have h2q18 := (((hxq24 _ mq18).2 11).1).trans h2q18
  have zsq18 := (fun j => (((hxq24 _ msq18).2 j).2.1).trans (zsq18 j))
  have g0 := (hxq24 _ m0).1.trans g0
  have gq1 := (hxq24 _ mq1).1.trans gq1
  have gq3 := (hxq24 _ mq3).1.trans gq3
  have gq6 := (hxq24 _ mq6).1.trans gq6
  have gq9 := (hxq24 _ mq9).1.trans gq9
  have gq12 := (hxq24 _ mq12).1.trans gq12
  have gq15 := (hxq24 _ mq15).1.trans gq15
  have gq18 := (hxq24 _ mq18).1.trans gq18
  have gsq18 := (hxq24 _ msq18).1.trans gsq18
  have gnq18 := (hxq24 _ mnq18).1.trans gnq18
  have gq21 := (hxq24 _ mq21).1.trans gq21
  have zq24 : ∀ b ∈ L0, b ≠ q24 := fun b hb h => kq24 (h ▸ (hE.1 b hb).1)
  have nq24_p0 : p0 ≠ q24 := fun h => kq24 (h ▸ m0)
  have nq24_q1 : q1 ≠ q24 := fun h => kq24 (h ▸ mq1)
  have nq24_q3 : q3 ≠ q24 := fun h => kq24 (h ▸ mq3)
  have nq24_q6 : q6 ≠ q24 := fun h => kq24 (h ▸ mq6)
  have nq24_q9 : q9 ≠ q24 := fun h => kq24 (h ▸ mq9)
  have nq24_q12 : q12 ≠ q24 := fun h => kq24 (h ▸ mq12)
  have nq24_q15 : q15 ≠ q24 := fun h => kq24 (h ▸ mq15)
  have nq24_q18 : q18 ≠ q24 := fun h => kq24 (h ▸ mq18)
  have nq24_xsq18 : xsq18 ≠ q24 := fun h => kq24 (h ▸ msq18)
  have nq24_xnq18 : xnq18 ≠ q24 := fun h => kq24 (h ▸ mnq18)
  have nq24_q21 : q21 ≠ q24 := fun h => kq24 (h ▸ mq21)
  have hE := EXTR.tr hE hEq24 (fun b hb _ => zq24 b hb) (fun h => (hEq24.1 _ ((hE.1 _ h).1)).1)
  have m0 := (hEq24.1 _ m0).1
  have mq1 := (hEq24.1 _ mq1).1
  have mq3 := (hEq24.1 _ mq3).1
  have mq6 := (hEq24.1 _ mq6).1
  have mq9 := (hEq24.1 _ mq9).1
  have mq12 := (hEq24.1 _ mq12).1
  have mq15 := (hEq24.1 _ mq15).1
  have mq18 := (hEq24.1 _ mq18).1
  have msq18 := (hEq24.1 _ msq18).1
  have mnq18 := (hEq24.1 _ mnq18).1
  have mq21 := (hEq24.1 _ mq21).1
  refine lv_dup hx hb dX11_init_94 rfl ?_
  refine t_caN (n := 0) (host := "YearSkins") (As := []) (rest := [.ref q24, .ref p0]) X hT (ka_X0_init l G tag L F hT.2.2.2 q24 mq24 gq24 (by unfold fld; rw [Fq24]; rfl) (by unfold fld; rw [Fq24]; rfl)) (List.mem_of_getElem? (i := 5) rfl) qw_85 qw_36 qw_86 rfl ⟨by decide +kernel, by decide +kernel, by decide +kernel⟩ ⟨(Nat.le_of_ble_eq_true rfl), (Nat.le_of_ble_eq_true rfl)⟩ hl rfl rfl (Nat.le_of_ble_eq_true rfl) dX11_init_95 ⟨(Nat.le_of_ble_eq_true rfl), (Nat.le_of_ble_eq_true rfl)⟩ (fun u25 H locs hT hu25 => ?_)
  obtain ⟨tag, L, F⟩ := u25
  have hT : TH G ttC A s tag L F H locs := hT
  obtain ⟨hEu25, mq24, gq24⟩ := hu25
  have mq24 : q24 ∈ L := mq24
  have gq24 : tag q24 = 21 := gq24
  have vu2 := ((hEu25.2 _ 0 m0 nq24_p0).1).trans vu2
  have f0_1 := ((hEu25.2 _ 1 m0 nq24_p0).1).trans f0_1
  have f0_2 := ((hEu25.2 _ 2 m0 nq24_p0).1).trans f0_2
  have vu5 := ((hEu25.2 _ 3 m0 nq24_p0).1).trans vu5
  have vu8 := ((hEu25.2 _ 4 m0 nq24_p0).1).trans vu8
  have vu11 := ((hEu25.2 _ 5 m0 nq24_p0).1).trans vu11
  have vu14 := ((hEu25.2 _ 6 m0 nq24_p0).1).trans vu14
  have vu17 := ((hEu25.2 _ 7 m0 nq24_p0).1).trans vu17
  have vu20 := ((hEu25.2 _ 8 m0 nq24_p0).1).trans vu20
  have vu23 := ((hEu25.2 _ 9 m0 nq24_p0).1).trans vu23
  have f0_10 := ((hEu25.2 _ 10 m0 nq24_p0).1).trans f0_10
  have f0_11 := ((hEu25.2 _ 11 m0 nq24_p0).1).trans f0_11
  have f0_12 := ((hEu25.2 _ 12 m0 nq24_p0).1).trans f0_12
  have f0_13 := ((hEu25.2 _ 13 m0 nq24_p0).1).trans f0_13
  have f0_14 := ((hEu25.2 _ 14 m0 nq24_p0).1).trans f0_14
  have f0_15 := ((hEu25.2 _ 15 m0 nq24_p0).1).trans f0_15
  have h1q18 := ((hEu25.2 _ 10 mq18 nq24_q18).1).trans h1q18
  have h2q18 := ((hEu25.2 _ 11 mq18 nq24_q18).1).trans h2q18
  have zsq18 := (fun j => ((hEu25.2 _ j msq18 nq24_xsq18).2.1).trans (zsq18 j))
  have g0 : tag p0 = 56 := ((hEu25.1 _ m0).2 nq24_p0).trans g0
  have gq1 : tag q1 = 1 := ((hEu25.1 _ mq1).2 nq24_q1).trans gq1
  have gq3 : tag q3 = 18 := ((hEu25.1 _ mq3).2 nq24_q3).trans gq3
  have gq6 : tag q6 = 18 := ((hEu25.1 _ mq6).2 nq24_q6).trans gq6
  have gq9 : tag q9 = 19 := ((hEu25.1 _ mq9).2 nq24_q9).trans gq9
  have gq12 : tag q12 = 19 := ((hEu25.1 _ mq12).2 nq24_q12).trans gq12
  have gq15 : tag q15 = 19 := ((hEu25.1 _ mq15).2 nq24_q15).trans gq15
  have gq18 : tag q18 = 25 := ((hEu25.1 _ mq18).2 nq24_q18).trans gq18
  have gsq18 : tag xsq18 = 14 := ((hEu25.1 _ msq18).2 nq24_xsq18).trans gsq18
  have gnq18 : tag xnq18 = 15 := ((hEu25.1 _ mnq18).2 nq24_xnq18).trans gnq18
  have gq21 : tag q21 = 20 := ((hEu25.1 _ mq21).2 nq24_q21).trans gq21
  have hE := EXTR.tr hE hEu25 (fun b hb _ => zq24 b hb) (fun h => (hEu25.1 _ ((hE.1 _ h).1)).1)
  have m0 : p0 ∈ L := (hEu25.1 _ m0).1
  have mq1 : q1 ∈ L := (hEu25.1 _ mq1).1
  have mq3 : q3 ∈ L := (hEu25.1 _ mq3).1
  have mq6 : q6 ∈ L := (hEu25.1 _ mq6).1
  have mq9 : q9 ∈ L := (hEu25.1 _ mq9).1
  have mq12 : q12 ∈ L := (hEu25.1 _ mq12).1
  have mq15 : q15 ∈ L := (hEu25.1 _ mq15).1
  have mq18 : q18 ∈ L := (hEu25.1 _ mq18).1
  have msq18 : xsq18 ∈ L := (hEu25.1 _ msq18).1
  have mnq18 : xnq18 ∈ L := (hEu25.1 _ mnq18).1
  have mq21 : q21 ∈ L := (hEu25.1 _ mq21).1
  refine t_putF (C := RX11) (T := TX11) (N := 16) (v := .ref q24) X hi hT m0 g0 rfl tyX11 tyX11_ok nmX11 rfl 10 (by decide) qw_37 inlX11 rfl rfl (by first | rfl | decide) (by first | rfl | decide) rfl trivial dX11_init_98 (fun F H locs hT vu26 h1u26 h2u26 => ?_)
  have vu2 := (h1u26 0 (by decide)).trans vu2
  have f0_1 := (h1u26 1 (by decide)).trans f0_1
  have f0_2 := (h1u26 2 (by decide)).trans f0_2
  have vu5 := (h1u26 3 (by decide)).trans vu5
  have vu8 := (h1u26 4 (by decide)).trans vu8
  have vu11 := (h1u26 5 (by decide)).trans vu11
  have vu14 := (h1u26 6 (by decide)).trans vu14
  have vu17 := (h1u26 7 (by decide)).trans vu17
  have vu20 := (h1u26 8 (by decide)).trans vu20
  have vu23 := (h1u26 9 (by decide)).trans vu23
  have f0_11 := (h1u26 11 (by decide)).trans f0_11
  have f0_12 := (h1u26 12 (by decide)).trans f0_12
  have f0_13 := (h1u26 13 (by decide)).trans f0_13
  have f0_14 := (h1u26 14 (by decide)).trans f0_14
  have f0_15 := (h1u26 15 (by decide)).trans f0_15
  have h1q18 := ((h2u26 _ 10 (tne gq18 g0 (by decide))).1).trans h1q18
  have h2q18 := ((h2u26 _ 11 (tne gq18 g0 (by decide))).1).trans h2q18
  have zsq18 := (fun j => ((h2u26 _ j (tne gsq18 g0 (by decide))).2.1).trans (zsq18 j))
  have hE := EXTR.tr (u := (tag, L, F)) hE (show EXTR p0 tag L _ (tag, L, F) from ⟨fun b hb => ⟨hb, fun _ => rfl⟩, fun b j _ hb => h2u26 b j hb⟩) (fun _ _ h => h) (fun h => (hE.1 _ h).1)
  refine lv_aload_n hx hb dX11_init_101 rfl (lv_at hl 0 rfl) ?_
  refine t_new (C := RX9) (T := TX9) (N := 6) (ci := 6) (fs := [.null, .null, .int 0, .null, .null, .null]) (t := 52) X hT tyX9 tyX9_ok inlX9 qw_38 qw_39 qw_40 rfl (by decide +kernel) (Nat.le_of_ble_eq_true rfl) (Nat.le_of_ble_eq_true rfl) dX11_init_102 rfl rfl (by decide) (fun q27 tag L F H hT mq27 gq27 kq27 Fq27 hEq27 hxq27 => ?_)
  have vu2 := (((hxq27 _ m0).2 0).1).trans vu2
  have f0_1 := (((hxq27 _ m0).2 1).1).trans f0_1
  have f0_2 := (((hxq27 _ m0).2 2).1).trans f0_2
  have vu5 := (((hxq27 _ m0).2 3).1).trans vu5
  have vu8 := (((hxq27 _ m0).2 4).1).trans vu8
  have vu11 := (((hxq27 _ m0).2 5).1).trans vu11
  have vu14 := (((hxq27 _ m0).2 6).1).trans vu14
  have vu17 := (((hxq27 _ m0).2 7).1).trans vu17
  have vu20 := (((hxq27 _ m0).2 8).1).trans vu20
  have vu23 := (((hxq27 _ m0).2 9).1).trans vu23
  have vu26 := (((hxq27 _ m0).2 10).1).trans vu26
  have f0_11 := (((hxq27 _ m0).2 11).1).trans f0_11
  have f0_12 := (((hxq27 _ m0).2 12).1).trans f0_12
  have f0_13 := (((hxq27 _ m0).2 13).1).trans f0_13
  have f0_14 := (((hxq27 _ m0).2 14).1).trans f0_14
  have f0_15 := (((hxq27 _ m0).2 15).1).trans f0_15
  have h1q18 := (((hxq27 _ mq18).2 10).1).trans h1q18
  have h2q18 := (((hxq27 _ mq18).2 11).1).trans h2q18
  have zsq18 := (fun j => (((hxq27 _ msq18).2 j).2.1).trans (zsq18 j))
  have g0 := (hxq27 _ m0).1.trans g0
  have gq1 := (hxq27 _ mq1).1.trans gq1
  have gq3 := (hxq27 _ mq3).1.trans gq3
  have gq6 := (hxq27 _ mq6).1.trans gq6
  have gq9 := (hxq27 _ mq9).1.trans gq9
  have gq12 := (hxq27 _ mq12).1.trans gq12
  have gq15 := (hxq27 _ mq15).1.trans gq15
  have gq18 := (hxq27 _ mq18).1.trans gq18
  have gsq18 := (hxq27 _ msq18).1.trans gsq18
  have gnq18 := (hxq27 _ mnq18).1.trans gnq18
  have gq21 := (hxq27 _ mq21).1.trans gq21
  have gq24 := (hxq27 _ mq24).1.trans gq24
  have zq27 : ∀ b ∈ L0, b ≠ q27 := fun b hb h => kq27 (h ▸ (hE.1 b hb).1)
  have nq27_p0 : p0 ≠ q27 := fun h => kq27 (h ▸ m0)
  have nq27_q1 : q1 ≠ q27 := fun h => kq27 (h ▸ mq1)
  have nq27_q3 : q3 ≠ q27 := fun h => kq27 (h ▸ mq3)
  have nq27_q6 : q6 ≠ q27 := fun h => kq27 (h ▸ mq6)
  have nq27_q9 : q9 ≠ q27 := fun h => kq27 (h ▸ mq9)
  have nq27_q12 : q12 ≠ q27 := fun h => kq27 (h ▸ mq12)
  have nq27_q15 : q15 ≠ q27 := fun h => kq27 (h ▸ mq15)
  have nq27_q18 : q18 ≠ q27 := fun h => kq27 (h ▸ mq18)
  have nq27_xsq18 : xsq18 ≠ q27 := fun h => kq27 (h ▸ msq18)
  have nq27_xnq18 : xnq18 ≠ q27 := fun h => kq27 (h ▸ mnq18)
  have nq27_q21 : q21 ≠ q27 := fun h => kq27 (h ▸ mq21)
  have nq27_q24 : q24 ≠ q27 := fun h => kq27 (h ▸ mq24)
  have hE := EXTR.tr hE hEq27 (fun b hb _ => zq27 b hb) (fun h => (hEq27.1 _ ((hE.1 _ h).1)).1)
  have m0 := (hEq27.1 _ m0).1
  have mq1 := (hEq27.1 _ mq1).1
  have mq3 := (hEq27.1 _ mq3).1
  have mq6 := (hEq27.1 _ mq6).1
  have mq9 := (hEq27.1 _ mq9).1
  have mq12 := (hEq27.1 _ mq12).1
  have mq15 := (hEq27.1 _ mq15).1
  have mq18 := (hEq27.1 _ mq18).1
  have msq18 := (hEq27.1 _ msq18).1
  have mnq18 := (hEq27.1 _ mnq18).1
  have mq21 := (hEq27.1 _ mq21).1
  have mq24 := (hEq27.1 _ mq24).1
  refine lv_dup hx hb dX11_init_105 rfl ?_
  refine t_caN (n := 0) (host := "YearSkins") (As := []) (rest := [.ref q27, .ref p0]) X hT (ka_X9_init l G tag L F hT.2.2.2 q27 mq27 gq27 (by unfold fld; rw [Fq27]; rfl) (by unfold fld; rw [Fq27]; rfl) (by unfold fld; rw [Fq27]; rfl) (by unfold fld; rw [Fq27]; rfl) (by unfold fld; rw [Fq27]; rfl) (by unfold fld; rw [Fq27]; rfl)) (List.mem_of_getElem? (i := 6) rfl) qw_90 qw_40 qw_91 rfl ⟨by decide +kernel, by decide +kernel, by decide +kernel⟩ ⟨(Nat.le_of_ble_eq_true rfl), (Nat.le_of_ble_eq_true rfl)⟩ hl rfl rfl (Nat.le_of_ble_eq_true rfl) dX11_init_106 ⟨(Nat.le_of_ble_eq_true rfl), (Nat.le_of_ble_eq_true rfl)⟩ (fun u28 H locs hT hu28 => ?_)
  obtain ⟨tag, L, F⟩ := u28
  have hT : TH G ttC A s tag L F H locs := hT
  obtain ⟨hEu28, mq27, gq27⟩ := hu28
  have mq27 : q27 ∈ L := mq27
  have gq27 : tag q27 = 22 := gq27
  have vu2 := ((hEu28.2 _ 0 m0 nq27_p0).1).trans vu2
  have f0_1 := ((hEu28.2 _ 1 m0 nq27_p0).1).trans f0_1
  have f0_2 := ((hEu28.2 _ 2 m0 nq27_p0).1).trans f0_2
  have vu5 := ((hEu28.2 _ 3 m0 nq27_p0).1).trans vu5
  have vu8 := ((hEu28.2 _ 4 m0 nq27_p0).1).trans vu8
  have vu11 := ((hEu28.2 _ 5 m0 nq27_p0).1).trans vu11
  have vu14 := ((hEu28.2 _ 6 m0 nq27_p0).1).trans vu14
  have vu17 := ((hEu28.2 _ 7 m0 nq27_p0).1).trans vu17
  have vu20 := ((hEu28.2 _ 8 m0 nq27_p0).1).trans vu20
  have vu23 := ((hEu28.2 _ 9 m0 nq27_p0).1).trans vu23
  have vu26 := ((hEu28.2 _ 10 m0 nq27_p0).1).trans vu26
  have f0_11 := ((hEu28.2 _ 11 m0 nq27_p0).1).trans f0_11
  have f0_12 := ((hEu28.2 _ 12 m0 nq27_p0).1).trans f0_12
  have f0_13 := ((hEu28.2 _ 13 m0 nq27_p0).1).trans f0_13
  have f0_14 := ((hEu28.2 _ 14 m0 nq27_p0).1).trans f0_14
  have f0_15 := ((hEu28.2 _ 15 m0 nq27_p0).1).trans f0_15
  have h1q18 := ((hEu28.2 _ 10 mq18 nq27_q18).1).trans h1q18
  have h2q18 := ((hEu28.2 _ 11 mq18 nq27_q18).1).trans h2q18
  have zsq18 := (fun j => ((hEu28.2 _ j msq18 nq27_xsq18).2.1).trans (zsq18 j))
  have g0 : tag p0 = 56 := ((hEu28.1 _ m0).2 nq27_p0).trans g0
  have gq1 : tag q1 = 1 := ((hEu28.1 _ mq1).2 nq27_q1).trans gq1
  have gq3 : tag q3 = 18 := ((hEu28.1 _ mq3).2 nq27_q3).trans gq3
  have gq6 : tag q6 = 18 := ((hEu28.1 _ mq6).2 nq27_q6).trans gq6
  have gq9 : tag q9 = 19 := ((hEu28.1 _ mq9).2 nq27_q9).trans gq9
  have gq12 : tag q12 = 19 := ((hEu28.1 _ mq12).2 nq27_q12).trans gq12
  have gq15 : tag q15 = 19 := ((hEu28.1 _ mq15).2 nq27_q15).trans gq15
  have gq18 : tag q18 = 25 := ((hEu28.1 _ mq18).2 nq27_q18).trans gq18
  have gsq18 : tag xsq18 = 14 := ((hEu28.1 _ msq18).2 nq27_xsq18).trans gsq18
  have gnq18 : tag xnq18 = 15 := ((hEu28.1 _ mnq18).2 nq27_xnq18).trans gnq18
  have gq21 : tag q21 = 20 := ((hEu28.1 _ mq21).2 nq27_q21).trans gq21
  have gq24 : tag q24 = 21 := ((hEu28.1 _ mq24).2 nq27_q24).trans gq24
  have hE := EXTR.tr hE hEu28 (fun b hb _ => zq27 b hb) (fun h => (hEu28.1 _ ((hE.1 _ h).1)).1)
  have m0 : p0 ∈ L := (hEu28.1 _ m0).1
  have mq1 : q1 ∈ L := (hEu28.1 _ mq1).1
  have mq3 : q3 ∈ L := (hEu28.1 _ mq3).1
  have mq6 : q6 ∈ L := (hEu28.1 _ mq6).1
  have mq9 : q9 ∈ L := (hEu28.1 _ mq9).1
  have mq12 : q12 ∈ L := (hEu28.1 _ mq12).1
  have mq15 : q15 ∈ L := (hEu28.1 _ mq15).1
  have mq18 : q18 ∈ L := (hEu28.1 _ mq18).1
  have msq18 : xsq18 ∈ L := (hEu28.1 _ msq18).1
  have mnq18 : xnq18 ∈ L := (hEu28.1 _ mnq18).1
  have mq21 : q21 ∈ L := (hEu28.1 _ mq21).1
  have mq24 : q24 ∈ L := (hEu28.1 _ mq24).1
  refine t_putF (C := RX11) (T := TX11) (N := 16) (v := .ref q27) X hi hT m0 g0 rfl tyX11 tyX11_ok nmX11 rfl 11 (by decide) qw_41 inlX11 rfl rfl (by first | rfl | decide) (by first | rfl | decide) rfl trivial dX11_init_109 (fun F H locs hT vu29 h1u29 h2u29 => ?_)
  have vu2 := (h1u29 0 (by decide)).trans vu2
  have f0_1 := (h1u29 1 (by decide)).trans f0_1
  have f0_2 := (h1u29 2 (by decide)).trans f0_2
  have vu5 := (h1u29 3 (by decide)).trans vu5
  have vu8 := (h1u29 4 (by decide)).trans vu8
  have vu11 := (h1u29 5 (by decide)).trans vu11
  have vu14 := (h1u29 6 (by decide)).trans vu14
  have vu17 := (h1u29 7 (by decide)).trans vu17
  have vu20 := (h1u29 8 (by decide)).trans vu20
  have vu23 := (h1u29 9 (by decide)).trans vu23
  have vu26 := (h1u29 10 (by decide)).trans vu26
  have f0_12 := (h1u29 12 (by decide)).trans f0_12
  have f0_13 := (h1u29 13 (by decide)).trans f0_13
  have f0_14 := (h1u29 14 (by decide)).trans f0_14
  have f0_15 := (h1u29 15 (by decide)).trans f0_15
  have h1q18 := ((h2u29 _ 10 (tne gq18 g0 (by decide))).1).trans h1q18
  have h2q18 := ((h2u29 _ 11 (tne gq18 g0 (by decide))).1).trans h2q18
  have zsq18 := (fun j => ((h2u29 _ j (tne gsq18 g0 (by decide))).2.1).trans (zsq18 j))
  have hE := EXTR.tr (u := (tag, L, F)) hE (show EXTR p0 tag L _ (tag, L, F) from ⟨fun b hb => ⟨hb, fun _ => rfl⟩, fun b j _ hb => h2u29 b j hb⟩) (fun _ _ h => h) (fun h => (hE.1 _ h).1)
  refine lv_aload_n hx hb dX11_init_112 rfl (lv_at hl 0 rfl) ?_
  refine t_new (C := RX2) (T := TX2) (N := 5) (ci := 2) (fs := [.null, .null, .int 0, .int 0, .int 0]) (t := 53) X hT tyX2 tyX2_ok inlX2 qw_42 qw_43 qw_44 rfl (by decide +kernel) (Nat.le_of_ble_eq_true rfl) (Nat.le_of_ble_eq_true rfl) dX11_init_113 rfl rfl (by decide) (fun q30 tag L F H hT mq30 gq30 kq30 Fq30 hEq30 hxq30 => ?_)
  have vu2 := (((hxq30 _ m0).2 0).1).trans vu2
  have f0_1 := (((hxq30 _ m0).2 1).1).trans f0_1
  have f0_2 := (((hxq30 _ m0).2 2).1).trans f0_2
  have vu5 := (((hxq30 _ m0).2 3).1).trans vu5
  have vu8 := (((hxq30 _ m0).2 4).1).trans vu8
  have vu11 := (((hxq30 _ m0).2 5).1).trans vu11
  have vu14 := (((hxq30 _ m0).2 6).1).trans vu14
  have vu17 := (((hxq30 _ m0).2 7).1).trans vu17
  have vu20 := (((hxq30 _ m0).2 8).1).trans vu20
  have vu23 := (((hxq30 _ m0).2 9).1).trans vu23
  have vu26 := (((hxq30 _ m0).2 10).1).trans vu26
  have vu29 := (((hxq30 _ m0).2 11).1).trans vu29
  have f0_12 := (((hxq30 _ m0).2 12).1).trans f0_12
  have f0_13 := (((hxq30 _ m0).2 13).1).trans f0_13
  have f0_14 := (((hxq30 _ m0).2 14).1).trans f0_14
  have f0_15 := (((hxq30 _ m0).2 15).1).trans f0_15
  have h1q18 := (((hxq30 _ mq18).2 10).1).trans h1q18
  have h2q18 := (((hxq30 _ mq18).2 11).1).trans h2q18
  have zsq18 := (fun j => (((hxq30 _ msq18).2 j).2.1).trans (zsq18 j))
  have g0 := (hxq30 _ m0).1.trans g0
  have gq1 := (hxq30 _ mq1).1.trans gq1
  have gq3 := (hxq30 _ mq3).1.trans gq3
  have gq6 := (hxq30 _ mq6).1.trans gq6
  have gq9 := (hxq30 _ mq9).1.trans gq9
  have gq12 := (hxq30 _ mq12).1.trans gq12
  have gq15 := (hxq30 _ mq15).1.trans gq15
  have gq18 := (hxq30 _ mq18).1.trans gq18
  have gsq18 := (hxq30 _ msq18).1.trans gsq18
  have gnq18 := (hxq30 _ mnq18).1.trans gnq18
  have gq21 := (hxq30 _ mq21).1.trans gq21
  have gq24 := (hxq30 _ mq24).1.trans gq24
  have gq27 := (hxq30 _ mq27).1.trans gq27
  have zq30 : ∀ b ∈ L0, b ≠ q30 := fun b hb h => kq30 (h ▸ (hE.1 b hb).1)
  have nq30_p0 : p0 ≠ q30 := fun h => kq30 (h ▸ m0)
  have nq30_q1 : q1 ≠ q30 := fun h => kq30 (h ▸ mq1)
  have nq30_q3 : q3 ≠ q30 := fun h => kq30 (h ▸ mq3)
  have nq30_q6 : q6 ≠ q30 := fun h => kq30 (h ▸ mq6)
  have nq30_q9 : q9 ≠ q30 := fun h => kq30 (h ▸ mq9)
  have nq30_q12 : q12 ≠ q30 := fun h => kq30 (h ▸ mq12)
  have nq30_q15 : q15 ≠ q30 := fun h => kq30 (h ▸ mq15)
  have nq30_q18 : q18 ≠ q30 := fun h => kq30 (h ▸ mq18)
  have nq30_xsq18 : xsq18 ≠ q30 := fun h => kq30 (h ▸ msq18)
  have nq30_xnq18 : xnq18 ≠ q30 := fun h => kq30 (h ▸ mnq18)
  have nq30_q21 : q21 ≠ q30 := fun h => kq30 (h ▸ mq21)
  have nq30_q24 : q24 ≠ q30 := fun h => kq30 (h ▸ mq24)
  have nq30_q27 : q27 ≠ q30 := fun h => kq30 (h ▸ mq27)
  have hE := EXTR.tr hE hEq30 (fun b hb _ => zq30 b hb) (fun h => (hEq30.1 _ ((hE.1 _ h).1)).1)
  have m0 := (hEq30.1 _ m0).1
  have mq1 := (hEq30.1 _ mq1).1
  have mq3 := (hEq30.1 _ mq3).1
  have mq6 := (hEq30.1 _ mq6).1
  have mq9 := (hEq30.1 _ mq9).1
  have mq12 := (hEq30.1 _ mq12).1
  have mq15 := (hEq30.1 _ mq15).1
  have mq18 := (hEq30.1 _ mq18).1
  have msq18 := (hEq30.1 _ msq18).1
  have mnq18 := (hEq30.1 _ mnq18).1
  have mq21 := (hEq30.1 _ mq21).1
  have mq24 := (hEq30.1 _ mq24).1
  have mq27 := (hEq30.1 _ mq27).1
  refine lv_dup hx hb dX11_init_116 rfl ?_
  refine t_caI (n := 0) (As := []) (rest := [.ref q30, .ref p0]) X hT (ka_X2_init l G tag L F hT.2.2.2 q30 mq30 gq30 (by unfold fld; rw [Fq30]; rfl) (by unfold fld; rw [Fq30]; rfl) (by unfold fld; rw [Fq30]; rfl) (by unfold fld; rw [Fq30]; rfl) (by unfold fld; rw [Fq30]; rfl)) qw_98 qw_99 qw_44 qw_100 rfl ⟨by decide +kernel, by decide +kernel, by decide +kernel⟩ ⟨(Nat.le_of_ble_eq_true rfl), (Nat.le_of_ble_eq_true rfl)⟩ hl rfl rfl (Nat.le_of_ble_eq_true rfl) dX11_init_117 ⟨(Nat.le_of_ble_eq_true rfl), (Nat.le_of_ble_eq_true rfl)⟩ (fun u31 H locs hT hu31 => ?_)
  obtain ⟨tag, L, F⟩ := u31
  have hT : TH G ttC A s tag L F H locs := hT
  obtain ⟨hEu31, mq30, gq30⟩ := hu31
  have mq30 : q30 ∈ L := mq30
  have gq30 : tag q30 = 23 := gq30
  have vu2 := ((hEu31.2 _ 0 m0 nq30_p0).1).trans vu2
  have f0_1 := ((hEu31.2 _ 1 m0 nq30_p0).1).trans f0_1
  have f0_2 := ((hEu31.2 _ 2 m0 nq30_p0).1).trans f0_2
  have vu5 := ((hEu31.2 _ 3 m0 nq30_p0).1).trans vu5
  have vu8 := ((hEu31.2 _ 4 m0 nq30_p0).1).trans vu8
  have vu11 := ((hEu31.2 _ 5 m0 nq30_p0).1).trans vu11
  have vu14 := ((hEu31.2 _ 6 m0 nq30_p0).1).trans vu14
  have vu17 := ((hEu31.2 _ 7 m0 nq30_p0).1).trans vu17
  have vu20 := ((hEu31.2 _ 8 m0 nq30_p0).1).trans vu20
  have vu23 := ((hEu31.2 _ 9 m0 nq30_p0).1).trans vu23
  have vu26 := ((hEu31.2 _ 10 m0 nq30_p0).1).trans vu26
  have vu29 := ((hEu31.2 _ 11 m0 nq30_p0).1).trans vu29
  have f0_12 := ((hEu31.2 _ 12 m0 nq30_p0).1).trans f0_12
  have f0_13 := ((hEu31.2 _ 13 m0 nq30_p0).1).trans f0_13
  have f0_14 := ((hEu31.2 _ 14 m0 nq30_p0).1).trans f0_14
  have f0_15 := ((hEu31.2 _ 15 m0 nq30_p0).1).trans f0_15
  have h1q18 := ((hEu31.2 _ 10 mq18 nq30_q18).1).trans h1q18
  have h2q18 := ((hEu31.2 _ 11 mq18 nq30_q18).1).trans h2q18
  have zsq18 := (fun j => ((hEu31.2 _ j msq18 nq30_xsq18).2.1).trans (zsq18 j))
  have g0 : tag p0 = 56 := ((hEu31.1 _ m0).2 nq30_p0).trans g0
  have gq1 : tag q1 = 1 := ((hEu31.1 _ mq1).2 nq30_q1).trans gq1
  have gq3 : tag q3 = 18 := ((hEu31.1 _ mq3).2 nq30_q3).trans gq3
  have gq6 : tag q6 = 18 := ((hEu31.1 _ mq6).2 nq30_q6).trans gq6
  have gq9 : tag q9 = 19 := ((hEu31.1 _ mq9).2 nq30_q9).trans gq9
  have gq12 : tag q12 = 19 := ((hEu31.1 _ mq12).2 nq30_q12).trans gq12
  have gq15 : tag q15 = 19 := ((hEu31.1 _ mq15).2 nq30_q15).trans gq15
  have gq18 : tag q18 = 25 := ((hEu31.1 _ mq18).2 nq30_q18).trans gq18
  have gsq18 : tag xsq18 = 14 := ((hEu31.1 _ msq18).2 nq30_xsq18).trans gsq18
  have gnq18 : tag xnq18 = 15 := ((hEu31.1 _ mnq18).2 nq30_xnq18).trans gnq18
  have gq21 : tag q21 = 20 := ((hEu31.1 _ mq21).2 nq30_q21).trans gq21
  have gq24 : tag q24 = 21 := ((hEu31.1 _ mq24).2 nq30_q24).trans gq24
  have gq27 : tag q27 = 22 := ((hEu31.1 _ mq27).2 nq30_q27).trans gq27
  have hE := EXTR.tr hE hEu31 (fun b hb _ => zq30 b hb) (fun h => (hEu31.1 _ ((hE.1 _ h).1)).1)
  have m0 : p0 ∈ L := (hEu31.1 _ m0).1
  have mq1 : q1 ∈ L := (hEu31.1 _ mq1).1
  have mq3 : q3 ∈ L := (hEu31.1 _ mq3).1
  have mq6 : q6 ∈ L := (hEu31.1 _ mq6).1
  have mq9 : q9 ∈ L := (hEu31.1 _ mq9).1
  have mq12 : q12 ∈ L := (hEu31.1 _ mq12).1
  have mq15 : q15 ∈ L := (hEu31.1 _ mq15).1
  have mq18 : q18 ∈ L := (hEu31.1 _ mq18).1
  have msq18 : xsq18 ∈ L := (hEu31.1 _ msq18).1
  have mnq18 : xnq18 ∈ L := (hEu31.1 _ mnq18).1
  have mq21 : q21 ∈ L := (hEu31.1 _ mq21).1
  have mq24 : q24 ∈ L := (hEu31.1 _ mq24).1
  have mq27 : q27 ∈ L := (hEu31.1 _ mq27).1
  refine t_putF (C := RX11) (T := TX11) (N := 16) (v := .ref q30) X hi hT m0 g0 rfl tyX11 tyX11_ok nmX11 rfl 12 (by decide) qw_45 inlX11 rfl rfl (by first | rfl | decide) (by first | rfl | decide) rfl trivial dX11_init_120 (fun F H locs hT vu32 h1u32 h2u32 => ?_)
  have vu2 := (h1u32 0 (by decide)).trans vu2
  have f0_1 := (h1u32 1 (by decide)).trans f0_1
  have f0_2 := (h1u32 2 (by decide)).trans f0_2
  have vu5 := (h1u32 3 (by decide)).trans vu5
  have vu8 := (h1u32 4 (by decide)).trans vu8
  have vu11 := (h1u32 5 (by decide)).trans vu11
  have vu14 := (h1u32 6 (by decide)).trans vu14
  have vu17 := (h1u32 7 (by decide)).trans vu17
  have vu20 := (h1u32 8 (by decide)).trans vu20
  have vu23 := (h1u32 9 (by decide)).trans vu23
  have vu26 := (h1u32 10 (by decide)).trans vu26
  have vu29 := (h1u32 11 (by decide)).trans vu29
  have f0_13 := (h1u32 13 (by decide)).trans f0_13
  have f0_14 := (h1u32 14 (by decide)).trans f0_14
  have f0_15 := (h1u32 15 (by decide)).trans f0_15
  have h1q18 := ((h2u32 _ 10 (tne gq18 g0 (by decide))).1).trans h1q18
  have h2q18 := ((h2u32 _ 11 (tne gq18 g0 (by decide))).1).trans h2q18
  have zsq18 := (fun j => ((h2u32 _ j (tne gsq18 g0 (by decide))).2.1).trans (zsq18 j))
  have hE := EXTR.tr (u := (tag, L, F)) hE (show EXTR p0 tag L _ (tag, L, F) from ⟨fun b hb => ⟨hb, fun _ => rfl⟩, fun b j _ hb => h2u32 b j hb⟩) (fun _ _ h => h) (fun h => (hE.1 _ h).1)
  have hT := th_done (t := 26) hT m0 g0 rfl rfl rfl (nl_of (by decide)) (fun k f hk => by
    match k, hk with
    | 0, hk => obtain rfl := Option.some.inj (show some ((1, 1, 0) : FT) = some f from hk); rw [vu2]; exact ⟨q1, rfl, mq1, by rw [tup_ne (tne gq1 g0 (by decide))]; rw [gq1]; rfl⟩
    | 1, hk => obtain rfl := Option.some.inj (show some ((0, 0, 1000) : FT) = some f from hk); rw [f0_1]; exact ⟨0, rfl, by decide, by decide⟩
    | 2, hk => obtain rfl := Option.some.inj (show some ((0, 0, 1) : FT) = some f from hk); rw [f0_2]; exact ⟨0, rfl, by decide, by decide⟩
    | 3, hk => obtain rfl := Option.some.inj (show some ((1, 18, 0) : FT) = some f from hk); rw [vu5]; exact ⟨q3, rfl, mq3, by rw [tup_ne (tne gq3 g0 (by decide))]; rw [gq3]; rfl⟩
    | 4, hk => obtain rfl := Option.some.inj (show some ((1, 18, 0) : FT) = some f from hk); rw [vu8]; exact ⟨q6, rfl, mq6, by rw [tup_ne (tne gq6 g0 (by decide))]; rw [gq6]; rfl⟩
    | 5, hk => obtain rfl := Option.some.inj (show some ((1, 19, 0) : FT) = some f from hk); rw [vu11]; exact ⟨q9, rfl, mq9, by rw [tup_ne (tne gq9 g0 (by decide))]; rw [gq9]; rfl⟩
    | 6, hk => obtain rfl := Option.some.inj (show some ((1, 19, 0) : FT) = some f from hk); rw [vu14]; exact ⟨q12, rfl, mq12, by rw [tup_ne (tne gq12 g0 (by decide))]; rw [gq12]; rfl⟩
    | 7, hk => obtain rfl := Option.some.inj (show some ((1, 19, 0) : FT) = some f from hk); rw [vu17]; exact ⟨q15, rfl, mq15, by rw [tup_ne (tne gq15 g0 (by decide))]; rw [gq15]; rfl⟩
    | 8, hk => obtain rfl := Option.some.inj (show some ((1, 25, 0) : FT) = some f from hk); rw [vu20]; exact ⟨q18, rfl, mq18, by rw [tup_ne (tne gq18 g0 (by decide))]; rw [gq18]; rfl⟩
    | 9, hk => obtain rfl := Option.some.inj (show some ((1, 20, 0) : FT) = some f from hk); rw [vu23]; exact ⟨q21, rfl, mq21, by rw [tup_ne (tne gq21 g0 (by decide))]; rw [gq21]; rfl⟩
    | 10, hk => obtain rfl := Option.some.inj (show some ((1, 21, 0) : FT) = some f from hk); rw [vu26]; exact ⟨q24, rfl, mq24, by rw [tup_ne (tne gq24 g0 (by decide))]; rw [gq24]; rfl⟩
    | 11, hk => obtain rfl := Option.some.inj (show some ((1, 22, 0) : FT) = some f from hk); rw [vu29]; exact ⟨q27, rfl, mq27, by rw [tup_ne (tne gq27 g0 (by decide))]; rw [gq27]; rfl⟩
    | 12, hk => obtain rfl := Option.some.inj (show some ((1, 23, 0) : FT) = some f from hk); rw [vu32]; exact ⟨q30, rfl, mq30, by rw [tup_ne (tne gq30 g0 (by decide))]; rw [gq30]; rfl⟩
    | 13, hk => obtain rfl := Option.some.inj (show some ((0, (-2147483648), 2147483647) : FT) = some f from hk); rw [f0_13]; exact ⟨0, rfl, by decide, by decide⟩
    | 14, hk => obtain rfl := Option.some.inj (show some ((0, (-2147483648), 2147483647) : FT) = some f from hk); rw [f0_14]; exact ⟨0, rfl, by decide, by decide⟩
    | 15, hk => obtain rfl := Option.some.inj (show some ((0, (-2147483648), 2147483647) : FT) = some f from hk); rw [f0_15]; exact ⟨0, rfl, by decide, by decide⟩
    | k + 16, hk => exact absurd hk (by simp))
  exact t_vreta hQ X hT ⟨extr_re hE, m0, tup_self, ⟨q18, xsq18, xnq18, vu20, mq18, (tup_ne (tne gq18 g0 (by decide))).trans gq18, h1q18, h2q18, msq18, mnq18, (tup_ne (tne gsq18 g0 (by decide))).trans gsq18, (tup_ne (tne gnq18 g0 (by decide))).trans gnq18, zsq18⟩, f0_1⟩ (Nat.le_of_ble_eq_true rfl) (Nat.le_of_ble_eq_true rfl) dX11_init_123
