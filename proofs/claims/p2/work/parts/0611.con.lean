set_option maxHeartbeats 4000000 in
set_option maxRecDepth 100000 in
theorem kt376_X11_goldIn (l : Launch) (G : KG) (tag : Nat → Nat) (L : List Nat) (F : Nat → va_E) (ho : okT G ttC tag L F) (p0 : Nat) (p1 : Int32) (p2 : Int32) (m0 : p0 ∈ L) (g0 : tag p0 = 26) : TMi l yX11_goldIn cX11_goldIn 3 (some .int) { frames := 1, cells := 0, slots := 0, locals := 24 } G ttC tag L F [.ref p0, .int p1, .int p2] (fun r F1 => F1 = F ∧ ((-2147483648) ≤ r.toInt ∧ r.toInt ≤ 2147483647)) := by
  refine t_bodyi (y := yX11_goldIn) (cd := cX11_goldIn) (mL := 3) (rt := (some .int)) (rm := { frames := 1, cells := 0, slots := 0, locals := 24 }) (av := [.ref p0, .int p1, .int p2]) (by decide) (Nat.le_of_ble_eq_true rfl) ho ?_
  intro p e s m args below meth c ls A Q hQ X hT hl
  have hx := X.1.1
  have hb := X.1.2.1
  have hl : lv_has ls 3 [(0, .ref p0), (1, .int p1), (2, .int p2)] := hl
  have rp1 := rg_all p1
  have rp2 := rg_all p2
  refine lv_aload_n hx hb dX11_goldIn_0 rfl (lv_at hl 0 rfl) ?_
  refine t_get (C := RX11) (T := TX11) (N := 16) X hT m0 g0 rfl rfl 3 (by decide) qw_18 inlX11 rfl dX11_goldIn_1 (fun v113962 hv113962 ov113962 => ?_)
  obtain ⟨b113963, rfl, mb113963, gb113963⟩ := okV_r ov113962
  have gb113963 : tag b113963 = 18 := tg_of gb113963
  refine lv_aload_n hx hb dX11_goldIn_4 rfl (lv_at hl 0 rfl) ?_
  refine t_get (C := RX11) (T := TX11) (N := 16) X hT m0 g0 rfl rfl 5 (by decide) qw_23 inlX11 rfl dX11_goldIn_5 (fun v113964 hv113964 ov113964 => ?_)
  obtain ⟨b113965, rfl, mb113965, gb113965⟩ := okV_r ov113964
  have gb113965 : tag b113965 = 19 := tg_of gb113965
  refine lv_iload_n hx hb dX11_goldIn_8 rfl (lv_at hl 1 rfl) ?_
  refine lv_iload_n hx hb dX11_goldIn_9 rfl (lv_at hl 2 rfl) ?_
  refine lv_iconst (v := 0) hx hb dX11_goldIn_10 (by decide) ?_
  refine t_cVi (n := 3) (C := RX7) (T := TX7) (N := 7) (As := [.int p1, .int p2, .int 0]) (rest := [.ref b113963]) X hT (kt309_X7_partOf l G tag L F hT.2.2.2 b113965 p1 p2 0 mb113965 gb113965) mb113965 gb113965 rfl rfl qw_831 qw_778 qw_779 qw_22 qw_780 ⟨rfl, by decide +kernel, by decide +kernel, by decide +kernel⟩ ⟨Nat.le_of_ble_eq_true rfl, Nat.le_of_ble_eq_true rfl⟩ hl rfl rfl (Nat.le_of_ble_eq_true rfl) dX11_goldIn_11 ⟨Nat.le_of_ble_eq_true rfl, Nat.le_of_ble_eq_true rfl⟩ (fun z113966 F9 H locs hT hz113966 => ?_)
  obtain ⟨fz113966, hz113966⟩ := hz113966
  rw [fz113966] at hT
  refine lv_iconst (v := 1) hx hb dX11_goldIn_14 (by decide) ?_
  refine t_cVi (n := 2) (C := RX1) (T := TX1) (N := 20) (As := [.int z113966, .int 1]) (rest := []) X hT (kt303_X1_stonePart l G tag L F hT.2.2.2 b113963 z113966 1 mb113963 gb113963) mb113963 gb113963 rfl rfl qw_857 qw_858 qw_859 qw_17 qw_860 ⟨rfl, by decide +kernel, by decide +kernel, by decide +kernel⟩ ⟨Nat.le_of_ble_eq_true rfl, Nat.le_of_ble_eq_true rfl⟩ hl rfl rfl (Nat.le_of_ble_eq_true rfl) dX11_goldIn_15 ⟨Nat.le_of_ble_eq_true rfl, Nat.le_of_ble_eq_true rfl⟩ (fun z113967 F9 H locs hT hz113967 => ?_)
  obtain ⟨fz113967, hz113967⟩ := hz113967
  rw [fz113967] at hT
  refine lv_bipush (v := 8) hx hb dX11_goldIn_18 (by decide) ?_
  refine lv_imul hx hb dX11_goldIn_20 ?_
  refine lv_topi (fun z113968 ez113968 => ?_)
  have rz113968 := rg_all z113968
  refine lv_iload_n hx hb dX11_goldIn_21 rfl (lv_at hl 2 rfl) ?_
  refine lv_imul hx hb dX11_goldIn_22 ?_
  refine lv_topi (fun z113969 ez113969 => ?_)
  have rz113969 := rg_all z113969
  refine lv_iconst (v := 2) hx hb dX11_goldIn_23 (by decide) ?_
  refine lv_idiv hx hb dX11_goldIn_24 (by decide) ?_
  refine lv_topi (fun z113970 ez113970 => ?_)
  have rz113970 := rg_all z113970
  exact t_iret hQ X hT (⟨rfl, rg_all _⟩) (Nat.le_of_ble_eq_true rfl) (Nat.le_of_ble_eq_true rfl) dX11_goldIn_25
set_option maxHeartbeats 4000000 in
set_option maxRecDepth 100000 in
theorem kt377_X11_heads (l : Launch) (G : KG) (tag : Nat → Nat) (L : List Nat) (Fo : Nat → va_E) (ho : okT G ttC tag L Fo) (p0 : Nat) (p1 : Int32) (p2 : Int32) (m0 : p0 ∈ L) (g0 : tag p0 = 26) : TMi l yX11_heads cX11_heads 5 (some .int) { frames := 6, cells := 0, slots := 0, locals := 157 } G ttC tag L Fo [.ref p0, .int p1, .int p2] (fun r F1 => ((-2147483648) ≤ r.toInt ∧ r.toInt ≤ 2147483647) ∧ ((∀ b j : Nat, (tag b ≠ 19 ∨ j ≠ 0) → (tag b ≠ 19 ∨ j ≠ 1) → (tag b ≠ 26 ∨ j ≠ 13) → fld F1 b j = fld Fo b j) ∧ EF tag F1 Fo)) := by
  refine t_bodyi (y := yX11_heads) (cd := cX11_heads) (mL := 5) (rt := (some .int)) (rm := { frames := 6, cells := 0, slots := 0, locals := 157 }) (av := [.ref p0, .int p1, .int p2]) (by decide) (Nat.le_of_ble_eq_true rfl) ho ?_
  intro p e s m args below meth c ls A Q hQ X hT hl
  have hx := X.1.1
  have hb := X.1.2.1
  have hl : lv_has ls 5 [(0, .ref p0), (1, .int p1), (2, .int p2)] := hl
  have rp1 := rg_all p1
  have rp2 := rg_all p2
  obtain ⟨F, hFo⟩ : ∃ F : Nat → va_E, F = Fo := ⟨_, rfl⟩
  rw [← hFo] at hT
  have hfr : (∀ b j : Nat, (tag b ≠ 19 ∨ j ≠ 0) → (tag b ≠ 19 ∨ j ≠ 1) → (tag b ≠ 26 ∨ j ≠ 13) → fld F b j = fld Fo b j) ∧ EF tag F Fo := by
    rw [hFo]
    exact ⟨by intros; rfl, fun _ _ _ => rfl⟩
  have K34 : ∀ (z114986 : Int32) (F : Nat → va_E) (H : Heap) (locs : List Loc) (ls : Array Slot), (1 ≤ z114986.toInt ∧ z114986.toInt ≤ 1) → TH G ttC A s tag L F H locs → ((∀ b j : Nat, (tag b ≠ 19 ∨ j ≠ 0) → (tag b ≠ 19 ∨ j ≠ 1) → (tag b ≠ 26 ∨ j ≠ 13) → fld F b j = fld Fo b j) ∧ EF tag F Fo) → fld F p0 2 = .int z114986 → lv_has ls 5 [(0, .ref p0), (1, .int p1), (2, .int p2)] → W p l e { frames := 6, cells := 0, slots := 0, locals := 157 } s m args below meth c H locs 0 0 Q (F0 m 34 ls []) := by
    intro z114986 F H locs ls rz114986 hT hfr qz114986 hl
    refine lv_aload_n hx hb dX11_heads_34 rfl (lv_at hl 0 rfl) ?_
    refine lv_iconst (v := 2) hx hb dX11_heads_35 (by decide) ?_
    refine t_cVi (n := 1) (C := RX11) (T := TX11) (N := 16) (As := [.int 2]) (rest := []) X hT (kt357_X11_refuse l G tag L F hT.2.2.2 p0 2 m0 g0) m0 g0 rfl rfl qw_152 qw_153 qw_154 qw_2 qw_155 ⟨rfl, by decide +kernel, by decide +kernel, by decide +kernel⟩ ⟨Nat.le_of_ble_eq_true rfl, Nat.le_of_ble_eq_true rfl⟩ hl rfl rfl (Nat.le_of_ble_eq_true rfl) dX11_heads_36 ⟨Nat.le_of_ble_eq_true rfl, Nat.le_of_ble_eq_true rfl⟩ (fun z114987 F H locs hT hz114987 => ?_)
    obtain ⟨hz114987, yz114987⟩ := hz114987
    have qz114986 := (yz114987.1 _ 2 (Or.inr (by decide))).trans qz114986
    have hfr : (∀ b j : Nat, (tag b ≠ 19 ∨ j ≠ 0) → (tag b ≠ 19 ∨ j ≠ 1) → (tag b ≠ 26 ∨ j ≠ 13) → fld F b j = fld Fo b j) ∧ EF tag F Fo := ⟨fun b j n19_0 n19_1 n26_13 => (yz114987.1 b j n26_13).trans (hfr.1 b j n19_0 n19_1 n26_13), fun b j hb => (yz114987.2 b j hb).trans (hfr.2 b j hb)⟩
    exact t_iret hQ X hT (⟨rg_all _, hfr⟩) (Nat.le_of_ble_eq_true rfl) (Nat.le_of_ble_eq_true rfl) dX11_heads_39
  have K91 : ∀ (n : Nat) (z114990 : Int32) (z114991 : Int32) (z114992 : Int32) (F : Nat → va_E) (H : Heap) (locs : List Loc) (ls : Array Slot), (4 - z114991.toInt < (n : Int)) → (0 ≤ z114991.toInt ∧ z114991.toInt ≤ 4) → (1 ≤ z114992.toInt ∧ z114992.toInt ≤ 1) → (0 ≤ p1.toInt ∧ p1.toInt ≤ 65536) → (0 ≤ p2.toInt ∧ p2.toInt ≤ 96) → TH G ttC A s tag L F H locs → ((∀ b j : Nat, (tag b ≠ 19 ∨ j ≠ 0) → (tag b ≠ 19 ∨ j ≠ 1) → (tag b ≠ 26 ∨ j ≠ 13) → fld F b j = fld Fo b j) ∧ EF tag F Fo) → fld F p0 2 = .int z114992 → lv_has ls 5 [(0, .ref p0), (1, .int p1), (2, .int p2), (3, .int z114990), (4, .int z114991)] → W p l e { frames := 6, cells := 0, slots := 0, locals := 157 } s m args below meth c H locs 0 0 Q (F0 m 91 ls []) := by
    intro n
    induction n with
    | zero =>
      intro z114990 z114991 z114992 F H locs ls hn rz114991 rz114992 r9s114988 r9s114989 hT hfr qz114992 hl
      have rz114990 := rg_all z114990
      exfalso
      omega
    | succ n ih91 =>
      intro z114990 z114991 z114992 F H locs ls hn rz114991 rz114992 r9s114988 r9s114989 hT hfr qz114992 hl
      have rz114990 := rg_all z114990
      refine lv_iload hx hb dX11_heads_91 (lv_at hl 4 rfl) ?_
      refine lv_aload_n hx hb dX11_heads_93 rfl (lv_at hl 0 rfl) ?_
      refine t_get (C := RX11) (T := TX11) (N := 16) X hT m0 g0 rfl rfl 3 (by decide) qw_18 inlX11 rfl dX11_heads_94 (fun v114993 hv114993 ov114993 => ?_)
      obtain ⟨b114994, rfl, mb114994, gb114994⟩ := okV_r ov114993
      have gb114994 : tag b114994 = 18 := tg_of gb114994
      refine t_get (C := RX1) (T := TX1) (N := 20) X hT mb114994 gb114994 rfl rfl 10 (by decide) qw_151 inlX1 rfl dX11_heads_97 (fun v114995 hv114995 ov114995 => ?_)
      obtain ⟨z114996, rfl, rz114996⟩ := okV_i ov114995
      refine lv_icmp_ge (tgt := 122) hx hb dX11_heads_100 (by decide) (fun c114997 => ?_) (fun c114997 => ?_)
      · have w114998 := cv_le (rfl : z114996.toInt = z114996.toInt) (rfl : z114991.toInt = z114991.toInt) c114997
        refine lv_aload_n hx hb dX11_heads_122 rfl (lv_at hl 0 rfl) ?_
        refine lv_iload_n hx hb dX11_heads_123 rfl (lv_at hl 3 rfl) ?_
        refine t_cVi (n := 1) (C := RX11) (T := TX11) (N := 16) (As := [.int z114990]) (rest := []) X hT (kt350_X11_answer l G tag L F hT.2.2.2 p0 z114990 m0 g0) m0 g0 rfl rfl qw_463 qw_464 qw_465 qw_2 qw_466 ⟨rfl, by decide +kernel, by decide +kernel, by decide +kernel⟩ ⟨Nat.le_of_ble_eq_true rfl, Nat.le_of_ble_eq_true rfl⟩ hl rfl rfl (Nat.le_of_ble_eq_true rfl) dX11_heads_124 ⟨Nat.le_of_ble_eq_true rfl, Nat.le_of_ble_eq_true rfl⟩ (fun z114999 F H locs hT hz114999 => ?_)
        obtain ⟨hz114999, yz114999⟩ := hz114999
        have qz114992 := (yz114999.1 _ 2 (Or.inr (by decide))).trans qz114992
        have hv114993 := (yz114999.1 _ 3 (Or.inr (by decide))).trans hv114993
        have hv114995 := (yz114999.1 _ 10 (Or.inr (by decide))).trans hv114995
        have hfr : (∀ b j : Nat, (tag b ≠ 19 ∨ j ≠ 0) → (tag b ≠ 19 ∨ j ≠ 1) → (tag b ≠ 26 ∨ j ≠ 13) → fld F b j = fld Fo b j) ∧ EF tag F Fo := ⟨fun b j n19_0 n19_1 n26_13 => (yz114999.1 b j n26_13).trans (hfr.1 b j n19_0 n19_1 n26_13), fun b j hb => (yz114999.2 b j hb).trans (hfr.2 b j hb)⟩
        exact t_iret hQ X hT (⟨rg_all _, hfr⟩) (Nat.le_of_ble_eq_true rfl) (Nat.le_of_ble_eq_true rfl) dX11_heads_127
      · have w115000 := cv_nle (rfl : z114996.toInt = z114996.toInt) (rfl : z114991.toInt = z114991.toInt) c114997
        refine lv_iload_n hx hb dX11_heads_103 rfl (lv_at hl 3 rfl) ?_
        refine lv_aload_n hx hb dX11_heads_104 rfl (lv_at hl 0 rfl) ?_
        refine t_get (C := RX11) (T := TX11) (N := 16) X hT m0 g0 rfl rfl 7 (by decide) qw_25 inlX11 rfl dX11_heads_105 (fun v115001 hv115001 ov115001 => ?_)
        obtain ⟨b115002, rfl, mb115002, gb115002⟩ := okV_r ov115001
        have gb115002 : tag b115002 = 19 := tg_of gb115002
        refine t_get (C := RX7) (T := TX7) (N := 7) X hT mb115002 gb115002 rfl rfl 3 (by decide) qw_767 inlX7 rfl dX11_heads_108 (fun v115003 hv115003 ov115003 => ?_)
        obtain ⟨b115004, rfl, mb115004, gb115004⟩ := okV_r ov115003
        have gb115004 : tag b115004 = 5 := tg_of gb115004
        refine lv_iload hx hb dX11_heads_111 (lv_at hl 4 rfl) ?_
        refine t_ild X hT mb115004 gb115004 rfl (by omega) dX11_heads_113 (fun z115005 vz115005 rz115005 => ?_)
        have rz115005 : (-2147483648) ≤ z115005.toInt ∧ z115005.toInt ≤ 2147483647 := rz115005
        refine lv_iadd hx hb dX11_heads_114 ?_
        refine lv_topi (fun z115006 ez115006 => ?_)
        have rz115006 := rg_all z115006
        refine lv_istore_n (lv' := [(3, .int z115006), (0, .ref p0), (1, .int p1), (2, .int p2), (4, .int z114991)]) hx hb dX11_heads_115 rfl hl (by decide) rfl (fun ls hl => ?_)
        obtain ⟨z115007, ez115007⟩ : ∃ y : Int32, y = z114991 + 1 := ⟨_, rfl⟩
        have hz115007 : z115007.toInt = z114991.toInt + 1 := ar_add ez115007 rfl (by decide : (1 : Int32).toInt = 1) (by omega) (by omega)
        refine lv_iinc (v := z115007) (lv' := [(4, .int z115007), (3, .int z115006), (0, .ref p0), (1, .int p1), (2, .int p2)]) hx hb dX11_heads_116 hl (k := 4) rfl (by rw [ez115007]; rfl) (by decide) rfl (fun ls hl => ?_)
        refine lv_goto (tgt := 91) hx hb dX11_heads_119 (by decide) ?_
        exact ih91 z115006 z115007 z114992 _ _ _ _ (by omega) (by omega) (by omega) (by omega) (by omega) hT hfr qz114992 (lv_sub hl [2, 3, 4, 1, 0] rfl)
  have K61 : ∀ (n : Nat) (z115010 : Int32) (z115011 : Int32) (F : Nat → va_E) (H : Heap) (locs : List Loc) (ls : Array Slot), (60 - z115010.toInt < (n : Int)) → (0 ≤ z115010.toInt ∧ z115010.toInt ≤ 60) → (1 ≤ z115011.toInt ∧ z115011.toInt ≤ 1) → (0 ≤ p1.toInt ∧ p1.toInt ≤ 65536) → (0 ≤ p2.toInt ∧ p2.toInt ≤ 60) → TH G ttC A s tag L F H locs → ((∀ b j : Nat, (tag b ≠ 19 ∨ j ≠ 0) → (tag b ≠ 19 ∨ j ≠ 1) → (tag b ≠ 26 ∨ j ≠ 13) → fld F b j = fld Fo b j) ∧ EF tag F Fo) → fld F p0 2 = .int z115011 → lv_has ls 5 [(0, .ref p0), (1, .int p1), (2, .int p2), (3, .int z115010)] → W p l e { frames := 6, cells := 0, slots := 0, locals := 157 } s m args below meth c H locs 0 0 Q (F0 m 61 ls []) := by
    intro n
    induction n with
    | zero =>
      intro z115010 z115011 F H locs ls hn rz115010 rz115011 r9s115008 r9s115009 hT hfr qz115011 hl
      exfalso
      omega
    | succ n ih61 =>
      intro z115010 z115011 F H locs ls hn rz115010 rz115011 r9s115008 r9s115009 hT hfr qz115011 hl
      refine lv_iload_n hx hb dX11_heads_61 rfl (lv_at hl 3 rfl) ?_
      refine lv_iload_n hx hb dX11_heads_62 rfl (lv_at hl 2 rfl) ?_
      refine lv_icmp_ge (tgt := 86) hx hb dX11_heads_63 (by decide) (fun c115012 => ?_) (fun c115012 => ?_)
      · have w115013 := cv_le (rfl : p2.toInt = p2.toInt) (rfl : z115010.toInt = z115010.toInt) c115012
        refine lv_iconst (v := 0) hx hb dX11_heads_86 (by decide) ?_
        refine lv_istore_n (lv' := [(3, .int 0), (0, .ref p0), (1, .int p1), (2, .int p2)]) hx hb dX11_heads_87 rfl hl (by decide) rfl (fun ls hl => ?_)
        refine lv_iconst (v := 0) hx hb dX11_heads_88 (by decide) ?_
        refine lv_istore (lv' := [(4, .int 0), (3, .int 0), (0, .ref p0), (1, .int p1), (2, .int p2)]) hx hb dX11_heads_89 hl (by decide) rfl (fun ls hl => ?_)
        have kk115014 : (0 : Int32).toInt = 0 := by decide
        have kk115015 : (0 : Int32).toInt = 0 := by decide
        exact K91 5 0 0 z115011 _ _ _ _ (by omega) (by decide) (by omega) (by omega) (by omega) hT hfr qz115011 (lv_sub hl [2, 3, 4, 1, 0] rfl)
      · have w115016 := cv_nle (rfl : p2.toInt = p2.toInt) (rfl : z115010.toInt = z115010.toInt) c115012
        refine lv_aload_n hx hb dX11_heads_66 rfl (lv_at hl 0 rfl) ?_
        refine t_get (C := RX11) (T := TX11) (N := 16) X hT m0 g0 rfl rfl 3 (by decide) qw_18 inlX11 rfl dX11_heads_67 (fun v115017 hv115017 ov115017 => ?_)
        obtain ⟨b115018, rfl, mb115018, gb115018⟩ := okV_r ov115017
        have gb115018 : tag b115018 = 18 := tg_of gb115018
        refine lv_aload_n hx hb dX11_heads_70 rfl (lv_at hl 0 rfl) ?_
        refine t_get (C := RX11) (T := TX11) (N := 16) X hT m0 g0 rfl rfl 7 (by decide) qw_25 inlX11 rfl dX11_heads_71 (fun v115019 hv115019 ov115019 => ?_)
        obtain ⟨b115020, rfl, mb115020, gb115020⟩ := okV_r ov115019
        have gb115020 : tag b115020 = 19 := tg_of gb115020
        refine t_gets X hT X.2.2.2.1.2.1.2.2.2 qw_1096 dX11_heads_74 ?_
        refine t_cSv (n := 3) (As := [.ref b115018, .ref b115020, .ref (G.2 13)]) (rest := []) X hT (kt365_X10_pass l G tag L F hT.2.2.2 b115018 b115020 mb115018 gb115018 mb115020 gb115020) qw_1097 qw_1098 qw_32 qw_1099 ⟨by decide +kernel, by decide +kernel, by decide +kernel⟩ ⟨Nat.le_of_ble_eq_true rfl, Nat.le_of_ble_eq_true rfl⟩ hl rfl rfl (Nat.le_of_ble_eq_true rfl) dX11_heads_77 ⟨Nat.le_of_ble_eq_true rfl, Nat.le_of_ble_eq_true rfl⟩ (fun F H locs hT hz115021 => ?_)
        have yz115021 := hz115021
        have qz115011 := (yz115021.1 _ 2 (Or.inr (by decide)) (Or.inr (by decide))).trans qz115011
        have hv115017 := (yz115021.1 _ 3 (Or.inr (by decide)) (Or.inr (by decide))).trans hv115017
        have hv115019 := (yz115021.1 _ 7 (Or.inr (by decide)) (Or.inr (by decide))).trans hv115019
        have hfr : (∀ b j : Nat, (tag b ≠ 19 ∨ j ≠ 0) → (tag b ≠ 19 ∨ j ≠ 1) → (tag b ≠ 26 ∨ j ≠ 13) → fld F b j = fld Fo b j) ∧ EF tag F Fo := ⟨fun b j n19_0 n19_1 n26_13 => (yz115021.1 b j n19_0 n19_1).trans (hfr.1 b j n19_0 n19_1 n26_13), fun b j hb => (yz115021.2 b j hb).trans (hfr.2 b j hb)⟩
        obtain ⟨z115022, ez115022⟩ : ∃ y : Int32, y = z115010 + 1 := ⟨_, rfl⟩
        have hz115022 : z115022.toInt = z115010.toInt + 1 := ar_add ez115022 rfl (by decide : (1 : Int32).toInt = 1) (by omega) (by omega)
        refine lv_iinc (v := z115022) (lv' := [(3, .int z115022), (0, .ref p0), (1, .int p1), (2, .int p2)]) hx hb dX11_heads_80 hl (k := 3) rfl (by rw [ez115022]; rfl) (by decide) rfl (fun ls hl => ?_)
        refine lv_goto (tgt := 61) hx hb dX11_heads_83 (by decide) ?_
        exact ih61 z115022 z115011 _ _ _ _ (by omega) (by omega) (by omega) (by omega) (by omega) hT hfr qz115011 (lv_sub hl [1, 2, 3, 0] rfl)
  refine lv_aload_n hx hb dX11_heads_0 rfl (lv_at hl 0 rfl) ?_
  refine t_get (C := RX11) (T := TX11) (N := 16) X hT m0 g0 rfl rfl 2 (by decide) qw_150 inlX11 rfl dX11_heads_1 (fun v115023 hv115023 ov115023 => ?_)
  obtain ⟨z115024, rfl, rz115024⟩ := okV_i ov115023
  refine lv_if_ne (tgt := 13) hx hb dX11_heads_4 (by decide) (fun c115025 => ?_) (fun c115025 => ?_)
  · have w115026 := cv_ne (rfl : z115024.toInt = z115024.toInt) (by decide : (0 : Int32).toInt = 0) c115025
    refine lv_iload_n hx hb dX11_heads_13 rfl (lv_at hl 1 rfl) ?_
    refine lv_if_lt (tgt := 34) hx hb dX11_heads_14 (by decide) (fun c115027 => ?_) (fun c115027 => ?_)
    · have w115028 := cv_lt (rfl : p1.toInt = p1.toInt) (by decide : (0 : Int32).toInt = 0) c115027
      exact K34 z115024 _ _ _ _ (by omega) hT hfr hv115023 (lv_sub hl [0, 1, 2] rfl)
    · have w115029 := cv_nlt (rfl : p1.toInt = p1.toInt) (by decide : (0 : Int32).toInt = 0) c115027
      refine lv_iload_n hx hb dX11_heads_17 rfl (lv_at hl 1 rfl) ?_
      refine m_ldcw X qw_1281 dX11_heads_18 ?_
      refine lv_icmp_ge (tgt := 34) hx hb dX11_heads_21 (by decide) (fun c115030 => ?_) (fun c115030 => ?_)
      · have w115031 := cv_le (by decide : (65537 : Int32).toInt = 65537) (rfl : p1.toInt = p1.toInt) c115030
        exact K34 z115024 _ _ _ _ (by omega) hT hfr hv115023 (lv_sub hl [0, 1, 2] rfl)
      · have w115032 := cv_nle (by decide : (65537 : Int32).toInt = 65537) (rfl : p1.toInt = p1.toInt) c115030
        refine lv_iload_n hx hb dX11_heads_24 rfl (lv_at hl 2 rfl) ?_
        refine lv_if_lt (tgt := 34) hx hb dX11_heads_25 (by decide) (fun c115033 => ?_) (fun c115033 => ?_)
        · have w115034 := cv_lt (rfl : p2.toInt = p2.toInt) (by decide : (0 : Int32).toInt = 0) c115033
          exact K34 z115024 _ _ _ _ (by omega) hT hfr hv115023 (lv_sub hl [0, 1, 2] rfl)
        · have w115035 := cv_nlt (rfl : p2.toInt = p2.toInt) (by decide : (0 : Int32).toInt = 0) c115033
          refine lv_iload_n hx hb dX11_heads_28 rfl (lv_at hl 2 rfl) ?_
          refine lv_bipush (v := 60) hx hb dX11_heads_29 (by decide) ?_
          refine lv_icmp_le (tgt := 40) hx hb dX11_heads_31 (by decide) (fun c115036 => ?_) (fun c115036 => ?_)
          · have w115037 := cv_le (rfl : p2.toInt = p2.toInt) (by decide : (60 : Int32).toInt = 60) c115036
            refine lv_aload_n hx hb dX11_heads_40 rfl (lv_at hl 0 rfl) ?_
            refine t_get (C := RX11) (T := TX11) (N := 16) X hT m0 g0 rfl rfl 7 (by decide) qw_25 inlX11 rfl dX11_heads_41 (fun v115038 hv115038 ov115038 => ?_)
            obtain ⟨b115039, rfl, mb115039, gb115039⟩ := okV_r ov115038
            have gb115039 : tag b115039 = 19 := tg_of gb115039
            refine lv_aload_n hx hb dX11_heads_44 rfl (lv_at hl 0 rfl) ?_
            refine t_get (C := RX11) (T := TX11) (N := 16) X hT m0 g0 rfl rfl 5 (by decide) qw_23 inlX11 rfl dX11_heads_45 (fun v115040 hv115040 ov115040 => ?_)
            obtain ⟨b115041, rfl, mb115041, gb115041⟩ := okV_r ov115040
            have gb115041 : tag b115041 = 19 := tg_of gb115041
            refine t_cVv (n := 1) (C := RX7) (T := TX7) (N := 7) (As := [.ref b115041]) (rest := []) X hT (kt343_X7_copyFrom l G tag L F hT.2.2.2 b115039 b115041 mb115039 gb115039 mb115041 gb115041) mb115039 gb115039 rfl rfl qw_449 qw_450 qw_451 qw_22 qw_452 ⟨rfl, by decide +kernel, by decide +kernel, by decide +kernel⟩ ⟨Nat.le_of_ble_eq_true rfl, Nat.le_of_ble_eq_true rfl⟩ hl rfl rfl (Nat.le_of_ble_eq_true rfl) dX11_heads_48 ⟨Nat.le_of_ble_eq_true rfl, Nat.le_of_ble_eq_true rfl⟩ (fun F H locs hT hz115042 => ?_)
            have yz115042 := hz115042
            have hv115023 := (yz115042.1 _ 2 (Or.inr (by decide)) (Or.inr (by decide))).trans hv115023
            have hv115038 := (yz115042.1 _ 7 (Or.inr (by decide)) (Or.inr (by decide))).trans hv115038
            have hv115040 := (yz115042.1 _ 5 (Or.inr (by decide)) (Or.inr (by decide))).trans hv115040
            have hfr : (∀ b j : Nat, (tag b ≠ 19 ∨ j ≠ 0) → (tag b ≠ 19 ∨ j ≠ 1) → (tag b ≠ 26 ∨ j ≠ 13) → fld F b j = fld Fo b j) ∧ EF tag F Fo := ⟨fun b j n19_0 n19_1 n26_13 => (yz115042.1 b j n19_0 n19_1).trans (hfr.1 b j n19_0 n19_1 n26_13), fun b j hb => (yz115042.2 b j hb).trans (hfr.2 b j hb)⟩
            refine lv_aload_n hx hb dX11_heads_51 rfl (lv_at hl 0 rfl) ?_
            refine t_get (C := RX11) (T := TX11) (N := 16) X hT m0 g0 rfl rfl 7 (by decide) qw_25 inlX11 rfl dX11_heads_52 (fun v115043 hv115043 ov115043 => ?_)
            obtain rfl : v115043 = .ref b115039 := hv115043.symm.trans hv115038
            refine lv_iload_n hx hb dX11_heads_55 rfl (lv_at hl 1 rfl) ?_
            refine t_put (C := RX7) (T := TX7) (N := 7) (v := .int p1) X hT mb115039 gb115039 rfl tyX7 tyX7_ok nmX7 rfl 1 (by decide) qw_1282 inlX7 rfl (by first | rfl | decide) (by first | rfl | decide) rfl (⟨_, rfl, (show (-2147483648) ≤ (p1 : Int32).toInt from (by omega)), (show (p1 : Int32).toInt ≤ 2147483647 from (by omega))⟩) dX11_heads_56 (fun F H locs hT v115044 h1v115044 h2v115044 => ?_)
            have hv115023 := (h1v115044 _ _ (Or.inr (by decide))).trans hv115023
            have hv115038 := (h1v115044 _ _ (Or.inr (by decide))).trans hv115038
            have hv115040 := (h1v115044 _ _ (Or.inr (by decide))).trans hv115040
            have hfr : (∀ b j : Nat, (tag b ≠ 19 ∨ j ≠ 0) → (tag b ≠ 19 ∨ j ≠ 1) → (tag b ≠ 26 ∨ j ≠ 13) → fld F b j = fld Fo b j) ∧ EF tag F Fo := ⟨fun b j n19_0 n19_1 n26_13 => (h1v115044 b j (fr_ne gb115039 n19_1)).trans (hfr.1 b j n19_0 n19_1 n26_13), fun b j hb => (h2v115044 b j).trans (hfr.2 b j hb)⟩
            refine lv_iconst (v := 0) hx hb dX11_heads_59 (by decide) ?_
            refine lv_istore_n (lv' := [(3, .int 0), (0, .ref p0), (1, .int p1), (2, .int p2)]) hx hb dX11_heads_60 rfl hl (by decide) rfl (fun ls hl => ?_)
            have kk115045 : (0 : Int32).toInt = 0 := by decide
            exact K61 61 0 z115024 _ _ _ _ (by omega) (by decide) (by omega) (by omega) (by omega) hT hfr hv115023 (lv_sub hl [1, 2, 3, 0] rfl)
          · have w115046 := cv_nle (rfl : p2.toInt = p2.toInt) (by decide : (60 : Int32).toInt = 60) c115036
            exact K34 z115024 _ _ _ _ (by omega) hT hfr hv115023 (lv_sub hl [0, 1, 2] rfl)
  · have w115047 := cv_eq (rfl : z115024.toInt = z115024.toInt) (by decide : (0 : Int32).toInt = 0) c115025
    refine lv_aload_n hx hb dX11_heads_7 rfl (lv_at hl 0 rfl) ?_
    refine lv_iconst (v := 1) hx hb dX11_heads_8 (by decide) ?_
    refine t_cVi (n := 1) (C := RX11) (T := TX11) (N := 16) (As := [.int 1]) (rest := []) X hT (kt357_X11_refuse l G tag L F hT.2.2.2 p0 1 m0 g0) m0 g0 rfl rfl qw_152 qw_153 qw_154 qw_2 qw_155 ⟨rfl, by decide +kernel, by decide +kernel, by decide +kernel⟩ ⟨Nat.le_of_ble_eq_true rfl, Nat.le_of_ble_eq_true rfl⟩ hl rfl rfl (Nat.le_of_ble_eq_true rfl) dX11_heads_9 ⟨Nat.le_of_ble_eq_true rfl, Nat.le_of_ble_eq_true rfl⟩ (fun z115048 F H locs hT hz115048 => ?_)
    obtain ⟨hz115048, yz115048⟩ := hz115048
    have hv115023 := (yz115048.1 _ 2 (Or.inr (by decide))).trans hv115023
    have hfr : (∀ b j : Nat, (tag b ≠ 19 ∨ j ≠ 0) → (tag b ≠ 19 ∨ j ≠ 1) → (tag b ≠ 26 ∨ j ≠ 13) → fld F b j = fld Fo b j) ∧ EF tag F Fo := ⟨fun b j n19_0 n19_1 n26_13 => (yz115048.1 b j n26_13).trans (hfr.1 b j n19_0 n19_1 n26_13), fun b j hb => (yz115048.2 b j hb).trans (hfr.2 b j hb)⟩
    exact t_iret hQ X hT (⟨rg_all _, hfr⟩) (Nat.le_of_ble_eq_true rfl) (Nat.le_of_ble_eq_true rfl) dX11_heads_12
set_option maxHeartbeats 4000000 in
set_option maxRecDepth 100000 in
theorem kt378_X11_isHeir (l : Launch) (G : KG) (tag : Nat → Nat) (L : List Nat) (F : Nat → va_E) (ho : okT G ttC tag L F) (p0 : Nat) (p1 : Int32) (m0 : p0 ∈ L) (g0 : tag p0 = 26) : TMi l yX11_isHeir cX11_isHeir 2 (some .boolean) { frames := 0, cells := 0, slots := 0, locals := 0 } G ttC tag L F [.ref p0, .int p1] (fun r F1 => F1 = F ∧ ((0 ≤ r.toInt ∧ r.toInt ≤ 1) ∧ (r.toInt ≠ 0 → (0 ≤ p1.toInt ∧ p1.toInt ≤ 5)))) := by
  refine t_bodyi (y := yX11_isHeir) (cd := cX11_isHeir) (mL := 2) (rt := (some .boolean)) (rm := { frames := 0, cells := 0, slots := 0, locals := 0 }) (av := [.ref p0, .int p1]) (by decide) (Nat.le_of_ble_eq_true rfl) ho ?_
  intro p e s m args below meth c ls A Q hQ X hT hl
  have hx := X.1.1
  have hb := X.1.2.1
  have hl : lv_has ls 2 [(0, .ref p0), (1, .int p1)] := hl
  have rp1 := rg_all p1
  refine lv_aload_n hx hb dX11_isHeir_0 rfl (lv_at hl 0 rfl) ?_
  refine t_get (C := RX11) (T := TX11) (N := 16) X hT m0 g0 rfl rfl 2 (by decide) qw_150 inlX11 rfl dX11_isHeir_1 (fun v115214 hv115214 ov115214 => ?_)
  obtain ⟨z115215, rfl, rz115215⟩ := okV_i ov115214
  refine lv_if_eq (tgt := 26) hx hb dX11_isHeir_4 (by decide) (fun c115216 => ?_) (fun c115216 => ?_)
  · have w115217 := cv_eq (rfl : z115215.toInt = z115215.toInt) (by decide : (0 : Int32).toInt = 0) c115216
    refine lv_iconst (v := 0) hx hb dX11_isHeir_26 (by decide) ?_
    exact t_zret hQ X hT (by decide) (⟨rfl, ⟨(by decide), fun h => absurd (by decide) h⟩⟩) (Nat.le_of_ble_eq_true rfl) (Nat.le_of_ble_eq_true rfl) dX11_isHeir_27
  · have w115218 := cv_ne (rfl : z115215.toInt = z115215.toInt) (by decide : (0 : Int32).toInt = 0) c115216
    refine lv_iload_n hx hb dX11_isHeir_7 rfl (lv_at hl 1 rfl) ?_
    refine lv_if_lt (tgt := 26) hx hb dX11_isHeir_8 (by decide) (fun c115219 => ?_) (fun c115219 => ?_)
    · have w115220 := cv_lt (rfl : p1.toInt = p1.toInt) (by decide : (0 : Int32).toInt = 0) c115219
      refine lv_iconst (v := 0) hx hb dX11_isHeir_26 (by decide) ?_
      exact t_zret hQ X hT (by decide) (⟨rfl, ⟨(by decide), fun h => absurd (by decide) h⟩⟩) (Nat.le_of_ble_eq_true rfl) (Nat.le_of_ble_eq_true rfl) dX11_isHeir_27
    · have w115221 := cv_nlt (rfl : p1.toInt = p1.toInt) (by decide : (0 : Int32).toInt = 0) c115219
      refine lv_iload_n hx hb dX11_isHeir_11 rfl (lv_at hl 1 rfl) ?_
      refine lv_aload_n hx hb dX11_isHeir_12 rfl (lv_at hl 0 rfl) ?_
      refine t_get (C := RX11) (T := TX11) (N := 16) X hT m0 g0 rfl rfl 3 (by decide) qw_18 inlX11 rfl dX11_isHeir_13 (fun v115222 hv115222 ov115222 => ?_)
      obtain ⟨b115223, rfl, mb115223, gb115223⟩ := okV_r ov115222
      have gb115223 : tag b115223 = 18 := tg_of gb115223
      refine t_get (C := RX1) (T := TX1) (N := 20) X hT mb115223 gb115223 rfl rfl 14 (by decide) qw_891 inlX1 rfl dX11_isHeir_16 (fun v115224 hv115224 ov115224 => ?_)
      obtain ⟨z115225, rfl, rz115225⟩ := okV_i ov115224
      refine lv_icmp_ge (tgt := 26) hx hb dX11_isHeir_19 (by decide) (fun c115226 => ?_) (fun c115226 => ?_)
      · have w115227 := cv_le (rfl : z115225.toInt = z115225.toInt) (rfl : p1.toInt = p1.toInt) c115226
        refine lv_iconst (v := 0) hx hb dX11_isHeir_26 (by decide) ?_
        exact t_zret hQ X hT (by decide) (⟨rfl, ⟨(by decide), fun h => absurd (by decide) h⟩⟩) (Nat.le_of_ble_eq_true rfl) (Nat.le_of_ble_eq_true rfl) dX11_isHeir_27
      · have w115228 := cv_nle (rfl : z115225.toInt = z115225.toInt) (rfl : p1.toInt = p1.toInt) c115226
        refine lv_iconst (v := 1) hx hb dX11_isHeir_22 (by decide) ?_
        refine lv_goto (tgt := 27) hx hb dX11_isHeir_23 (by decide) ?_
        exact t_zret hQ X hT (by decide) (⟨rfl, ⟨(by decide), fun _ => by omega⟩⟩) (Nat.le_of_ble_eq_true rfl) (Nat.le_of_ble_eq_true rfl) dX11_isHeir_27
set_option maxHeartbeats 4000000 in
set_option maxRecDepth 100000 in
theorem kt379_X11_warmth (l : Launch) (G : KG) (tag : Nat → Nat) (L : List Nat) (F : Nat → va_E) (ho : okT G ttC tag L F) (p0 : Nat) (p1 : Int32) (p2 : Int32) (m0 : p0 ∈ L) (g0 : tag p0 = 26) (h1 : 0 ≤ p1.toInt ∧ p1.toInt ≤ 3) : TMi l yX11_warmth cX11_warmth 5 (some .int) { frames := 2, cells := 0, slots := 0, locals := 46 } G ttC tag L F [.ref p0, .int p1, .int p2] (fun r F1 => F1 = F ∧ ((-2147483648) ≤ r.toInt ∧ r.toInt ≤ 2147483647)) := by
  refine t_bodyi (y := yX11_warmth) (cd := cX11_warmth) (mL := 5) (rt := (some .int)) (rm := { frames := 2, cells := 0, slots := 0, locals := 46 }) (av := [.ref p0, .int p1, .int p2]) (by decide) (Nat.le_of_ble_eq_true rfl) ho ?_
  intro p e s m args below meth c ls A Q hQ X hT hl
  have hx := X.1.1
  have hb := X.1.2.1
  have hl : lv_has ls 5 [(0, .ref p0), (1, .int p1), (2, .int p2)] := hl
  have rp2 := rg_all p2
  have K9 : ∀ (n : Nat) (z115558 : Int32) (z115559 : Int32) (H : Heap) (locs : List Loc) (ls : Array Slot), (7 - z115559.toInt < (n : Int)) → (1 ≤ z115559.toInt ∧ z115559.toInt ≤ 2147483647) → TH G ttC A s tag L F H locs → lv_has ls 5 [(0, .ref p0), (1, .int p1), (2, .int p2), (3, .int z115558), (4, .int z115559)] → W p l e { frames := 2, cells := 0, slots := 0, locals := 46 } s m args below meth c H locs 0 0 Q (F0 m 9 ls []) := by
    intro n
    induction n with
    | zero =>
      intro z115558 z115559 H locs ls hn rz115559 hT hl
      have rz115558 := rg_all z115558
      refine lv_iload hx hb dX11_warmth_9 (lv_at hl 4 rfl) ?_
      refine lv_aload_n hx hb dX11_warmth_11 rfl (lv_at hl 0 rfl) ?_
      refine t_get (C := RX11) (T := TX11) (N := 16) X hT m0 g0 rfl rfl 5 (by decide) qw_23 inlX11 rfl dX11_warmth_12 (fun v115560 hv115560 ov115560 => ?_)
      obtain ⟨b115561, rfl, mb115561, gb115561⟩ := okV_r ov115560
      have gb115561 : tag b115561 = 19 := tg_of gb115561
      refine t_get (C := RX7) (T := TX7) (N := 7) X hT mb115561 gb115561 rfl rfl 2 (by decide) qw_766 inlX7 rfl dX11_warmth_15 (fun v115562 hv115562 ov115562 => ?_)
      obtain ⟨b115563, rfl, mb115563, gb115563⟩ := okV_r ov115562
      have gb115563 : tag b115563 = 8 := tg_of gb115563
      refine lv_iload_n hx hb dX11_warmth_18 rfl (lv_at hl 1 rfl) ?_
      refine t_ild X hT mb115563 gb115563 rfl (by omega) dX11_warmth_19 (fun z115564 vz115564 rz115564 => ?_)
      have rz115564 : 0 ≤ z115564.toInt ∧ z115564.toInt ≤ 6 := rz115564
      refine lv_icmp_gt (tgt := 64) hx hb dX11_warmth_20 (by decide) (fun c115565 => ?_) (fun c115565 => ?_)
      · have w115566 := cv_lt (rfl : z115564.toInt = z115564.toInt) (rfl : z115559.toInt = z115559.toInt) c115565
        refine lv_iload_n hx hb dX11_warmth_64 rfl (lv_at hl 3 rfl) ?_
        exact t_iret hQ X hT (⟨rfl, rg_all _⟩) (Nat.le_of_ble_eq_true rfl) (Nat.le_of_ble_eq_true rfl) dX11_warmth_65
      · have w115567 := cv_nlt (rfl : z115564.toInt = z115564.toInt) (rfl : z115559.toInt = z115559.toInt) c115565
        exfalso
        omega
    | succ n ih9 =>
      intro z115558 z115559 H locs ls hn rz115559 hT hl
      have rz115558 := rg_all z115558
      have K58 : ∀ (z115568 : Int32) (H : Heap) (locs : List Loc) (ls : Array Slot), (1 ≤ z115559.toInt ∧ z115559.toInt ≤ 6) → TH G ttC A s tag L F H locs → lv_has ls 5 [(0, .ref p0), (1, .int p1), (2, .int p2), (3, .int z115568), (4, .int z115559)] → W p l e { frames := 2, cells := 0, slots := 0, locals := 46 } s m args below meth c H locs 0 0 Q (F0 m 58 ls []) := by
        intro z115568 H locs ls r9s115569 hT hl
        have rz115568 := rg_all z115568
        obtain ⟨z115570, ez115570⟩ : ∃ y : Int32, y = z115559 + 1 := ⟨_, rfl⟩
        have hz115570 : z115570.toInt = z115559.toInt + 1 := ar_add ez115570 rfl (by decide : (1 : Int32).toInt = 1) (by omega) (by omega)
        refine lv_iinc (v := z115570) (lv' := [(4, .int z115570), (0, .ref p0), (1, .int p1), (2, .int p2), (3, .int z115568)]) hx hb dX11_warmth_58 hl (k := 4) rfl (by rw [ez115570]; rfl) (by decide) rfl (fun ls hl => ?_)
        refine lv_goto (tgt := 9) hx hb dX11_warmth_61 (by decide) ?_
        exact ih9 z115568 z115570 _ _ _ (by omega) (by omega) hT  (lv_sub hl [1, 2, 3, 4, 0] rfl)
      refine lv_iload hx hb dX11_warmth_9 (lv_at hl 4 rfl) ?_
      refine lv_aload_n hx hb dX11_warmth_11 rfl (lv_at hl 0 rfl) ?_
      refine t_get (C := RX11) (T := TX11) (N := 16) X hT m0 g0 rfl rfl 5 (by decide) qw_23 inlX11 rfl dX11_warmth_12 (fun v115571 hv115571 ov115571 => ?_)
      obtain ⟨b115572, rfl, mb115572, gb115572⟩ := okV_r ov115571
      have gb115572 : tag b115572 = 19 := tg_of gb115572
      refine t_get (C := RX7) (T := TX7) (N := 7) X hT mb115572 gb115572 rfl rfl 2 (by decide) qw_766 inlX7 rfl dX11_warmth_15 (fun v115573 hv115573 ov115573 => ?_)
      obtain ⟨b115574, rfl, mb115574, gb115574⟩ := okV_r ov115573
      have gb115574 : tag b115574 = 8 := tg_of gb115574
      refine lv_iload_n hx hb dX11_warmth_18 rfl (lv_at hl 1 rfl) ?_
      refine t_ild X hT mb115574 gb115574 rfl (by omega) dX11_warmth_19 (fun z115575 vz115575 rz115575 => ?_)
      have rz115575 : 0 ≤ z115575.toInt ∧ z115575.toInt ≤ 6 := rz115575
      refine lv_icmp_gt (tgt := 64) hx hb dX11_warmth_20 (by decide) (fun c115576 => ?_) (fun c115576 => ?_)
      · have w115577 := cv_lt (rfl : z115575.toInt = z115575.toInt) (rfl : z115559.toInt = z115559.toInt) c115576
        refine lv_iload_n hx hb dX11_warmth_64 rfl (lv_at hl 3 rfl) ?_
        exact t_iret hQ X hT (⟨rfl, rg_all _⟩) (Nat.le_of_ble_eq_true rfl) (Nat.le_of_ble_eq_true rfl) dX11_warmth_65
      · have w115578 := cv_nlt (rfl : z115575.toInt = z115575.toInt) (rfl : z115559.toInt = z115559.toInt) c115576
        refine lv_aload_n hx hb dX11_warmth_23 rfl (lv_at hl 0 rfl) ?_
        refine t_get (C := RX11) (T := TX11) (N := 16) X hT m0 g0 rfl rfl 5 (by decide) qw_23 inlX11 rfl dX11_warmth_24 (fun v115579 hv115579 ov115579 => ?_)
        obtain rfl : v115579 = .ref b115572 := hv115579.symm.trans hv115571
        refine lv_iload_n hx hb dX11_warmth_27 rfl (lv_at hl 1 rfl) ?_
        refine lv_iload hx hb dX11_warmth_28 (lv_at hl 4 rfl) ?_
        refine t_cVi (n := 2) (C := RX7) (T := TX7) (N := 7) (As := [.int p1, .int z115559]) (rest := []) X hT (kt312_X7_stands l G tag L F hT.2.2.2 b115572 p1 z115559 mb115572 gb115572) mb115572 gb115572 rfl rfl qw_852 qw_853 qw_854 qw_22 qw_855 ⟨rfl, by decide +kernel, by decide +kernel, by decide +kernel⟩ ⟨Nat.le_of_ble_eq_true rfl, Nat.le_of_ble_eq_true rfl⟩ hl rfl rfl (Nat.le_of_ble_eq_true rfl) dX11_warmth_30 ⟨Nat.le_of_ble_eq_true rfl, Nat.le_of_ble_eq_true rfl⟩ (fun z115580 F9 H locs hT hz115580 => ?_)
        obtain ⟨fz115580, hz115580⟩ := hz115580
        rw [fz115580] at hT
        refine lv_if_eq (tgt := 58) hx hb dX11_warmth_33 (by decide) (fun c115581 => ?_) (fun c115581 => ?_)
        · have w115582 := cv_eq (rfl : z115580.toInt = z115580.toInt) (by decide : (0 : Int32).toInt = 0) c115581
          exact K58 z115558 _ _ _ (by omega) hT  (lv_sub hl [0, 1, 2, 3, 4] rfl)
        · have w115583 := cv_ne (rfl : z115580.toInt = z115580.toInt) (by decide : (0 : Int32).toInt = 0) c115581
          refine lv_iload_n hx hb dX11_warmth_36 rfl (lv_at hl 3 rfl) ?_
          refine lv_aload_n hx hb dX11_warmth_37 rfl (lv_at hl 0 rfl) ?_
          refine t_get (C := RX11) (T := TX11) (N := 16) X hT m0 g0 rfl rfl 3 (by decide) qw_18 inlX11 rfl dX11_warmth_38 (fun v115584 hv115584 ov115584 => ?_)
          obtain ⟨b115585, rfl, mb115585, gb115585⟩ := okV_r ov115584
          have gb115585 : tag b115585 = 18 := tg_of gb115585
          refine lv_aload_n hx hb dX11_warmth_41 rfl (lv_at hl 0 rfl) ?_
          refine t_get (C := RX11) (T := TX11) (N := 16) X hT m0 g0 rfl rfl 5 (by decide) qw_23 inlX11 rfl dX11_warmth_42 (fun v115586 hv115586 ov115586 => ?_)
          obtain rfl : v115586 = .ref b115572 := hv115586.symm.trans hv115571
          refine lv_iload_n hx hb dX11_warmth_45 rfl (lv_at hl 1 rfl) ?_
          refine lv_iload hx hb dX11_warmth_46 (lv_at hl 4 rfl) ?_
          refine lv_iconst (v := 0) hx hb dX11_warmth_48 (by decide) ?_
          refine t_cVi (n := 3) (C := RX7) (T := TX7) (N := 7) (As := [.int p1, .int z115559, .int 0]) (rest := [.ref b115585, .int z115558]) X hT (kt309_X7_partOf l G tag L F hT.2.2.2 b115572 p1 z115559 0 mb115572 gb115572) mb115572 gb115572 rfl rfl qw_831 qw_778 qw_779 qw_22 qw_780 ⟨rfl, by decide +kernel, by decide +kernel, by decide +kernel⟩ ⟨Nat.le_of_ble_eq_true rfl, Nat.le_of_ble_eq_true rfl⟩ hl rfl rfl (Nat.le_of_ble_eq_true rfl) dX11_warmth_49 ⟨Nat.le_of_ble_eq_true rfl, Nat.le_of_ble_eq_true rfl⟩ (fun z115587 F9 H locs hT hz115587 => ?_)
          obtain ⟨fz115587, hz115587⟩ := hz115587
          rw [fz115587] at hT
          refine lv_iconst (v := 2) hx hb dX11_warmth_52 (by decide) ?_
          refine t_cVi (n := 2) (C := RX1) (T := TX1) (N := 20) (As := [.int z115587, .int 2]) (rest := [.int z115558]) X hT (kt303_X1_stonePart l G tag L F hT.2.2.2 b115585 z115587 2 mb115585 gb115585) mb115585 gb115585 rfl rfl qw_857 qw_858 qw_859 qw_17 qw_860 ⟨rfl, by decide +kernel, by decide +kernel, by decide +kernel⟩ ⟨Nat.le_of_ble_eq_true rfl, Nat.le_of_ble_eq_true rfl⟩ hl rfl rfl (Nat.le_of_ble_eq_true rfl) dX11_warmth_53 ⟨Nat.le_of_ble_eq_true rfl, Nat.le_of_ble_eq_true rfl⟩ (fun z115588 F9 H locs hT hz115588 => ?_)
          obtain ⟨fz115588, hz115588⟩ := hz115588
          rw [fz115588] at hT
          refine lv_iadd hx hb dX11_warmth_56 ?_
          refine lv_topi (fun z115589 ez115589 => ?_)
          have rz115589 := rg_all z115589
          refine lv_istore_n (lv' := [(3, .int z115589), (0, .ref p0), (1, .int p1), (2, .int p2), (4, .int z115559)]) hx hb dX11_warmth_57 rfl hl (by decide) rfl (fun ls hl => ?_)
          exact K58 z115589 _ _ _ (by omega) hT  (lv_sub hl [1, 2, 3, 0, 4] rfl)
  refine lv_iconst (v := 0) hx hb dX11_warmth_0 (by decide) ?_
  refine lv_istore_n (lv' := [(3, .int 0), (0, .ref p0), (1, .int p1), (2, .int p2)]) hx hb dX11_warmth_1 rfl hl (by decide) rfl (fun ls hl => ?_)
  refine lv_iload_n hx hb dX11_warmth_2 rfl (lv_at hl 3 rfl) ?_
  refine lv_iconst (v := 1) hx hb dX11_warmth_3 (by decide) ?_
  refine t_mmax X hl qw_848 qw_849 qw_850 qw_851 (Nat.le_of_ble_eq_true rfl) (Nat.le_of_ble_eq_true rfl) (Nat.le_of_ble_eq_true rfl) (Nat.le_of_ble_eq_true rfl) dX11_warmth_4 (fun z115590 ez115590 => ?_)
  have hz115590 := mmax_e ez115590 (rfl : p2.toInt = p2.toInt) (by decide : (1 : Int32).toInt = 1)
  refine lv_istore (lv' := [(4, .int z115590), (3, .int 0), (0, .ref p0), (1, .int p1), (2, .int p2)]) hx hb dX11_warmth_7 hl (by decide) rfl (fun ls hl => ?_)
  have kk115591 : (0 : Int32).toInt = 0 := by decide
  exact K9 7 0 z115590 _ _ _ (by omega) (by omega) hT  (lv_sub hl [2, 3, 4, 1, 0] rfl)
set_option maxHeartbeats 4000000 in
set_option maxRecDepth 100000 in
theorem kt380_X11_heir (l : Launch) (G : KG) (tag : Nat → Nat) (L : List Nat) (Fo : Nat → va_E) (ho : okT G ttC tag L Fo) (p0 : Nat) (p1 : Int32) (p2 : Int32) (m0 : p0 ∈ L) (g0 : tag p0 = 26) : TMi l yX11_heir cX11_heir 3 (some .int) { frames := 3, cells := 0, slots := 0, locals := 70 } G ttC tag L Fo [.ref p0, .int p1, .int p2] (fun r F1 => ((-2147483648) ≤ r.toInt ∧ r.toInt ≤ 2147483647) ∧ ((∀ b j : Nat, (tag b ≠ 26 ∨ j ≠ 13) → fld F1 b j = fld Fo b j) ∧ EF tag F1 Fo)) := by
  refine t_bodyi (y := yX11_heir) (cd := cX11_heir) (mL := 3) (rt := (some .int)) (rm := { frames := 3, cells := 0, slots := 0, locals := 70 }) (av := [.ref p0, .int p1, .int p2]) (by decide) (Nat.le_of_ble_eq_true rfl) ho ?_
  intro p e s m args below meth c ls A Q hQ X hT hl
  have hx := X.1.1
  have hb := X.1.2.1
  have hl : lv_has ls 3 [(0, .ref p0), (1, .int p1), (2, .int p2)] := hl
  have rp1 := rg_all p1
  have rp2 := rg_all p2
  obtain ⟨F, hFo⟩ : ∃ F : Nat → va_E, F = Fo := ⟨_, rfl⟩
  rw [← hFo] at hT
  have hfr : (∀ b j : Nat, (tag b ≠ 26 ∨ j ≠ 13) → fld F b j = fld Fo b j) ∧ EF tag F Fo := by
    rw [hFo]
    exact ⟨by intros; rfl, fun _ _ _ => rfl⟩
  refine lv_aload_n hx hb dX11_heir_0 rfl (lv_at hl 0 rfl) ?_
  refine lv_iload_n hx hb dX11_heir_1 rfl (lv_at hl 1 rfl) ?_
  refine t_cVi (n := 1) (C := RX11) (T := TX11) (N := 16) (As := [.int p1]) (rest := []) X hT (kt378_X11_isHeir l G tag L F hT.2.2.2 p0 p1 m0 g0) m0 g0 rfl rfl qw_887 qw_888 qw_889 qw_2 qw_890 ⟨rfl, by decide +kernel, by decide +kernel, by decide +kernel⟩ ⟨Nat.le_of_ble_eq_true rfl, Nat.le_of_ble_eq_true rfl⟩ hl rfl rfl (Nat.le_of_ble_eq_true rfl) dX11_heir_2 ⟨Nat.le_of_ble_eq_true rfl, Nat.le_of_ble_eq_true rfl⟩ (fun z115998 F9 H locs hT hz115998 => ?_)
  obtain ⟨fz115998, hz115998⟩ := hz115998
  rw [fz115998] at hT
  obtain ⟨hz115998, iz115998⟩ := hz115998
  refine lv_if_ne (tgt := 14) hx hb dX11_heir_5 (by decide) (fun c115999 => ?_) (fun c115999 => ?_)
  · have w116000 := cv_ne (rfl : z115998.toInt = z115998.toInt) (by decide : (0 : Int32).toInt = 0) c115999
    have w116001 := (fun h => (iz115998 h)) (by omega)
    refine lv_iload_n hx hb dX11_heir_14 rfl (lv_at hl 2 rfl) ?_
    by_cases c116002 : p2 = 0
    · have w116003 := cv_eq (rfl : p2.toInt = p2.toInt) (by decide : (0 : Int32).toInt = 0) c116002
      refine lv_tableIn (off := 25) (tgt := 40) hx hb dX11_heir_15 (by rw [c116002]; decide) (by rw [c116002]; decide) (by rw [c116002]; decide) (by decide) ?_
      refine lv_aload_n hx hb dX11_heir_40 rfl (lv_at hl 0 rfl) ?_
      refine lv_aload_n hx hb dX11_heir_41 rfl (lv_at hl 0 rfl) ?_
      refine t_get (C := RX11) (T := TX11) (N := 16) X hT m0 g0 rfl rfl 3 (by decide) qw_18 inlX11 rfl dX11_heir_42 (fun v116004 hv116004 ov116004 => ?_)
      obtain ⟨b116005, rfl, mb116005, gb116005⟩ := okV_r ov116004
      have gb116005 : tag b116005 = 18 := tg_of gb116005
      refine t_get (C := RX1) (T := TX1) (N := 20) X hT mb116005 gb116005 rfl rfl 15 (by decide) qw_885 inlX1 rfl dX11_heir_45 (fun v116006 hv116006 ov116006 => ?_)
      obtain ⟨b116007, rfl, mb116007, gb116007⟩ := okV_r ov116006
      have gb116007 : tag b116007 = 6 := tg_of gb116007
      refine lv_iload_n hx hb dX11_heir_48 rfl (lv_at hl 1 rfl) ?_
      refine t_ild X hT mb116007 gb116007 rfl (by omega) dX11_heir_49 (fun z116008 vz116008 rz116008 => ?_)
      have rz116008 : 0 ≤ z116008.toInt ∧ z116008.toInt ≤ 3 := rz116008
      refine t_cVi (n := 1) (C := RX11) (T := TX11) (N := 16) (As := [.int z116008]) (rest := []) X hT (kt350_X11_answer l G tag L F hT.2.2.2 p0 z116008 m0 g0) m0 g0 rfl rfl qw_463 qw_464 qw_465 qw_2 qw_466 ⟨rfl, by decide +kernel, by decide +kernel, by decide +kernel⟩ ⟨Nat.le_of_ble_eq_true rfl, Nat.le_of_ble_eq_true rfl⟩ hl rfl rfl (Nat.le_of_ble_eq_true rfl) dX11_heir_50 ⟨Nat.le_of_ble_eq_true rfl, Nat.le_of_ble_eq_true rfl⟩ (fun z116009 F H locs hT hz116009 => ?_)
      obtain ⟨hz116009, yz116009⟩ := hz116009
      have hv116004 := (yz116009.1 _ 3 (Or.inr (by decide))).trans hv116004
      have hv116006 := (yz116009.1 _ 15 (Or.inr (by decide))).trans hv116006
      have hfr : (∀ b j : Nat, (tag b ≠ 26 ∨ j ≠ 13) → fld F b j = fld Fo b j) ∧ EF tag F Fo := ⟨fun b j n26_13 => (yz116009.1 b j n26_13).trans (hfr.1 b j n26_13), fun b j hb => (yz116009.2 b j hb).trans (hfr.2 b j hb)⟩
      exact t_iret hQ X hT (⟨rg_all _, hfr⟩) (Nat.le_of_ble_eq_true rfl) (Nat.le_of_ble_eq_true rfl) dX11_heir_53
    have w116010 := cv_ne (rfl : p2.toInt = p2.toInt) (by decide : (0 : Int32).toInt = 0) c116002
    by_cases c116011 : p2 = 1
    · have w116012 := cv_eq (rfl : p2.toInt = p2.toInt) (by decide : (1 : Int32).toInt = 1) c116011
      refine lv_tableIn (off := 39) (tgt := 54) hx hb dX11_heir_15 (by rw [c116011]; decide) (by rw [c116011]; decide) (by rw [c116011]; decide) (by decide) ?_
      refine lv_aload_n hx hb dX11_heir_54 rfl (lv_at hl 0 rfl) ?_
      refine lv_aload_n hx hb dX11_heir_55 rfl (lv_at hl 0 rfl) ?_
      refine t_get (C := RX11) (T := TX11) (N := 16) X hT m0 g0 rfl rfl 5 (by decide) qw_23 inlX11 rfl dX11_heir_56 (fun v116013 hv116013 ov116013 => ?_)
      obtain ⟨b116014, rfl, mb116014, gb116014⟩ := okV_r ov116013
      have gb116014 : tag b116014 = 19 := tg_of gb116014
      refine t_get (C := RX7) (T := TX7) (N := 7) X hT mb116014 gb116014 rfl rfl 5 (by decide) qw_886 inlX7 rfl dX11_heir_59 (fun v116015 hv116015 ov116015 => ?_)
      obtain ⟨b116016, rfl, mb116016, gb116016⟩ := okV_r ov116015
      have gb116016 : tag b116016 = 7 := tg_of gb116016
      refine lv_iload_n hx hb dX11_heir_62 rfl (lv_at hl 1 rfl) ?_
      refine t_ild X hT mb116016 gb116016 rfl (by omega) dX11_heir_63 (fun z116017 vz116017 rz116017 => ?_)
      have rz116017 : (-2147483648) ≤ z116017.toInt ∧ z116017.toInt ≤ 2147483647 := rz116017
      refine t_cVi (n := 1) (C := RX11) (T := TX11) (N := 16) (As := [.int z116017]) (rest := []) X hT (kt350_X11_answer l G tag L F hT.2.2.2 p0 z116017 m0 g0) m0 g0 rfl rfl qw_463 qw_464 qw_465 qw_2 qw_466 ⟨rfl, by decide +kernel, by decide +kernel, by decide +kernel⟩ ⟨Nat.le_of_ble_eq_true rfl, Nat.le_of_ble_eq_true rfl⟩ hl rfl rfl (Nat.le_of_ble_eq_true rfl) dX11_heir_64 ⟨Nat.le_of_ble_eq_true rfl, Nat.le_of_ble_eq_true rfl⟩ (fun z116018 F H locs hT hz116018 => ?_)
      obtain ⟨hz116018, yz116018⟩ := hz116018
      have hv116013 := (yz116018.1 _ 5 (Or.inr (by decide))).trans hv116013
      have hv116015 := (yz116018.1 _ 5 (Or.inr (by decide))).trans hv116015
      have hfr : (∀ b j : Nat, (tag b ≠ 26 ∨ j ≠ 13) → fld F b j = fld Fo b j) ∧ EF tag F Fo := ⟨fun b j n26_13 => (yz116018.1 b j n26_13).trans (hfr.1 b j n26_13), fun b j hb => (yz116018.2 b j hb).trans (hfr.2 b j hb)⟩
      exact t_iret hQ X hT (⟨rg_all _, hfr⟩) (Nat.le_of_ble_eq_true rfl) (Nat.le_of_ble_eq_true rfl) dX11_heir_67
    have w116019 := cv_ne (rfl : p2.toInt = p2.toInt) (by decide : (1 : Int32).toInt = 1) c116011
    by_cases c116020 : p2 = 2
    · have w116021 := cv_eq (rfl : p2.toInt = p2.toInt) (by decide : (2 : Int32).toInt = 2) c116020
      refine lv_tableIn (off := 53) (tgt := 68) hx hb dX11_heir_15 (by rw [c116020]; decide) (by rw [c116020]; decide) (by rw [c116020]; decide) (by decide) ?_
      refine lv_aload_n hx hb dX11_heir_68 rfl (lv_at hl 0 rfl) ?_
      refine lv_aload_n hx hb dX11_heir_69 rfl (lv_at hl 0 rfl) ?_
      refine lv_aload_n hx hb dX11_heir_70 rfl (lv_at hl 0 rfl) ?_
      refine t_get (C := RX11) (T := TX11) (N := 16) X hT m0 g0 rfl rfl 3 (by decide) qw_18 inlX11 rfl dX11_heir_71 (fun v116022 hv116022 ov116022 => ?_)
      obtain ⟨b116023, rfl, mb116023, gb116023⟩ := okV_r ov116022
      have gb116023 : tag b116023 = 18 := tg_of gb116023
      refine t_get (C := RX1) (T := TX1) (N := 20) X hT mb116023 gb116023 rfl rfl 15 (by decide) qw_885 inlX1 rfl dX11_heir_74 (fun v116024 hv116024 ov116024 => ?_)
      obtain ⟨b116025, rfl, mb116025, gb116025⟩ := okV_r ov116024
      have gb116025 : tag b116025 = 6 := tg_of gb116025
      refine lv_iload_n hx hb dX11_heir_77 rfl (lv_at hl 1 rfl) ?_
      refine t_ild X hT mb116025 gb116025 rfl (by omega) dX11_heir_78 (fun z116026 vz116026 rz116026 => ?_)
      have rz116026 : 0 ≤ z116026.toInt ∧ z116026.toInt ≤ 3 := rz116026
      refine lv_aload_n hx hb dX11_heir_79 rfl (lv_at hl 0 rfl) ?_
      refine t_get (C := RX11) (T := TX11) (N := 16) X hT m0 g0 rfl rfl 5 (by decide) qw_23 inlX11 rfl dX11_heir_80 (fun v116027 hv116027 ov116027 => ?_)
      obtain ⟨b116028, rfl, mb116028, gb116028⟩ := okV_r ov116027
      have gb116028 : tag b116028 = 19 := tg_of gb116028
      refine t_get (C := RX7) (T := TX7) (N := 7) X hT mb116028 gb116028 rfl rfl 5 (by decide) qw_886 inlX7 rfl dX11_heir_83 (fun v116029 hv116029 ov116029 => ?_)
      obtain ⟨b116030, rfl, mb116030, gb116030⟩ := okV_r ov116029
      have gb116030 : tag b116030 = 7 := tg_of gb116030
      refine lv_iload_n hx hb dX11_heir_86 rfl (lv_at hl 1 rfl) ?_
      refine t_ild X hT mb116030 gb116030 rfl (by omega) dX11_heir_87 (fun z116031 vz116031 rz116031 => ?_)
      have rz116031 : (-2147483648) ≤ z116031.toInt ∧ z116031.toInt ≤ 2147483647 := rz116031
      refine t_cVi (n := 2) (C := RX11) (T := TX11) (N := 16) (As := [.int z116026, .int z116031]) (rest := [.ref p0]) X hT (kt379_X11_warmth l G tag L F hT.2.2.2 p0 z116026 z116031 m0 g0 (by omega)) m0 g0 rfl rfl qw_844 qw_845 qw_846 qw_2 qw_847 ⟨rfl, by decide +kernel, by decide +kernel, by decide +kernel⟩ ⟨Nat.le_of_ble_eq_true rfl, Nat.le_of_ble_eq_true rfl⟩ hl rfl rfl (Nat.le_of_ble_eq_true rfl) dX11_heir_88 ⟨Nat.le_of_ble_eq_true rfl, Nat.le_of_ble_eq_true rfl⟩ (fun z116032 F9 H locs hT hz116032 => ?_)
      obtain ⟨fz116032, hz116032⟩ := hz116032
      rw [fz116032] at hT
      refine t_cVi (n := 1) (C := RX11) (T := TX11) (N := 16) (As := [.int z116032]) (rest := []) X hT (kt350_X11_answer l G tag L F hT.2.2.2 p0 z116032 m0 g0) m0 g0 rfl rfl qw_463 qw_464 qw_465 qw_2 qw_466 ⟨rfl, by decide +kernel, by decide +kernel, by decide +kernel⟩ ⟨Nat.le_of_ble_eq_true rfl, Nat.le_of_ble_eq_true rfl⟩ hl rfl rfl (Nat.le_of_ble_eq_true rfl) dX11_heir_91 ⟨Nat.le_of_ble_eq_true rfl, Nat.le_of_ble_eq_true rfl⟩ (fun z116033 F H locs hT hz116033 => ?_)
      obtain ⟨hz116033, yz116033⟩ := hz116033
      have hv116022 := (yz116033.1 _ 3 (Or.inr (by decide))).trans hv116022
      have hv116024 := (yz116033.1 _ 15 (Or.inr (by decide))).trans hv116024
      have hv116027 := (yz116033.1 _ 5 (Or.inr (by decide))).trans hv116027
      have hv116029 := (yz116033.1 _ 5 (Or.inr (by decide))).trans hv116029
      have hfr : (∀ b j : Nat, (tag b ≠ 26 ∨ j ≠ 13) → fld F b j = fld Fo b j) ∧ EF tag F Fo := ⟨fun b j n26_13 => (yz116033.1 b j n26_13).trans (hfr.1 b j n26_13), fun b j hb => (yz116033.2 b j hb).trans (hfr.2 b j hb)⟩
      exact t_iret hQ X hT (⟨rg_all _, hfr⟩) (Nat.le_of_ble_eq_true rfl) (Nat.le_of_ble_eq_true rfl) dX11_heir_94
    have w116034 := cv_ne (rfl : p2.toInt = p2.toInt) (by decide : (2 : Int32).toInt = 2) c116020
    refine lv_tableOut (tgt := 95) hx hb dX11_heir_15 (by omega) (by decide) ?_
    refine lv_aload_n hx hb dX11_heir_95 rfl (lv_at hl 0 rfl) ?_
    refine lv_iconst (v := 1) hx hb dX11_heir_96 (by decide) ?_
    refine t_cVi (n := 1) (C := RX11) (T := TX11) (N := 16) (As := [.int 1]) (rest := []) X hT (kt357_X11_refuse l G tag L F hT.2.2.2 p0 1 m0 g0) m0 g0 rfl rfl qw_152 qw_153 qw_154 qw_2 qw_155 ⟨rfl, by decide +kernel, by decide +kernel, by decide +kernel⟩ ⟨Nat.le_of_ble_eq_true rfl, Nat.le_of_ble_eq_true rfl⟩ hl rfl rfl (Nat.le_of_ble_eq_true rfl) dX11_heir_97 ⟨Nat.le_of_ble_eq_true rfl, Nat.le_of_ble_eq_true rfl⟩ (fun z116035 F H locs hT hz116035 => ?_)
    obtain ⟨hz116035, yz116035⟩ := hz116035
    have hfr : (∀ b j : Nat, (tag b ≠ 26 ∨ j ≠ 13) → fld F b j = fld Fo b j) ∧ EF tag F Fo := ⟨fun b j n26_13 => (yz116035.1 b j n26_13).trans (hfr.1 b j n26_13), fun b j hb => (yz116035.2 b j hb).trans (hfr.2 b j hb)⟩
    exact t_iret hQ X hT (⟨rg_all _, hfr⟩) (Nat.le_of_ble_eq_true rfl) (Nat.le_of_ble_eq_true rfl) dX11_heir_100
  · have w116036 := cv_eq (rfl : z115998.toInt = z115998.toInt) (by decide : (0 : Int32).toInt = 0) c115999
    refine lv_aload_n hx hb dX11_heir_8 rfl (lv_at hl 0 rfl) ?_
    refine lv_iconst (v := 1) hx hb dX11_heir_9 (by decide) ?_
    refine t_cVi (n := 1) (C := RX11) (T := TX11) (N := 16) (As := [.int 1]) (rest := []) X hT (kt357_X11_refuse l G tag L F hT.2.2.2 p0 1 m0 g0) m0 g0 rfl rfl qw_152 qw_153 qw_154 qw_2 qw_155 ⟨rfl, by decide +kernel, by decide +kernel, by decide +kernel⟩ ⟨Nat.le_of_ble_eq_true rfl, Nat.le_of_ble_eq_true rfl⟩ hl rfl rfl (Nat.le_of_ble_eq_true rfl) dX11_heir_10 ⟨Nat.le_of_ble_eq_true rfl, Nat.le_of_ble_eq_true rfl⟩ (fun z116037 F H locs hT hz116037 => ?_)
    obtain ⟨hz116037, yz116037⟩ := hz116037
    have hfr : (∀ b j : Nat, (tag b ≠ 26 ∨ j ≠ 13) → fld F b j = fld Fo b j) ∧ EF tag F Fo := ⟨fun b j n26_13 => (yz116037.1 b j n26_13).trans (hfr.1 b j n26_13), fun b j hb => (yz116037.2 b j hb).trans (hfr.2 b j hb)⟩
    exact t_iret hQ X hT (⟨rg_all _, hfr⟩) (Nat.le_of_ble_eq_true rfl) (Nat.le_of_ble_eq_true rfl) dX11_heir_13
set_option maxHeartbeats 4000000 in
set_option maxRecDepth 100000 in
theorem kt381_X6_isShut (l : Launch) (G : KG) (tag : Nat → Nat) (L : List Nat) (F : Nat → va_E) (ho : okT G ttC tag L F) (p0 : Nat) (p1 : Nat) (p2 : Int32) (m0 : p0 ∈ L) (g0 : tag p0 = 18) (m1 : p1 ∈ L) (g1 : tag p1 = 19) (h2 : 0 ≤ p2.toInt ∧ p2.toInt ≤ 3) : TMi l yX6_isShut cX6_isShut 5 (some .boolean) { frames := 3, cells := 0, slots := 0, locals := 77 } G ttC tag L F [.ref p0, .ref p1, .int p2] (fun r F1 => F1 = F ∧ (0 ≤ r.toInt ∧ r.toInt ≤ 1)) := by
  refine t_bodyi (y := yX6_isShut) (cd := cX6_isShut) (mL := 5) (rt := (some .boolean)) (rm := { frames := 3, cells := 0, slots := 0, locals := 77 }) (av := [.ref p0, .ref p1, .int p2]) (by decide) (Nat.le_of_ble_eq_true rfl) ho ?_
  intro p e s m args below meth c ls A Q hQ X hT hl
  have hx := X.1.1
  have hb := X.1.2.1
  have hl : lv_has ls 5 [(0, .ref p0), (1, .ref p1), (2, .int p2)] := hl
  refine lv_aload_n hx hb dX6_isShut_0 rfl (lv_at hl 1 rfl) ?_
  refine t_get (C := RX7) (T := TX7) (N := 7) X hT m1 g1 rfl rfl 2 (by decide) qw_383 inlX7 rfl dX6_isShut_1 (fun v116300 hv116300 ov116300 => ?_)
  obtain ⟨b116301, rfl, mb116301, gb116301⟩ := okV_r ov116300
  have gb116301 : tag b116301 = 8 := tg_of gb116301
  refine lv_iload_n hx hb dX6_isShut_4 rfl (lv_at hl 2 rfl) ?_
  refine t_ild X hT mb116301 gb116301 rfl (by omega) dX6_isShut_5 (fun z116302 vz116302 rz116302 => ?_)
  have rz116302 : 0 ≤ z116302.toInt ∧ z116302.toInt ≤ 6 := rz116302
  refine lv_istore_n (lv' := [(3, .int z116302), (0, .ref p0), (1, .ref p1), (2, .int p2)]) hx hb dX6_isShut_6 rfl hl (by decide) rfl (fun ls hl => ?_)
  refine lv_iload_n hx hb dX6_isShut_7 rfl (lv_at hl 0 rfl) ?_
  refine lv_if_ne (tgt := 13) hx hb dX6_isShut_8 (by decide) (fun c116303 => ?_) (fun c116303 => ?_)
  · have w116304 := cv_ne (rfl : z116302.toInt = z116302.toInt) (by decide : (0 : Int32).toInt = 0) c116303
    refine lv_aload_n hx hb dX6_isShut_13 rfl (lv_at hl 2 rfl) ?_
    refine lv_iload_n hx hb dX6_isShut_14 rfl (lv_at hl 3 rfl) ?_
    refine lv_iload_n hx hb dX6_isShut_15 rfl (lv_at hl 0 rfl) ?_
    refine lv_iconst (v := 1) hx hb dX6_isShut_16 (by decide) ?_
    refine t_cVi (n := 3) (C := RX7) (T := TX7) (N := 7) (As := [.int p2, .int z116302, .int 1]) (rest := []) X hT (kt309_X7_partOf l G tag L F hT.2.2.2 p1 p2 z116302 1 m1 g1) m1 g1 rfl rfl qw_777 qw_778 qw_779 qw_22 qw_780 ⟨rfl, by decide +kernel, by decide +kernel, by decide +kernel⟩ ⟨Nat.le_of_ble_eq_true rfl, Nat.le_of_ble_eq_true rfl⟩ hl rfl rfl (Nat.le_of_ble_eq_true rfl) dX6_isShut_17 ⟨Nat.le_of_ble_eq_true rfl, Nat.le_of_ble_eq_true rfl⟩ (fun z116305 F9 H locs hT hz116305 => ?_)
    obtain ⟨fz116305, hz116305⟩ := hz116305
    rw [fz116305] at hT
    refine lv_istore (lv' := [(4, .int z116305), (3, .int z116302), (0, .ref p0), (1, .ref p1), (2, .int p2)]) hx hb dX6_isShut_20 hl (by decide) rfl (fun ls hl => ?_)
    refine lv_iload hx hb dX6_isShut_22 (lv_at hl 0 rfl) ?_
    refine lv_if_lt (tgt := 33) hx hb dX6_isShut_24 (by decide) (fun c116306 => ?_) (fun c116306 => ?_)
    · have w116307 := cv_lt (rfl : z116305.toInt = z116305.toInt) (by decide : (0 : Int32).toInt = 0) c116306
      refine lv_iconst (v := 0) hx hb dX6_isShut_33 (by decide) ?_
      exact t_zret hQ X hT (by decide) (⟨rfl, (by decide)⟩) (Nat.le_of_ble_eq_true rfl) (Nat.le_of_ble_eq_true rfl) dX6_isShut_34
    · have w116308 := cv_nlt (rfl : z116305.toInt = z116305.toInt) (by decide : (0 : Int32).toInt = 0) c116306
      refine lv_iload hx hb dX6_isShut_27 (lv_at hl 0 rfl) ?_
      refine lv_iconst (v := 4) hx hb dX6_isShut_29 (by decide) ?_
      refine lv_icmp_lt (tgt := 35) hx hb dX6_isShut_30 (by decide) (fun c116309 => ?_) (fun c116309 => ?_)
      · have w116310 := cv_lt (rfl : z116305.toInt = z116305.toInt) (by decide : (4 : Int32).toInt = 4) c116309
        refine lv_aload_n hx hb dX6_isShut_35 rfl (lv_at hl 2 rfl) ?_
        refine lv_aload_n hx hb dX6_isShut_36 rfl (lv_at hl 3 rfl) ?_
        refine lv_iload_n hx hb dX6_isShut_37 rfl (lv_at hl 4 rfl) ?_
        refine lv_iload_n hx hb dX6_isShut_38 rfl (lv_at hl 1 rfl) ?_
        refine lv_iload hx hb dX6_isShut_39 (lv_at hl 0 rfl) ?_
        refine lv_aload_n hx hb dX6_isShut_41 rfl (lv_at hl 3 rfl) ?_
        refine lv_iload_n hx hb dX6_isShut_42 rfl (lv_at hl 4 rfl) ?_
        refine lv_iload_n hx hb dX6_isShut_43 rfl (lv_at hl 1 rfl) ?_
        refine lv_iconst (v := 2) hx hb dX6_isShut_44 (by decide) ?_
        refine t_cVi (n := 3) (C := RX7) (T := TX7) (N := 7) (As := [.int p2, .int z116302, .int 2]) (rest := [.int z116305, .int z116302, .int p2, .ref p1, .ref p0]) X hT (kt309_X7_partOf l G tag L F hT.2.2.2 p1 p2 z116302 2 m1 g1) m1 g1 rfl rfl qw_777 qw_778 qw_779 qw_22 qw_780 ⟨rfl, by decide +kernel, by decide +kernel, by decide +kernel⟩ ⟨Nat.le_of_ble_eq_true rfl, Nat.le_of_ble_eq_true rfl⟩ hl rfl rfl (Nat.le_of_ble_eq_true rfl) dX6_isShut_45 ⟨Nat.le_of_ble_eq_true rfl, Nat.le_of_ble_eq_true rfl⟩ (fun z116311 F9 H locs hT hz116311 => ?_)
        obtain ⟨fz116311, hz116311⟩ := hz116311
        rw [fz116311] at hT
        refine t_cSi (n := 6) (As := [.ref p0, .ref p1, .int p2, .int z116302, .int z116305, .int z116311]) (rest := []) X hT (kt337_X6_isFrontFree l G tag L F hT.2.2.2 p0 p1 p2 z116302 z116305 z116311 m0 g0 m1 g1 (by omega) (by omega)) qw_781 qw_782 qw_380 qw_783 ⟨by decide +kernel, by decide +kernel, by decide +kernel⟩ ⟨Nat.le_of_ble_eq_true rfl, Nat.le_of_ble_eq_true rfl⟩ hl rfl rfl (Nat.le_of_ble_eq_true rfl) dX6_isShut_48 ⟨Nat.le_of_ble_eq_true rfl, Nat.le_of_ble_eq_true rfl⟩ (fun z116312 F9 H locs hT hz116312 => ?_)
        obtain ⟨fz116312, hz116312⟩ := hz116312
        rw [fz116312] at hT
        refine lv_if_ne (tgt := 58) hx hb dX6_isShut_51 (by decide) (fun c116313 => ?_) (fun c116313 => ?_)
        · have w116314 := cv_ne (rfl : z116312.toInt = z116312.toInt) (by decide : (0 : Int32).toInt = 0) c116313
          refine lv_iconst (v := 0) hx hb dX6_isShut_58 (by decide) ?_
          exact t_zret hQ X hT (by decide) (⟨rfl, (by decide)⟩) (Nat.le_of_ble_eq_true rfl) (Nat.le_of_ble_eq_true rfl) dX6_isShut_59
        · have w116315 := cv_eq (rfl : z116312.toInt = z116312.toInt) (by decide : (0 : Int32).toInt = 0) c116313
          refine lv_iconst (v := 1) hx hb dX6_isShut_54 (by decide) ?_
          refine lv_goto (tgt := 59) hx hb dX6_isShut_55 (by decide) ?_
          exact t_zret hQ X hT (by decide) (⟨rfl, (by decide)⟩) (Nat.le_of_ble_eq_true rfl) (Nat.le_of_ble_eq_true rfl) dX6_isShut_59
      · have w116316 := cv_nlt (rfl : z116305.toInt = z116305.toInt) (by decide : (4 : Int32).toInt = 4) c116309
        refine lv_iconst (v := 0) hx hb dX6_isShut_33 (by decide) ?_
        exact t_zret hQ X hT (by decide) (⟨rfl, (by decide)⟩) (Nat.le_of_ble_eq_true rfl) (Nat.le_of_ble_eq_true rfl) dX6_isShut_34
  · have w116317 := cv_eq (rfl : z116302.toInt = z116302.toInt) (by decide : (0 : Int32).toInt = 0) c116303
    refine lv_iconst (v := 0) hx hb dX6_isShut_11 (by decide) ?_
    exact t_zret hQ X hT (by decide) (⟨rfl, (by decide)⟩) (Nat.le_of_ble_eq_true rfl) (Nat.le_of_ble_eq_true rfl) dX6_isShut_12
set_option maxHeartbeats 4000000 in
set_option maxRecDepth 100000 in
theorem kt382_X11_house (l : Launch) (G : KG) (tag : Nat → Nat) (L : List Nat) (Fo : Nat → va_E) (ho : okT G ttC tag L Fo) (p0 : Nat) (p1 : Int32) (p2 : Int32) (m0 : p0 ∈ L) (g0 : tag p0 = 26) : TMi l yX11_house cX11_house 3 (some .int) { frames := 4, cells := 0, slots := 0, locals := 101 } G ttC tag L Fo [.ref p0, .int p1, .int p2] (fun r F1 => ((-2147483648) ≤ r.toInt ∧ r.toInt ≤ 2147483647) ∧ ((∀ b j : Nat, (tag b ≠ 26 ∨ j ≠ 13) → fld F1 b j = fld Fo b j) ∧ EF tag F1 Fo)) := by
  refine t_bodyi (y := yX11_house) (cd := cX11_house) (mL := 3) (rt := (some .int)) (rm := { frames := 4, cells := 0, slots := 0, locals := 101 }) (av := [.ref p0, .int p1, .int p2]) (by decide) (Nat.le_of_ble_eq_true rfl) ho ?_
  intro p e s m args below meth c ls A Q hQ X hT hl
  have hx := X.1.1
  have hb := X.1.2.1
  have hl : lv_has ls 3 [(0, .ref p0), (1, .int p1), (2, .int p2)] := hl
  have rp1 := rg_all p1
  have rp2 := rg_all p2
  obtain ⟨F, hFo⟩ : ∃ F : Nat → va_E, F = Fo := ⟨_, rfl⟩
  rw [← hFo] at hT
  have hfr : (∀ b j : Nat, (tag b ≠ 26 ∨ j ≠ 13) → fld F b j = fld Fo b j) ∧ EF tag F Fo := by
    rw [hFo]
    exact ⟨by intros; rfl, fun _ _ _ => rfl⟩
  have K165 : ∀ (z117213 : Int32) (b117214 : Nat) (F : Nat → va_E) (H : Heap) (locs : List Loc) (ls : Array Slot), (0 ≤ z117213.toInt ∧ z117213.toInt ≤ 1) → (b117214 ∈ L) → (tag b117214 = 26) → (0 ≤ p1.toInt ∧ p1.toInt ≤ 3) → (5 ≤ p2.toInt ∧ p2.toInt ≤ 5) → TH G ttC A s tag L F H locs → ((∀ b j : Nat, (tag b ≠ 26 ∨ j ≠ 13) → fld F b j = fld Fo b j) ∧ EF tag F Fo) → lv_has ls 3 [(0, .ref p0), (1, .int p1), (2, .int p2)] → W p l e { frames := 4, cells := 0, slots := 0, locals := 101 } s m args below meth c H locs 0 0 Q (F0 m 165 ls [.int z117213, .ref b117214]) := by
    intro z117213 b117214 F H locs ls rz117213 mb117214 gb117214 r9s117211 r9s117212 hT hfr hl
    refine t_cVi (n := 1) (C := RX11) (T := TX11) (N := 16) (As := [.int z117213]) (rest := []) X hT (kt350_X11_answer l G tag L F hT.2.2.2 b117214 z117213 mb117214 gb117214) mb117214 gb117214 rfl rfl qw_463 qw_464 qw_465 qw_2 qw_466 ⟨rfl, by decide +kernel, by decide +kernel, by decide +kernel⟩ ⟨Nat.le_of_ble_eq_true rfl, Nat.le_of_ble_eq_true rfl⟩ hl rfl rfl (Nat.le_of_ble_eq_true rfl) dX11_house_165 ⟨Nat.le_of_ble_eq_true rfl, Nat.le_of_ble_eq_true rfl⟩ (fun z117215 F H locs hT hz117215 => ?_)
    obtain ⟨hz117215, yz117215⟩ := hz117215
    have hfr : (∀ b j : Nat, (tag b ≠ 26 ∨ j ≠ 13) → fld F b j = fld Fo b j) ∧ EF tag F Fo := ⟨fun b j n26_13 => (yz117215.1 b j n26_13).trans (hfr.1 b j n26_13), fun b j hb => (yz117215.2 b j hb).trans (hfr.2 b j hb)⟩
    exact t_iret hQ X hT (⟨rg_all _, hfr⟩) (Nat.le_of_ble_eq_true rfl) (Nat.le_of_ble_eq_true rfl) dX11_house_168
  have K186 : ∀ (z117218 : Int32) (b117219 : Nat) (F : Nat → va_E) (H : Heap) (locs : List Loc) (ls : Array Slot), (0 ≤ z117218.toInt ∧ z117218.toInt ≤ 1) → (b117219 ∈ L) → (tag b117219 = 26) → (0 ≤ p1.toInt ∧ p1.toInt ≤ 3) → (6 ≤ p2.toInt ∧ p2.toInt ≤ 6) → TH G ttC A s tag L F H locs → ((∀ b j : Nat, (tag b ≠ 26 ∨ j ≠ 13) → fld F b j = fld Fo b j) ∧ EF tag F Fo) → lv_has ls 3 [(0, .ref p0), (1, .int p1), (2, .int p2)] → W p l e { frames := 4, cells := 0, slots := 0, locals := 101 } s m args below meth c H locs 0 0 Q (F0 m 186 ls [.int z117218, .ref b117219]) := by
    intro z117218 b117219 F H locs ls rz117218 mb117219 gb117219 r9s117216 r9s117217 hT hfr hl
    refine t_cVi (n := 1) (C := RX11) (T := TX11) (N := 16) (As := [.int z117218]) (rest := []) X hT (kt350_X11_answer l G tag L F hT.2.2.2 b117219 z117218 mb117219 gb117219) mb117219 gb117219 rfl rfl qw_463 qw_464 qw_465 qw_2 qw_466 ⟨rfl, by decide +kernel, by decide +kernel, by decide +kernel⟩ ⟨Nat.le_of_ble_eq_true rfl, Nat.le_of_ble_eq_true rfl⟩ hl rfl rfl (Nat.le_of_ble_eq_true rfl) dX11_house_186 ⟨Nat.le_of_ble_eq_true rfl, Nat.le_of_ble_eq_true rfl⟩ (fun z117220 F H locs hT hz117220 => ?_)
    obtain ⟨hz117220, yz117220⟩ := hz117220
    have hfr : (∀ b j : Nat, (tag b ≠ 26 ∨ j ≠ 13) → fld F b j = fld Fo b j) ∧ EF tag F Fo := ⟨fun b j n26_13 => (yz117220.1 b j n26_13).trans (hfr.1 b j n26_13), fun b j hb => (yz117220.2 b j hb).trans (hfr.2 b j hb)⟩
    exact t_iret hQ X hT (⟨rg_all _, hfr⟩) (Nat.le_of_ble_eq_true rfl) (Nat.le_of_ble_eq_true rfl) dX11_house_189
  refine lv_aload_n hx hb dX11_house_0 rfl (lv_at hl 0 rfl) ?_
  refine lv_iload_n hx hb dX11_house_1 rfl (lv_at hl 1 rfl) ?_
  refine t_cVi (n := 1) (C := RX11) (T := TX11) (N := 16) (As := [.int p1]) (rest := []) X hT (kt355_X11_isHouse l G tag L F hT.2.2.2 p0 p1 m0 g0) m0 g0 rfl rfl qw_770 qw_771 qw_772 qw_2 qw_773 ⟨rfl, by decide +kernel, by decide +kernel, by decide +kernel⟩ ⟨Nat.le_of_ble_eq_true rfl, Nat.le_of_ble_eq_true rfl⟩ hl rfl rfl (Nat.le_of_ble_eq_true rfl) dX11_house_2 ⟨Nat.le_of_ble_eq_true rfl, Nat.le_of_ble_eq_true rfl⟩ (fun z117221 F9 H locs hT hz117221 => ?_)
  obtain ⟨fz117221, hz117221⟩ := hz117221
  rw [fz117221] at hT
  obtain ⟨hz117221, iz117221⟩ := hz117221
  refine lv_if_ne (tgt := 14) hx hb dX11_house_5 (by decide) (fun c117222 => ?_) (fun c117222 => ?_)
  · have w117223 := cv_ne (rfl : z117221.toInt = z117221.toInt) (by decide : (0 : Int32).toInt = 0) c117222
    have w117224 := (fun h => (iz117221 h)) (by omega)
    refine lv_iload_n hx hb dX11_house_14 rfl (lv_at hl 2 rfl) ?_
    by_cases c117225 : p2 = 0
    · have w117226 := cv_eq (rfl : p2.toInt = p2.toInt) (by decide : (0 : Int32).toInt = 0) c117225
      refine lv_tableIn (off := 41) (tgt := 56) hx hb dX11_house_15 (by rw [c117225]; decide) (by rw [c117225]; decide) (by rw [c117225]; decide) (by decide) ?_
      refine lv_aload_n hx hb dX11_house_56 rfl (lv_at hl 0 rfl) ?_
      refine lv_aload_n hx hb dX11_house_57 rfl (lv_at hl 0 rfl) ?_
      refine t_get (C := RX11) (T := TX11) (N := 16) X hT m0 g0 rfl rfl 3 (by decide) qw_18 inlX11 rfl dX11_house_58 (fun v117227 hv117227 ov117227 => ?_)
      obtain ⟨b117228, rfl, mb117228, gb117228⟩ := okV_r ov117227
      have gb117228 : tag b117228 = 18 := tg_of gb117228
      refine t_get (C := RX1) (T := TX1) (N := 20) X hT mb117228 gb117228 rfl rfl 12 (by decide) qw_764 inlX1 rfl dX11_house_61 (fun v117229 hv117229 ov117229 => ?_)
      obtain ⟨b117230, rfl, mb117230, gb117230⟩ := okV_r ov117229
      have gb117230 : tag b117230 = 4 := tg_of gb117230
      refine lv_iload_n hx hb dX11_house_64 rfl (lv_at hl 1 rfl) ?_
      refine t_ild X hT mb117230 gb117230 rfl (by omega) dX11_house_65 (fun z117231 vz117231 rz117231 => ?_)
      have rz117231 : 0 ≤ z117231.toInt ∧ z117231.toInt ≤ 11 := rz117231
      refine lv_aload_n hx hb dX11_house_66 rfl (lv_at hl 0 rfl) ?_
      refine t_get (C := RX11) (T := TX11) (N := 16) X hT m0 g0 rfl rfl 3 (by decide) qw_18 inlX11 rfl dX11_house_67 (fun v117232 hv117232 ov117232 => ?_)
      obtain rfl : v117232 = .ref b117228 := hv117232.symm.trans hv117227
      refine t_get (C := RX1) (T := TX1) (N := 20) X hT mb117228 gb117228 rfl rfl 0 (by decide) qw_728 inlX1 rfl dX11_house_70 (fun v117233 hv117233 ov117233 => ?_)
      obtain ⟨z117234, rfl, rz117234⟩ := okV_i ov117233
      refine lv_imul hx hb dX11_house_73 ?_
      refine lv_topi (fun z117235 ez117235 => ?_)
      have rz117235 : 0 ≤ z117235.toInt ∧ z117235.toInt ≤ 132 := ar_mulb ez117235 (A := 11) (B := 12) (by omega) (by omega) (by decide) (by decide)
      refine lv_aload_n hx hb dX11_house_74 rfl (lv_at hl 0 rfl) ?_
      refine t_get (C := RX11) (T := TX11) (N := 16) X hT m0 g0 rfl rfl 3 (by decide) qw_18 inlX11 rfl dX11_house_75 (fun v117236 hv117236 ov117236 => ?_)
      obtain rfl : v117236 = .ref b117228 := hv117236.symm.trans hv117227
      refine t_get (C := RX1) (T := TX1) (N := 20) X hT mb117228 gb117228 rfl rfl 11 (by decide) qw_765 inlX1 rfl dX11_house_78 (fun v117237 hv117237 ov117237 => ?_)
      obtain ⟨b117238, rfl, mb117238, gb117238⟩ := okV_r ov117237
      have gb117238 : tag b117238 = 4 := tg_of gb117238
      refine lv_iload_n hx hb dX11_house_81 rfl (lv_at hl 1 rfl) ?_
      refine t_ild X hT mb117238 gb117238 rfl (by omega) dX11_house_82 (fun z117239 vz117239 rz117239 => ?_)
      have rz117239 : 0 ≤ z117239.toInt ∧ z117239.toInt ≤ 11 := rz117239
      refine lv_iadd hx hb dX11_house_83 ?_
      refine lv_topi (fun z117240 ez117240 => ?_)
      have hz117240 : z117240.toInt = z117235.toInt + z117239.toInt := ar_add ez117240 (rfl : z117235.toInt = z117235.toInt) (rfl : z117239.toInt = z117239.toInt) (by omega) (by omega)
      have rz117240 : 0 ≤ z117240.toInt ∧ z117240.toInt ≤ 143 := by omega
      refine t_cVi (n := 1) (C := RX11) (T := TX11) (N := 16) (As := [.int z117240]) (rest := []) X hT (kt350_X11_answer l G tag L F hT.2.2.2 p0 z117240 m0 g0) m0 g0 rfl rfl qw_463 qw_464 qw_465 qw_2 qw_466 ⟨rfl, by decide +kernel, by decide +kernel, by decide +kernel⟩ ⟨Nat.le_of_ble_eq_true rfl, Nat.le_of_ble_eq_true rfl⟩ hl rfl rfl (Nat.le_of_ble_eq_true rfl) dX11_house_84 ⟨Nat.le_of_ble_eq_true rfl, Nat.le_of_ble_eq_true rfl⟩ (fun z117241 F H locs hT hz117241 => ?_)
      obtain ⟨hz117241, yz117241⟩ := hz117241
      have hv117227 := (yz117241.1 _ 3 (Or.inr (by decide))).trans hv117227
      have hv117229 := (yz117241.1 _ 12 (Or.inr (by decide))).trans hv117229
      have hv117233 := (yz117241.1 _ 0 (Or.inr (by decide))).trans hv117233
      have hv117237 := (yz117241.1 _ 11 (Or.inr (by decide))).trans hv117237
      have hfr : (∀ b j : Nat, (tag b ≠ 26 ∨ j ≠ 13) → fld F b j = fld Fo b j) ∧ EF tag F Fo := ⟨fun b j n26_13 => (yz117241.1 b j n26_13).trans (hfr.1 b j n26_13), fun b j hb => (yz117241.2 b j hb).trans (hfr.2 b j hb)⟩
      exact t_iret hQ X hT (⟨rg_all _, hfr⟩) (Nat.le_of_ble_eq_true rfl) (Nat.le_of_ble_eq_true rfl) dX11_house_87
    have w117242 := cv_ne (rfl : p2.toInt = p2.toInt) (by decide : (0 : Int32).toInt = 0) c117225
    by_cases c117243 : p2 = 1
    · have w117244 := cv_eq (rfl : p2.toInt = p2.toInt) (by decide : (1 : Int32).toInt = 1) c117243
      refine lv_tableIn (off := 73) (tgt := 88) hx hb dX11_house_15 (by rw [c117243]; decide) (by rw [c117243]; decide) (by rw [c117243]; decide) (by decide) ?_
      refine lv_aload_n hx hb dX11_house_88 rfl (lv_at hl 0 rfl) ?_
      refine lv_aload_n hx hb dX11_house_89 rfl (lv_at hl 0 rfl) ?_
      refine t_get (C := RX11) (T := TX11) (N := 16) X hT m0 g0 rfl rfl 5 (by decide) qw_23 inlX11 rfl dX11_house_90 (fun v117245 hv117245 ov117245 => ?_)
      obtain ⟨b117246, rfl, mb117246, gb117246⟩ := okV_r ov117245
      have gb117246 : tag b117246 = 19 := tg_of gb117246
      refine t_get (C := RX7) (T := TX7) (N := 7) X hT mb117246 gb117246 rfl rfl 2 (by decide) qw_766 inlX7 rfl dX11_house_93 (fun v117247 hv117247 ov117247 => ?_)
      obtain ⟨b117248, rfl, mb117248, gb117248⟩ := okV_r ov117247
      have gb117248 : tag b117248 = 8 := tg_of gb117248
      refine lv_iload_n hx hb dX11_house_96 rfl (lv_at hl 1 rfl) ?_
      refine t_ild X hT mb117248 gb117248 rfl (by omega) dX11_house_97 (fun z117249 vz117249 rz117249 => ?_)
      have rz117249 : 0 ≤ z117249.toInt ∧ z117249.toInt ≤ 6 := rz117249
      refine t_cVi (n := 1) (C := RX11) (T := TX11) (N := 16) (As := [.int z117249]) (rest := []) X hT (kt350_X11_answer l G tag L F hT.2.2.2 p0 z117249 m0 g0) m0 g0 rfl rfl qw_463 qw_464 qw_465 qw_2 qw_466 ⟨rfl, by decide +kernel, by decide +kernel, by decide +kernel⟩ ⟨Nat.le_of_ble_eq_true rfl, Nat.le_of_ble_eq_true rfl⟩ hl rfl rfl (Nat.le_of_ble_eq_true rfl) dX11_house_98 ⟨Nat.le_of_ble_eq_true rfl, Nat.le_of_ble_eq_true rfl⟩ (fun z117250 F H locs hT hz117250 => ?_)
      obtain ⟨hz117250, yz117250⟩ := hz117250
      have hv117245 := (yz117250.1 _ 5 (Or.inr (by decide))).trans hv117245
      have hv117247 := (yz117250.1 _ 2 (Or.inr (by decide))).trans hv117247
      have hfr : (∀ b j : Nat, (tag b ≠ 26 ∨ j ≠ 13) → fld F b j = fld Fo b j) ∧ EF tag F Fo := ⟨fun b j n26_13 => (yz117250.1 b j n26_13).trans (hfr.1 b j n26_13), fun b j hb => (yz117250.2 b j hb).trans (hfr.2 b j hb)⟩
      exact t_iret hQ X hT (⟨rg_all _, hfr⟩) (Nat.le_of_ble_eq_true rfl) (Nat.le_of_ble_eq_true rfl) dX11_house_101
    have w117251 := cv_ne (rfl : p2.toInt = p2.toInt) (by decide : (1 : Int32).toInt = 1) c117243
    by_cases c117252 : p2 = 2
    · have w117253 := cv_eq (rfl : p2.toInt = p2.toInt) (by decide : (2 : Int32).toInt = 2) c117252
      refine lv_tableIn (off := 87) (tgt := 102) hx hb dX11_house_15 (by rw [c117252]; decide) (by rw [c117252]; decide) (by rw [c117252]; decide) (by decide) ?_
      refine lv_aload_n hx hb dX11_house_102 rfl (lv_at hl 0 rfl) ?_
      refine lv_aload_n hx hb dX11_house_103 rfl (lv_at hl 0 rfl) ?_
      refine t_get (C := RX11) (T := TX11) (N := 16) X hT m0 g0 rfl rfl 5 (by decide) qw_23 inlX11 rfl dX11_house_104 (fun v117254 hv117254 ov117254 => ?_)
      obtain ⟨b117255, rfl, mb117255, gb117255⟩ := okV_r ov117254
      have gb117255 : tag b117255 = 19 := tg_of gb117255
      refine t_get (C := RX7) (T := TX7) (N := 7) X hT mb117255 gb117255 rfl rfl 3 (by decide) qw_767 inlX7 rfl dX11_house_107 (fun v117256 hv117256 ov117256 => ?_)
      obtain ⟨b117257, rfl, mb117257, gb117257⟩ := okV_r ov117256
      have gb117257 : tag b117257 = 5 := tg_of gb117257
      refine lv_iload_n hx hb dX11_house_110 rfl (lv_at hl 1 rfl) ?_
      refine t_ild X hT mb117257 gb117257 rfl (by omega) dX11_house_111 (fun z117258 vz117258 rz117258 => ?_)
      have rz117258 : (-2147483648) ≤ z117258.toInt ∧ z117258.toInt ≤ 2147483647 := rz117258
      refine t_cVi (n := 1) (C := RX11) (T := TX11) (N := 16) (As := [.int z117258]) (rest := []) X hT (kt350_X11_answer l G tag L F hT.2.2.2 p0 z117258 m0 g0) m0 g0 rfl rfl qw_463 qw_464 qw_465 qw_2 qw_466 ⟨rfl, by decide +kernel, by decide +kernel, by decide +kernel⟩ ⟨Nat.le_of_ble_eq_true rfl, Nat.le_of_ble_eq_true rfl⟩ hl rfl rfl (Nat.le_of_ble_eq_true rfl) dX11_house_112 ⟨Nat.le_of_ble_eq_true rfl, Nat.le_of_ble_eq_true rfl⟩ (fun z117259 F H locs hT hz117259 => ?_)
      obtain ⟨hz117259, yz117259⟩ := hz117259
      have hv117254 := (yz117259.1 _ 5 (Or.inr (by decide))).trans hv117254
      have hv117256 := (yz117259.1 _ 3 (Or.inr (by decide))).trans hv117256
      have hfr : (∀ b j : Nat, (tag b ≠ 26 ∨ j ≠ 13) → fld F b j = fld Fo b j) ∧ EF tag F Fo := ⟨fun b j n26_13 => (yz117259.1 b j n26_13).trans (hfr.1 b j n26_13), fun b j hb => (yz117259.2 b j hb).trans (hfr.2 b j hb)⟩
      exact t_iret hQ X hT (⟨rg_all _, hfr⟩) (Nat.le_of_ble_eq_true rfl) (Nat.le_of_ble_eq_true rfl) dX11_house_115
    have w117260 := cv_ne (rfl : p2.toInt = p2.toInt) (by decide : (2 : Int32).toInt = 2) c117252
    by_cases c117261 : p2 = 3
    · have w117262 := cv_eq (rfl : p2.toInt = p2.toInt) (by decide : (3 : Int32).toInt = 3) c117261
      refine lv_tableIn (off := 101) (tgt := 116) hx hb dX11_house_15 (by rw [c117261]; decide) (by rw [c117261]; decide) (by rw [c117261]; decide) (by decide) ?_
      refine lv_aload_n hx hb dX11_house_116 rfl (lv_at hl 0 rfl) ?_
      refine lv_aload_n hx hb dX11_house_117 rfl (lv_at hl 0 rfl) ?_
      refine t_get (C := RX11) (T := TX11) (N := 16) X hT m0 g0 rfl rfl 5 (by decide) qw_23 inlX11 rfl dX11_house_118 (fun v117263 hv117263 ov117263 => ?_)
      obtain ⟨b117264, rfl, mb117264, gb117264⟩ := okV_r ov117263
      have gb117264 : tag b117264 = 19 := tg_of gb117264
      refine t_get (C := RX7) (T := TX7) (N := 7) X hT mb117264 gb117264 rfl rfl 4 (by decide) qw_768 inlX7 rfl dX11_house_121 (fun v117265 hv117265 ov117265 => ?_)
      obtain ⟨b117266, rfl, mb117266, gb117266⟩ := okV_r ov117265
      have gb117266 : tag b117266 = 5 := tg_of gb117266
      refine lv_iload_n hx hb dX11_house_124 rfl (lv_at hl 1 rfl) ?_
      refine t_ild X hT mb117266 gb117266 rfl (by omega) dX11_house_125 (fun z117267 vz117267 rz117267 => ?_)
      have rz117267 : (-2147483648) ≤ z117267.toInt ∧ z117267.toInt ≤ 2147483647 := rz117267
      refine t_cVi (n := 1) (C := RX11) (T := TX11) (N := 16) (As := [.int z117267]) (rest := []) X hT (kt350_X11_answer l G tag L F hT.2.2.2 p0 z117267 m0 g0) m0 g0 rfl rfl qw_463 qw_464 qw_465 qw_2 qw_466 ⟨rfl, by decide +kernel, by decide +kernel, by decide +kernel⟩ ⟨Nat.le_of_ble_eq_true rfl, Nat.le_of_ble_eq_true rfl⟩ hl rfl rfl (Nat.le_of_ble_eq_true rfl) dX11_house_126 ⟨Nat.le_of_ble_eq_true rfl, Nat.le_of_ble_eq_true rfl⟩ (fun z117268 F H locs hT hz117268 => ?_)
      obtain ⟨hz117268, yz117268⟩ := hz117268
      have hv117263 := (yz117268.1 _ 5 (Or.inr (by decide))).trans hv117263
      have hv117265 := (yz117268.1 _ 4 (Or.inr (by decide))).trans hv117265
      have hfr : (∀ b j : Nat, (tag b ≠ 26 ∨ j ≠ 13) → fld F b j = fld Fo b j) ∧ EF tag F Fo := ⟨fun b j n26_13 => (yz117268.1 b j n26_13).trans (hfr.1 b j n26_13), fun b j hb => (yz117268.2 b j hb).trans (hfr.2 b j hb)⟩
      exact t_iret hQ X hT (⟨rg_all _, hfr⟩) (Nat.le_of_ble_eq_true rfl) (Nat.le_of_ble_eq_true rfl) dX11_house_129
    have w117269 := cv_ne (rfl : p2.toInt = p2.toInt) (by decide : (3 : Int32).toInt = 3) c117261
    by_cases c117270 : p2 = 4
    · have w117271 := cv_eq (rfl : p2.toInt = p2.toInt) (by decide : (4 : Int32).toInt = 4) c117270
      refine lv_tableIn (off := 115) (tgt := 130) hx hb dX11_house_15 (by rw [c117270]; decide) (by rw [c117270]; decide) (by rw [c117270]; decide) (by decide) ?_
      refine lv_aload_n hx hb dX11_house_130 rfl (lv_at hl 0 rfl) ?_
      refine lv_aload_n hx hb dX11_house_131 rfl (lv_at hl 0 rfl) ?_
      refine t_get (C := RX11) (T := TX11) (N := 16) X hT m0 g0 rfl rfl 3 (by decide) qw_18 inlX11 rfl dX11_house_132 (fun v117272 hv117272 ov117272 => ?_)
      obtain ⟨b117273, rfl, mb117273, gb117273⟩ := okV_r ov117272
      have gb117273 : tag b117273 = 18 := tg_of gb117273
      refine t_get (C := RX1) (T := TX1) (N := 20) X hT mb117273 gb117273 rfl rfl 13 (by decide) qw_769 inlX1 rfl dX11_house_135 (fun v117274 hv117274 ov117274 => ?_)
      obtain ⟨b117275, rfl, mb117275, gb117275⟩ := okV_r ov117274
      have gb117275 : tag b117275 = 5 := tg_of gb117275
      refine lv_iload_n hx hb dX11_house_138 rfl (lv_at hl 1 rfl) ?_
      refine t_ild X hT mb117275 gb117275 rfl (by omega) dX11_house_139 (fun z117276 vz117276 rz117276 => ?_)
      have rz117276 : (-2147483648) ≤ z117276.toInt ∧ z117276.toInt ≤ 2147483647 := rz117276
      refine t_cVi (n := 1) (C := RX11) (T := TX11) (N := 16) (As := [.int z117276]) (rest := []) X hT (kt350_X11_answer l G tag L F hT.2.2.2 p0 z117276 m0 g0) m0 g0 rfl rfl qw_463 qw_464 qw_465 qw_2 qw_466 ⟨rfl, by decide +kernel, by decide +kernel, by decide +kernel⟩ ⟨Nat.le_of_ble_eq_true rfl, Nat.le_of_ble_eq_true rfl⟩ hl rfl rfl (Nat.le_of_ble_eq_true rfl) dX11_house_140 ⟨Nat.le_of_ble_eq_true rfl, Nat.le_of_ble_eq_true rfl⟩ (fun z117277 F H locs hT hz117277 => ?_)
      obtain ⟨hz117277, yz117277⟩ := hz117277
      have hv117272 := (yz117277.1 _ 3 (Or.inr (by decide))).trans hv117272
      have hv117274 := (yz117277.1 _ 13 (Or.inl (by rw [gb117273]; decide))).trans hv117274
      have hfr : (∀ b j : Nat, (tag b ≠ 26 ∨ j ≠ 13) → fld F b j = fld Fo b j) ∧ EF tag F Fo := ⟨fun b j n26_13 => (yz117277.1 b j n26_13).trans (hfr.1 b j n26_13), fun b j hb => (yz117277.2 b j hb).trans (hfr.2 b j hb)⟩
      exact t_iret hQ X hT (⟨rg_all _, hfr⟩) (Nat.le_of_ble_eq_true rfl) (Nat.le_of_ble_eq_true rfl) dX11_house_143
    have w117278 := cv_ne (rfl : p2.toInt = p2.toInt) (by decide : (4 : Int32).toInt = 4) c117270
    by_cases c117279 : p2 = 5
    · have w117280 := cv_eq (rfl : p2.toInt = p2.toInt) (by decide : (5 : Int32).toInt = 5) c117279
      refine lv_tableIn (off := 129) (tgt := 144) hx hb dX11_house_15 (by rw [c117279]; decide) (by rw [c117279]; decide) (by rw [c117279]; decide) (by decide) ?_
      refine lv_aload_n hx hb dX11_house_144 rfl (lv_at hl 0 rfl) ?_
      refine lv_aload_n hx hb dX11_house_145 rfl (lv_at hl 0 rfl) ?_
      refine t_get (C := RX11) (T := TX11) (N := 16) X hT m0 g0 rfl rfl 3 (by decide) qw_18 inlX11 rfl dX11_house_146 (fun v117281 hv117281 ov117281 => ?_)
      obtain ⟨b117282, rfl, mb117282, gb117282⟩ := okV_r ov117281
      have gb117282 : tag b117282 = 18 := tg_of gb117282
      refine lv_aload_n hx hb dX11_house_149 rfl (lv_at hl 0 rfl) ?_
      refine t_get (C := RX11) (T := TX11) (N := 16) X hT m0 g0 rfl rfl 5 (by decide) qw_23 inlX11 rfl dX11_house_150 (fun v117283 hv117283 ov117283 => ?_)
      obtain ⟨b117284, rfl, mb117284, gb117284⟩ := okV_r ov117283
      have gb117284 : tag b117284 = 19 := tg_of gb117284
      refine lv_iload_n hx hb dX11_house_153 rfl (lv_at hl 1 rfl) ?_
      refine t_cSi (n := 3) (As := [.ref b117282, .ref b117284, .int p1]) (rest := [.ref p0]) X hT (kt381_X6_isShut l G tag L F hT.2.2.2 b117282 b117284 p1 mb117282 gb117282 mb117284 gb117284 (by omega)) qw_774 qw_775 qw_380 qw_776 ⟨by decide +kernel, by decide +kernel, by decide +kernel⟩ ⟨Nat.le_of_ble_eq_true rfl, Nat.le_of_ble_eq_true rfl⟩ hl rfl rfl (Nat.le_of_ble_eq_true rfl) dX11_house_154 ⟨Nat.le_of_ble_eq_true rfl, Nat.le_of_ble_eq_true rfl⟩ (fun z117285 F9 H locs hT hz117285 => ?_)
      obtain ⟨fz117285, hz117285⟩ := hz117285
      rw [fz117285] at hT
      refine lv_if_eq (tgt := 164) hx hb dX11_house_157 (by decide) (fun c117286 => ?_) (fun c117286 => ?_)
      · have w117287 := cv_eq (rfl : z117285.toInt = z117285.toInt) (by decide : (0 : Int32).toInt = 0) c117286
        refine lv_iconst (v := 0) hx hb dX11_house_164 (by decide) ?_
        exact K165 0 p0 _ _ _ _ (by decide) m0 g0 (by omega) (by omega) hT hfr  (lv_sub hl [0, 1, 2] rfl)
      · have w117288 := cv_ne (rfl : z117285.toInt = z117285.toInt) (by decide : (0 : Int32).toInt = 0) c117286
        refine lv_iconst (v := 1) hx hb dX11_house_160 (by decide) ?_
        refine lv_goto (tgt := 165) hx hb dX11_house_161 (by decide) ?_
        exact K165 1 p0 _ _ _ _ (by decide) m0 g0 (by omega) (by omega) hT hfr  (lv_sub hl [0, 1, 2] rfl)
    have w117289 := cv_ne (rfl : p2.toInt = p2.toInt) (by decide : (5 : Int32).toInt = 5) c117279
    by_cases c117290 : p2 = 6
    · have w117291 := cv_eq (rfl : p2.toInt = p2.toInt) (by decide : (6 : Int32).toInt = 6) c117290
      refine lv_tableIn (off := 154) (tgt := 169) hx hb dX11_house_15 (by rw [c117290]; decide) (by rw [c117290]; decide) (by rw [c117290]; decide) (by decide) ?_
      refine lv_aload_n hx hb dX11_house_169 rfl (lv_at hl 0 rfl) ?_
      refine lv_aload_n hx hb dX11_house_170 rfl (lv_at hl 0 rfl) ?_
      refine t_get (C := RX11) (T := TX11) (N := 16) X hT m0 g0 rfl rfl 5 (by decide) qw_23 inlX11 rfl dX11_house_171 (fun v117292 hv117292 ov117292 => ?_)
      obtain ⟨b117293, rfl, mb117293, gb117293⟩ := okV_r ov117292
      have gb117293 : tag b117293 = 19 := tg_of gb117293
      refine lv_iload_n hx hb dX11_house_174 rfl (lv_at hl 1 rfl) ?_
      refine t_cVi (n := 1) (C := RX7) (T := TX7) (N := 7) (As := [.int p1]) (rest := [.ref p0]) X hT (kt314_X7_isCrowded l G tag L F hT.2.2.2 b117293 p1 mb117293 gb117293 (by omega)) mb117293 gb117293 rfl rfl qw_788 qw_789 qw_790 qw_22 qw_791 ⟨rfl, by decide +kernel, by decide +kernel, by decide +kernel⟩ ⟨Nat.le_of_ble_eq_true rfl, Nat.le_of_ble_eq_true rfl⟩ hl rfl rfl (Nat.le_of_ble_eq_true rfl) dX11_house_175 ⟨Nat.le_of_ble_eq_true rfl, Nat.le_of_ble_eq_true rfl⟩ (fun z117294 F9 H locs hT hz117294 => ?_)
      obtain ⟨fz117294, hz117294⟩ := hz117294
      rw [fz117294] at hT
      refine lv_if_eq (tgt := 185) hx hb dX11_house_178 (by decide) (fun c117295 => ?_) (fun c117295 => ?_)
      · have w117296 := cv_eq (rfl : z117294.toInt = z117294.toInt) (by decide : (0 : Int32).toInt = 0) c117295
        refine lv_iconst (v := 0) hx hb dX11_house_185 (by decide) ?_
        exact K186 0 p0 _ _ _ _ (by decide) m0 g0 (by omega) (by omega) hT hfr  (lv_sub hl [0, 1, 2] rfl)
      · have w117297 := cv_ne (rfl : z117294.toInt = z117294.toInt) (by decide : (0 : Int32).toInt = 0) c117295
        refine lv_iconst (v := 1) hx hb dX11_house_181 (by decide) ?_
        refine lv_goto (tgt := 186) hx hb dX11_house_182 (by decide) ?_
        exact K186 1 p0 _ _ _ _ (by decide) m0 g0 (by omega) (by omega) hT hfr  (lv_sub hl [0, 1, 2] rfl)
    have w117298 := cv_ne (rfl : p2.toInt = p2.toInt) (by decide : (6 : Int32).toInt = 6) c117290
    refine lv_tableOut (tgt := 190) hx hb dX11_house_15 (by omega) (by decide) ?_
    refine lv_aload_n hx hb dX11_house_190 rfl (lv_at hl 0 rfl) ?_
    refine lv_iconst (v := 1) hx hb dX11_house_191 (by decide) ?_
    refine t_cVi (n := 1) (C := RX11) (T := TX11) (N := 16) (As := [.int 1]) (rest := []) X hT (kt357_X11_refuse l G tag L F hT.2.2.2 p0 1 m0 g0) m0 g0 rfl rfl qw_152 qw_153 qw_154 qw_2 qw_155 ⟨rfl, by decide +kernel, by decide +kernel, by decide +kernel⟩ ⟨Nat.le_of_ble_eq_true rfl, Nat.le_of_ble_eq_true rfl⟩ hl rfl rfl (Nat.le_of_ble_eq_true rfl) dX11_house_192 ⟨Nat.le_of_ble_eq_true rfl, Nat.le_of_ble_eq_true rfl⟩ (fun z117299 F H locs hT hz117299 => ?_)
    obtain ⟨hz117299, yz117299⟩ := hz117299
    have hfr : (∀ b j : Nat, (tag b ≠ 26 ∨ j ≠ 13) → fld F b j = fld Fo b j) ∧ EF tag F Fo := ⟨fun b j n26_13 => (yz117299.1 b j n26_13).trans (hfr.1 b j n26_13), fun b j hb => (yz117299.2 b j hb).trans (hfr.2 b j hb)⟩
    exact t_iret hQ X hT (⟨rg_all _, hfr⟩) (Nat.le_of_ble_eq_true rfl) (Nat.le_of_ble_eq_true rfl) dX11_house_195
  · have w117300 := cv_eq (rfl : z117221.toInt = z117221.toInt) (by decide : (0 : Int32).toInt = 0) c117222
    refine lv_aload_n hx hb dX11_house_8 rfl (lv_at hl 0 rfl) ?_
    refine lv_iconst (v := 1) hx hb dX11_house_9 (by decide) ?_
    refine t_cVi (n := 1) (C := RX11) (T := TX11) (N := 16) (As := [.int 1]) (rest := []) X hT (kt357_X11_refuse l G tag L F hT.2.2.2 p0 1 m0 g0) m0 g0 rfl rfl qw_152 qw_153 qw_154 qw_2 qw_155 ⟨rfl, by decide +kernel, by decide +kernel, by decide +kernel⟩ ⟨Nat.le_of_ble_eq_true rfl, Nat.le_of_ble_eq_true rfl⟩ hl rfl rfl (Nat.le_of_ble_eq_true rfl) dX11_house_10 ⟨Nat.le_of_ble_eq_true rfl, Nat.le_of_ble_eq_true rfl⟩ (fun z117301 F H locs hT hz117301 => ?_)
    obtain ⟨hz117301, yz117301⟩ := hz117301
    have hfr : (∀ b j : Nat, (tag b ≠ 26 ∨ j ≠ 13) → fld F b j = fld Fo b j) ∧ EF tag F Fo := ⟨fun b j n26_13 => (yz117301.1 b j n26_13).trans (hfr.1 b j n26_13), fun b j hb => (yz117301.2 b j hb).trans (hfr.2 b j hb)⟩
    exact t_iret hQ X hT (⟨rg_all _, hfr⟩) (Nat.le_of_ble_eq_true rfl) (Nat.le_of_ble_eq_true rfl) dX11_house_13
