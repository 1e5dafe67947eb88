set_option maxHeartbeats 4000000 in
set_option maxRecDepth 100000 in
theorem kt122_X11_sizeTold (l : Launch) (G : KG) (tag : Nat → Nat) (L : List Nat) (F : Nat → va_E) (ho : okT G ttC tag L F) (p0 : Nat) (p1 : Int32) (m0 : p0 ∈ L) (g0 : tag p0 = 26) : TMi l yX11_sizeTold cX11_sizeTold 2 (some .int) { frames := 0, cells := 0, slots := 0, locals := 0 } G ttC tag L F [.ref p0, .int p1] (fun r F1 => F1 = F ∧ ((-2147483648) ≤ r.toInt ∧ r.toInt ≤ 2147483647)) := by
  refine t_bodyi (y := yX11_sizeTold) (cd := cX11_sizeTold) (mL := 2) (rt := (some .int)) (rm := { frames := 0, cells := 0, slots := 0, locals := 0 }) (av := [.ref p0, .int p1]) (by decide) (Nat.le_of_ble_eq_true rfl) ho ?_
  intro p e s m args below meth c ls A Q hQ X hT hl
  have hx := X.1.1
  have hb := X.1.2.1
  have hl : lv_has ls 2 [(0, .ref p0), (1, .int p1)] := hl
  have rp1 := rg_all p1
  refine lv_iload_n hx hb dX11_sizeTold_0 rfl (lv_at hl 1 rfl) ?_
  by_cases c46986 : p1 = 0
  · have w46987 := cv_eq (rfl : p1.toInt = p1.toInt) (by decide : (0 : Int32).toInt = 0) c46986
    refine lv_tableIn (off := 43) (tgt := 44) hx hb dX11_sizeTold_1 (by rw [c46986]; decide) (by rw [c46986]; decide) (by rw [c46986]; decide) (by decide) ?_
    refine lv_aload_n hx hb dX11_sizeTold_44 rfl (lv_at hl 0 rfl) ?_
    refine t_get (C := RX11) (T := TX11) (N := 16) X hT m0 g0 rfl rfl 3 (by decide) qw_18 inlX11 rfl dX11_sizeTold_45 (fun v46988 hv46988 ov46988 => ?_)
    obtain ⟨b46989, rfl, mb46989, gb46989⟩ := okV_r ov46988
    have gb46989 : tag b46989 = 18 := tg_of gb46989
    refine t_get (C := RX1) (T := TX1) (N := 20) X hT mb46989 gb46989 rfl rfl 0 (by decide) qw_728 inlX1 rfl dX11_sizeTold_48 (fun v46990 hv46990 ov46990 => ?_)
    obtain ⟨z46991, rfl, rz46991⟩ := okV_i ov46990
    exact t_iret hQ X hT (⟨rfl, rg_all _⟩) (Nat.le_of_ble_eq_true rfl) (Nat.le_of_ble_eq_true rfl) dX11_sizeTold_51
  have w46992 := cv_ne (rfl : p1.toInt = p1.toInt) (by decide : (0 : Int32).toInt = 0) c46986
  by_cases c46993 : p1 = 1
  · have w46994 := cv_eq (rfl : p1.toInt = p1.toInt) (by decide : (1 : Int32).toInt = 1) c46993
    refine lv_tableIn (off := 51) (tgt := 52) hx hb dX11_sizeTold_1 (by rw [c46993]; decide) (by rw [c46993]; decide) (by rw [c46993]; decide) (by decide) ?_
    refine lv_aload_n hx hb dX11_sizeTold_52 rfl (lv_at hl 0 rfl) ?_
    refine t_get (C := RX11) (T := TX11) (N := 16) X hT m0 g0 rfl rfl 3 (by decide) qw_18 inlX11 rfl dX11_sizeTold_53 (fun v46995 hv46995 ov46995 => ?_)
    obtain ⟨b46996, rfl, mb46996, gb46996⟩ := okV_r ov46995
    have gb46996 : tag b46996 = 18 := tg_of gb46996
    refine t_get (C := RX1) (T := TX1) (N := 20) X hT mb46996 gb46996 rfl rfl 1 (by decide) qw_727 inlX1 rfl dX11_sizeTold_56 (fun v46997 hv46997 ov46997 => ?_)
    obtain ⟨z46998, rfl, rz46998⟩ := okV_i ov46997
    exact t_iret hQ X hT (⟨rfl, rg_all _⟩) (Nat.le_of_ble_eq_true rfl) (Nat.le_of_ble_eq_true rfl) dX11_sizeTold_59
  have w46999 := cv_ne (rfl : p1.toInt = p1.toInt) (by decide : (1 : Int32).toInt = 1) c46993
  by_cases c47000 : p1 = 2
  · have w47001 := cv_eq (rfl : p1.toInt = p1.toInt) (by decide : (2 : Int32).toInt = 2) c47000
    refine lv_tableIn (off := 59) (tgt := 60) hx hb dX11_sizeTold_1 (by rw [c47000]; decide) (by rw [c47000]; decide) (by rw [c47000]; decide) (by decide) ?_
    refine lv_aload_n hx hb dX11_sizeTold_60 rfl (lv_at hl 0 rfl) ?_
    refine t_get (C := RX11) (T := TX11) (N := 16) X hT m0 g0 rfl rfl 3 (by decide) qw_18 inlX11 rfl dX11_sizeTold_61 (fun v47002 hv47002 ov47002 => ?_)
    obtain ⟨b47003, rfl, mb47003, gb47003⟩ := okV_r ov47002
    have gb47003 : tag b47003 = 18 := tg_of gb47003
    refine t_get (C := RX1) (T := TX1) (N := 20) X hT mb47003 gb47003 rfl rfl 2 (by decide) qw_1584 inlX1 rfl dX11_sizeTold_64 (fun v47004 hv47004 ov47004 => ?_)
    obtain ⟨z47005, rfl, rz47005⟩ := okV_i ov47004
    refine lv_if_eq (tgt := 74) hx hb dX11_sizeTold_67 (by decide) (fun c47006 => ?_) (fun c47006 => ?_)
    · have w47007 := cv_eq (rfl : z47005.toInt = z47005.toInt) (by decide : (0 : Int32).toInt = 0) c47006
      refine lv_iconst (v := 0) hx hb dX11_sizeTold_74 (by decide) ?_
      exact t_iret hQ X hT (⟨rfl, rg_all _⟩) (Nat.le_of_ble_eq_true rfl) (Nat.le_of_ble_eq_true rfl) dX11_sizeTold_75
    · have w47008 := cv_ne (rfl : z47005.toInt = z47005.toInt) (by decide : (0 : Int32).toInt = 0) c47006
      refine lv_iconst (v := 1) hx hb dX11_sizeTold_70 (by decide) ?_
      refine lv_goto (tgt := 75) hx hb dX11_sizeTold_71 (by decide) ?_
      exact t_iret hQ X hT (⟨rfl, rg_all _⟩) (Nat.le_of_ble_eq_true rfl) (Nat.le_of_ble_eq_true rfl) dX11_sizeTold_75
  have w47009 := cv_ne (rfl : p1.toInt = p1.toInt) (by decide : (2 : Int32).toInt = 2) c47000
  by_cases c47010 : p1 = 3
  · have w47011 := cv_eq (rfl : p1.toInt = p1.toInt) (by decide : (3 : Int32).toInt = 3) c47010
    refine lv_tableIn (off := 75) (tgt := 76) hx hb dX11_sizeTold_1 (by rw [c47010]; decide) (by rw [c47010]; decide) (by rw [c47010]; decide) (by decide) ?_
    refine lv_aload_n hx hb dX11_sizeTold_76 rfl (lv_at hl 0 rfl) ?_
    refine t_get (C := RX11) (T := TX11) (N := 16) X hT m0 g0 rfl rfl 3 (by decide) qw_18 inlX11 rfl dX11_sizeTold_77 (fun v47012 hv47012 ov47012 => ?_)
    obtain ⟨b47013, rfl, mb47013, gb47013⟩ := okV_r ov47012
    have gb47013 : tag b47013 = 18 := tg_of gb47013
    refine t_get (C := RX1) (T := TX1) (N := 20) X hT mb47013 gb47013 rfl rfl 3 (by decide) qw_1585 inlX1 rfl dX11_sizeTold_80 (fun v47014 hv47014 ov47014 => ?_)
    obtain ⟨z47015, rfl, rz47015⟩ := okV_i ov47014
    refine lv_if_eq (tgt := 90) hx hb dX11_sizeTold_83 (by decide) (fun c47016 => ?_) (fun c47016 => ?_)
    · have w47017 := cv_eq (rfl : z47015.toInt = z47015.toInt) (by decide : (0 : Int32).toInt = 0) c47016
      refine lv_iconst (v := 0) hx hb dX11_sizeTold_90 (by decide) ?_
      exact t_iret hQ X hT (⟨rfl, rg_all _⟩) (Nat.le_of_ble_eq_true rfl) (Nat.le_of_ble_eq_true rfl) dX11_sizeTold_91
    · have w47018 := cv_ne (rfl : z47015.toInt = z47015.toInt) (by decide : (0 : Int32).toInt = 0) c47016
      refine lv_iconst (v := 1) hx hb dX11_sizeTold_86 (by decide) ?_
      refine lv_goto (tgt := 91) hx hb dX11_sizeTold_87 (by decide) ?_
      exact t_iret hQ X hT (⟨rfl, rg_all _⟩) (Nat.le_of_ble_eq_true rfl) (Nat.le_of_ble_eq_true rfl) dX11_sizeTold_91
  have w47019 := cv_ne (rfl : p1.toInt = p1.toInt) (by decide : (3 : Int32).toInt = 3) c47010
  by_cases c47020 : p1 = 4
  · have w47021 := cv_eq (rfl : p1.toInt = p1.toInt) (by decide : (4 : Int32).toInt = 4) c47020
    refine lv_tableIn (off := 91) (tgt := 92) hx hb dX11_sizeTold_1 (by rw [c47020]; decide) (by rw [c47020]; decide) (by rw [c47020]; decide) (by decide) ?_
    refine lv_aload_n hx hb dX11_sizeTold_92 rfl (lv_at hl 0 rfl) ?_
    refine t_get (C := RX11) (T := TX11) (N := 16) X hT m0 g0 rfl rfl 3 (by decide) qw_18 inlX11 rfl dX11_sizeTold_93 (fun v47022 hv47022 ov47022 => ?_)
    obtain ⟨b47023, rfl, mb47023, gb47023⟩ := okV_r ov47022
    have gb47023 : tag b47023 = 18 := tg_of gb47023
    refine t_get (C := RX1) (T := TX1) (N := 20) X hT mb47023 gb47023 rfl rfl 8 (by decide) qw_958 inlX1 rfl dX11_sizeTold_96 (fun v47024 hv47024 ov47024 => ?_)
    obtain ⟨z47025, rfl, rz47025⟩ := okV_i ov47024
    exact t_iret hQ X hT (⟨rfl, rg_all _⟩) (Nat.le_of_ble_eq_true rfl) (Nat.le_of_ble_eq_true rfl) dX11_sizeTold_99
  have w47026 := cv_ne (rfl : p1.toInt = p1.toInt) (by decide : (4 : Int32).toInt = 4) c47020
  by_cases c47027 : p1 = 5
  · have w47028 := cv_eq (rfl : p1.toInt = p1.toInt) (by decide : (5 : Int32).toInt = 5) c47027
    refine lv_tableIn (off := 99) (tgt := 100) hx hb dX11_sizeTold_1 (by rw [c47027]; decide) (by rw [c47027]; decide) (by rw [c47027]; decide) (by decide) ?_
    refine lv_aload_n hx hb dX11_sizeTold_100 rfl (lv_at hl 0 rfl) ?_
    refine t_get (C := RX11) (T := TX11) (N := 16) X hT m0 g0 rfl rfl 3 (by decide) qw_18 inlX11 rfl dX11_sizeTold_101 (fun v47029 hv47029 ov47029 => ?_)
    obtain ⟨b47030, rfl, mb47030, gb47030⟩ := okV_r ov47029
    have gb47030 : tag b47030 = 18 := tg_of gb47030
    refine t_get (C := RX1) (T := TX1) (N := 20) X hT mb47030 gb47030 rfl rfl 10 (by decide) qw_151 inlX1 rfl dX11_sizeTold_104 (fun v47031 hv47031 ov47031 => ?_)
    obtain ⟨z47032, rfl, rz47032⟩ := okV_i ov47031
    exact t_iret hQ X hT (⟨rfl, rg_all _⟩) (Nat.le_of_ble_eq_true rfl) (Nat.le_of_ble_eq_true rfl) dX11_sizeTold_107
  have w47033 := cv_ne (rfl : p1.toInt = p1.toInt) (by decide : (5 : Int32).toInt = 5) c47027
  by_cases c47034 : p1 = 6
  · have w47035 := cv_eq (rfl : p1.toInt = p1.toInt) (by decide : (6 : Int32).toInt = 6) c47034
    refine lv_tableIn (off := 107) (tgt := 108) hx hb dX11_sizeTold_1 (by rw [c47034]; decide) (by rw [c47034]; decide) (by rw [c47034]; decide) (by decide) ?_
    refine lv_aload_n hx hb dX11_sizeTold_108 rfl (lv_at hl 0 rfl) ?_
    refine t_get (C := RX11) (T := TX11) (N := 16) X hT m0 g0 rfl rfl 3 (by decide) qw_18 inlX11 rfl dX11_sizeTold_109 (fun v47036 hv47036 ov47036 => ?_)
    obtain ⟨b47037, rfl, mb47037, gb47037⟩ := okV_r ov47036
    have gb47037 : tag b47037 = 18 := tg_of gb47037
    refine t_get (C := RX1) (T := TX1) (N := 20) X hT mb47037 gb47037 rfl rfl 14 (by decide) qw_891 inlX1 rfl dX11_sizeTold_112 (fun v47038 hv47038 ov47038 => ?_)
    obtain ⟨z47039, rfl, rz47039⟩ := okV_i ov47038
    exact t_iret hQ X hT (⟨rfl, rg_all _⟩) (Nat.le_of_ble_eq_true rfl) (Nat.le_of_ble_eq_true rfl) dX11_sizeTold_115
  have w47040 := cv_ne (rfl : p1.toInt = p1.toInt) (by decide : (6 : Int32).toInt = 6) c47034
  refine lv_tableOut (tgt := 116) hx hb dX11_sizeTold_1 (by omega) (by decide) ?_
  refine lv_aload_n hx hb dX11_sizeTold_116 rfl (lv_at hl 0 rfl) ?_
  refine t_get (C := RX11) (T := TX11) (N := 16) X hT m0 g0 rfl rfl 3 (by decide) qw_18 inlX11 rfl dX11_sizeTold_117 (fun v47041 hv47041 ov47041 => ?_)
  obtain ⟨b47042, rfl, mb47042, gb47042⟩ := okV_r ov47041
  have gb47042 : tag b47042 = 18 := tg_of gb47042
  refine t_get (C := RX1) (T := TX1) (N := 20) X hT mb47042 gb47042 rfl rfl 16 (by decide) qw_1383 inlX1 rfl dX11_sizeTold_120 (fun v47043 hv47043 ov47043 => ?_)
  obtain ⟨z47044, rfl, rz47044⟩ := okV_i ov47043
  exact t_iret hQ X hT (⟨rfl, rg_all _⟩) (Nat.le_of_ble_eq_true rfl) (Nat.le_of_ble_eq_true rfl) dX11_sizeTold_123
set_option maxHeartbeats 4000000 in
set_option maxRecDepth 100000 in
theorem kt123_X11_size (l : Launch) (G : KG) (tag : Nat → Nat) (L : List Nat) (F : Nat → va_E) (ho : okT G ttC tag L F) (p0 : Nat) (p1 : Int32) (m0 : p0 ∈ L) (g0 : tag p0 = 26) : TMi l yX11_size cX11_size 2 (some .int) { frames := 1, cells := 0, slots := 0, locals := 21 } G ttC tag L F [.ref p0, .int p1] (fun r F1 => F1 = F ∧ ((-2147483648) ≤ r.toInt ∧ r.toInt ≤ 2147483647)) := by
  refine t_bodyi (y := yX11_size) (cd := cX11_size) (mL := 2) (rt := (some .int)) (rm := { frames := 1, cells := 0, slots := 0, locals := 21 }) (av := [.ref p0, .int p1]) (by decide) (Nat.le_of_ble_eq_true rfl) ho ?_
  intro p e s m args below meth c ls A Q hQ X hT hl
  have hx := X.1.1
  have hb := X.1.2.1
  have hl : lv_has ls 2 [(0, .ref p0), (1, .int p1)] := hl
  have rp1 := rg_all p1
  refine lv_iload_n hx hb dX11_size_0 rfl (lv_at hl 1 rfl) ?_
  refine lv_bipush (v := 12) hx hb dX11_size_1 (by decide) ?_
  refine lv_icmp_ne (tgt := 11) hx hb dX11_size_3 (by decide) (fun c47261 => ?_) (fun c47261 => ?_)
  · have w47262 := cv_ne (rfl : p1.toInt = p1.toInt) (by decide : (12 : Int32).toInt = 12) c47261
    refine lv_iload_n hx hb dX11_size_11 rfl (lv_at hl 1 rfl) ?_
    refine lv_if_lt (tgt := 21) hx hb dX11_size_12 (by decide) (fun c47263 => ?_) (fun c47263 => ?_)
    · have w47264 := cv_lt (rfl : p1.toInt = p1.toInt) (by decide : (0 : Int32).toInt = 0) c47263
      refine lv_iconst (v := (-1)) hx hb dX11_size_21 (by decide) ?_
      exact t_iret hQ X hT (⟨rfl, rg_all _⟩) (Nat.le_of_ble_eq_true rfl) (Nat.le_of_ble_eq_true rfl) dX11_size_22
    · have w47265 := cv_nlt (rfl : p1.toInt = p1.toInt) (by decide : (0 : Int32).toInt = 0) c47263
      refine lv_iload_n hx hb dX11_size_15 rfl (lv_at hl 1 rfl) ?_
      refine lv_bipush (v := 12) hx hb dX11_size_16 (by decide) ?_
      refine lv_icmp_le (tgt := 23) hx hb dX11_size_18 (by decide) (fun c47266 => ?_) (fun c47266 => ?_)
      · have w47267 := cv_le (rfl : p1.toInt = p1.toInt) (by decide : (12 : Int32).toInt = 12) c47266
        refine lv_aload_n hx hb dX11_size_23 rfl (lv_at hl 0 rfl) ?_
        refine t_get (C := RX11) (T := TX11) (N := 16) X hT m0 g0 rfl rfl 2 (by decide) qw_150 inlX11 rfl dX11_size_24 (fun v47268 hv47268 ov47268 => ?_)
        obtain ⟨z47269, rfl, rz47269⟩ := okV_i ov47268
        refine lv_if_ne (tgt := 32) hx hb dX11_size_27 (by decide) (fun c47270 => ?_) (fun c47270 => ?_)
        · have w47271 := cv_ne (rfl : z47269.toInt = z47269.toInt) (by decide : (0 : Int32).toInt = 0) c47270
          refine lv_iload_n hx hb dX11_size_32 rfl (lv_at hl 1 rfl) ?_
          refine lv_bipush (v := 8) hx hb dX11_size_33 (by decide) ?_
          refine lv_icmp_ge (tgt := 46) hx hb dX11_size_35 (by decide) (fun c47272 => ?_) (fun c47272 => ?_)
          · have w47273 := cv_le (by decide : (8 : Int32).toInt = 8) (rfl : p1.toInt = p1.toInt) c47272
            refine lv_aload_n hx hb dX11_size_46 rfl (lv_at hl 0 rfl) ?_
            refine lv_iload_n hx hb dX11_size_47 rfl (lv_at hl 1 rfl) ?_
            refine t_cVi (n := 1) (C := RX11) (T := TX11) (N := 16) (As := [.int p1]) (rest := []) X hT (kt121_X11_sizeNow l G tag L F hT.2.2.2 p0 p1 m0 g0) m0 g0 rfl rfl qw_1586 qw_1587 qw_1588 qw_2 qw_1589 ⟨rfl, by decide +kernel, by decide +kernel, by decide +kernel⟩ ⟨Nat.le_of_ble_eq_true rfl, Nat.le_of_ble_eq_true rfl⟩ hl rfl rfl (Nat.le_of_ble_eq_true rfl) dX11_size_48 ⟨Nat.le_of_ble_eq_true rfl, Nat.le_of_ble_eq_true rfl⟩ (fun z47274 F9 H locs hT hz47274 => ?_)
            obtain ⟨fz47274, hz47274⟩ := hz47274
            rw [fz47274] at hT
            exact t_iret hQ X hT (⟨rfl, rg_all _⟩) (Nat.le_of_ble_eq_true rfl) (Nat.le_of_ble_eq_true rfl) dX11_size_51
          · have w47275 := cv_nle (by decide : (8 : Int32).toInt = 8) (rfl : p1.toInt = p1.toInt) c47272
            refine lv_aload_n hx hb dX11_size_38 rfl (lv_at hl 0 rfl) ?_
            refine lv_iload_n hx hb dX11_size_39 rfl (lv_at hl 1 rfl) ?_
            refine t_cVi (n := 1) (C := RX11) (T := TX11) (N := 16) (As := [.int p1]) (rest := []) X hT (kt122_X11_sizeTold l G tag L F hT.2.2.2 p0 p1 m0 g0) m0 g0 rfl rfl qw_1580 qw_1581 qw_1582 qw_2 qw_1583 ⟨rfl, by decide +kernel, by decide +kernel, by decide +kernel⟩ ⟨Nat.le_of_ble_eq_true rfl, Nat.le_of_ble_eq_true rfl⟩ hl rfl rfl (Nat.le_of_ble_eq_true rfl) dX11_size_40 ⟨Nat.le_of_ble_eq_true rfl, Nat.le_of_ble_eq_true rfl⟩ (fun z47276 F9 H locs hT hz47276 => ?_)
            obtain ⟨fz47276, hz47276⟩ := hz47276
            rw [fz47276] at hT
            refine lv_goto (tgt := 51) hx hb dX11_size_43 (by decide) ?_
            exact t_iret hQ X hT (⟨rfl, rg_all _⟩) (Nat.le_of_ble_eq_true rfl) (Nat.le_of_ble_eq_true rfl) dX11_size_51
        · have w47277 := cv_eq (rfl : z47269.toInt = z47269.toInt) (by decide : (0 : Int32).toInt = 0) c47270
          refine lv_iconst (v := 0) hx hb dX11_size_30 (by decide) ?_
          exact t_iret hQ X hT (⟨rfl, rg_all _⟩) (Nat.le_of_ble_eq_true rfl) (Nat.le_of_ble_eq_true rfl) dX11_size_31
      · have w47278 := cv_nle (rfl : p1.toInt = p1.toInt) (by decide : (12 : Int32).toInt = 12) c47266
        refine lv_iconst (v := (-1)) hx hb dX11_size_21 (by decide) ?_
        exact t_iret hQ X hT (⟨rfl, rg_all _⟩) (Nat.le_of_ble_eq_true rfl) (Nat.le_of_ble_eq_true rfl) dX11_size_22
  · have w47279 := cv_eq (rfl : p1.toInt = p1.toInt) (by decide : (12 : Int32).toInt = 12) c47261
    refine lv_aload_n hx hb dX11_size_6 rfl (lv_at hl 0 rfl) ?_
    refine t_get (C := RX11) (T := TX11) (N := 16) X hT m0 g0 rfl rfl 1 (by decide) qw_131 inlX11 rfl dX11_size_7 (fun v47280 hv47280 ov47280 => ?_)
    obtain ⟨z47281, rfl, rz47281⟩ := okV_i ov47280
    exact t_iret hQ X hT (⟨rfl, rg_all _⟩) (Nat.le_of_ble_eq_true rfl) (Nat.le_of_ble_eq_true rfl) dX11_size_10
set_option maxHeartbeats 4000000 in
set_option maxRecDepth 100000 in
theorem kt124_X11_skin (l : Launch) (G : KG) (tag : Nat → Nat) (L : List Nat) (Fo : Nat → va_E) (ho : okT G ttC tag L Fo) (p0 : Nat) (p1 : Int32) (p2 : Int32) (p3 : Int32) (m0 : p0 ∈ L) (g0 : tag p0 = 26) : TMi l yX11_skin cX11_skin 4 (some .int) { frames := 3, cells := 0, slots := 0, locals := 65 } G ttC tag L Fo [.ref p0, .int p1, .int p2, .int p3] (fun r F1 => ((-2147483648) ≤ r.toInt ∧ r.toInt ≤ 2147483647) ∧ (∀ b j : Nat, (tag b ≠ 26 ∨ j ≠ 13) → fld F1 b j = fld Fo b j)) := by
  refine t_bodyi (y := yX11_skin) (cd := cX11_skin) (mL := 4) (rt := (some .int)) (rm := { frames := 3, cells := 0, slots := 0, locals := 65 }) (av := [.ref p0, .int p1, .int p2, .int p3]) (by decide) (Nat.le_of_ble_eq_true rfl) ho ?_
  intro p e s m args below meth c ls A Q hQ X hT hl
  have hx := X.1.1
  have hb := X.1.2.1
  have hl : lv_has ls 4 [(0, .ref p0), (1, .int p1), (2, .int p2), (3, .int p3)] := hl
  have rp1 := rg_all p1
  have rp2 := rg_all p2
  have rp3 := rg_all p3
  obtain ⟨F, hFo⟩ : ∃ F : Nat → va_E, F = Fo := ⟨_, rfl⟩
  rw [← hFo] at hT
  have hfr : ∀ b j : Nat, (tag b ≠ 26 ∨ j ≠ 13) → fld F b j = fld Fo b j := by
    rw [hFo]
    intros
    rfl
  have K19 : ∀  (F : Nat → va_E) (H : Heap) (locs : List Loc) (ls : Array Slot), TH G ttC A s tag L F H locs → (∀ b j : Nat, (tag b ≠ 26 ∨ j ≠ 13) → fld F b j = fld Fo b j) → lv_has ls 4 [(0, .ref p0), (1, .int p1), (2, .int p2), (3, .int p3)] → W p l e { frames := 3, cells := 0, slots := 0, locals := 65 } s m args below meth c H locs 0 0 Q (F0 m 19 ls []) := by
    intro F H locs ls hT hfr hl
    refine lv_aload_n hx hb dX11_skin_19 rfl (lv_at hl 0 rfl) ?_
    refine lv_iconst (v := 1) hx hb dX11_skin_20 (by decide) ?_
    refine t_cVi (n := 1) (C := RX11) (T := TX11) (N := 16) (As := [.int 1]) (rest := []) X hT (kt63_X11_refuse l G tag L F hT.2.2.2 p0 1 m0 g0) m0 g0 rfl rfl qw_152 qw_153 qw_154 qw_2 qw_155 ⟨rfl, by decide +kernel, by decide +kernel, by decide +kernel⟩ ⟨Nat.le_of_ble_eq_true rfl, Nat.le_of_ble_eq_true rfl⟩ hl rfl rfl (Nat.le_of_ble_eq_true rfl) dX11_skin_21 ⟨Nat.le_of_ble_eq_true rfl, Nat.le_of_ble_eq_true rfl⟩ (fun z47480 F H locs hT hz47480 => ?_)
    obtain ⟨hz47480, yz47480⟩ := hz47480
    have hfr : ∀ b j : Nat, (tag b ≠ 26 ∨ j ≠ 13) → fld F b j = fld Fo b j := fun b j n26_13 => (yz47480 b j n26_13).trans (hfr b j n26_13)
    exact t_iret hQ X hT (⟨rg_all _, hfr⟩) (Nat.le_of_ble_eq_true rfl) (Nat.le_of_ble_eq_true rfl) dX11_skin_24
  refine lv_aload_n hx hb dX11_skin_0 rfl (lv_at hl 0 rfl) ?_
  refine lv_iload_n hx hb dX11_skin_1 rfl (lv_at hl 1 rfl) ?_
  refine lv_iload_n hx hb dX11_skin_2 rfl (lv_at hl 2 rfl) ?_
  refine t_cVi (n := 2) (C := RX11) (T := TX11) (N := 16) (As := [.int p1, .int p2]) (rest := []) X hT (kt70_X11_isSkin l G tag L F hT.2.2.2 p0 p1 p2 m0 g0) m0 g0 rfl rfl qw_823 qw_824 qw_825 qw_2 qw_826 ⟨rfl, by decide +kernel, by decide +kernel, by decide +kernel⟩ ⟨Nat.le_of_ble_eq_true rfl, Nat.le_of_ble_eq_true rfl⟩ hl rfl rfl (Nat.le_of_ble_eq_true rfl) dX11_skin_3 ⟨Nat.le_of_ble_eq_true rfl, Nat.le_of_ble_eq_true rfl⟩ (fun z47481 F9 H locs hT hz47481 => ?_)
  obtain ⟨fz47481, hz47481⟩ := hz47481
  rw [fz47481] at hT
  obtain ⟨hz47481, iz47481⟩ := hz47481
  refine lv_if_eq (tgt := 19) hx hb dX11_skin_6 (by decide) (fun c47482 => ?_) (fun c47482 => ?_)
  · have w47483 := cv_eq (rfl : z47481.toInt = z47481.toInt) (by decide : (0 : Int32).toInt = 0) c47482
    exact K19  _ _ _ _  hT hfr  (lv_sub hl [0, 1, 2, 3] rfl)
  · have w47484 := cv_ne (rfl : z47481.toInt = z47481.toInt) (by decide : (0 : Int32).toInt = 0) c47482
    have w47485 := (fun h => (iz47481 h).1) (by omega)
    have w47486 := (fun h => (iz47481 h).2) (by omega)
    refine lv_iload_n hx hb dX11_skin_9 rfl (lv_at hl 3 rfl) ?_
    refine lv_if_lt (tgt := 19) hx hb dX11_skin_10 (by decide) (fun c47487 => ?_) (fun c47487 => ?_)
    · have w47488 := cv_lt (rfl : p3.toInt = p3.toInt) (by decide : (0 : Int32).toInt = 0) c47487
      exact K19  _ _ _ _  hT hfr  (lv_sub hl [0, 1, 2, 3] rfl)
    · have w47489 := cv_nlt (rfl : p3.toInt = p3.toInt) (by decide : (0 : Int32).toInt = 0) c47487
      refine lv_iload_n hx hb dX11_skin_13 rfl (lv_at hl 3 rfl) ?_
      refine lv_bipush (v := 8) hx hb dX11_skin_14 (by decide) ?_
      refine lv_icmp_lt (tgt := 25) hx hb dX11_skin_16 (by decide) (fun c47490 => ?_) (fun c47490 => ?_)
      · have w47491 := cv_lt (rfl : p3.toInt = p3.toInt) (by decide : (8 : Int32).toInt = 8) c47490
        refine lv_aload_n hx hb dX11_skin_25 rfl (lv_at hl 0 rfl) ?_
        refine lv_aload_n hx hb dX11_skin_26 rfl (lv_at hl 0 rfl) ?_
        refine t_get (C := RX11) (T := TX11) (N := 16) X hT m0 g0 rfl rfl 5 (by decide) qw_23 inlX11 rfl dX11_skin_27 (fun v47492 hv47492 ov47492 => ?_)
        obtain ⟨b47493, rfl, mb47493, gb47493⟩ := okV_r ov47492
        have gb47493 : tag b47493 = 19 := tg_of gb47493
        refine lv_iload_n hx hb dX11_skin_30 rfl (lv_at hl 1 rfl) ?_
        refine lv_iload_n hx hb dX11_skin_31 rfl (lv_at hl 2 rfl) ?_
        refine lv_iload_n hx hb dX11_skin_32 rfl (lv_at hl 3 rfl) ?_
        refine t_cVi (n := 3) (C := RX7) (T := TX7) (N := 7) (As := [.int p1, .int p2, .int p3]) (rest := [.ref p0]) X hT (kt15_X7_partOf l G tag L F hT.2.2.2 b47493 p1 p2 p3 mb47493 gb47493) mb47493 gb47493 rfl rfl qw_831 qw_778 qw_779 qw_22 qw_780 ⟨rfl, by decide +kernel, by decide +kernel, by decide +kernel⟩ ⟨Nat.le_of_ble_eq_true rfl, Nat.le_of_ble_eq_true rfl⟩ hl rfl rfl (Nat.le_of_ble_eq_true rfl) dX11_skin_33 ⟨Nat.le_of_ble_eq_true rfl, Nat.le_of_ble_eq_true rfl⟩ (fun z47494 F9 H locs hT hz47494 => ?_)
        obtain ⟨fz47494, hz47494⟩ := hz47494
        rw [fz47494] at hT
        refine t_cVi (n := 1) (C := RX11) (T := TX11) (N := 16) (As := [.int z47494]) (rest := []) X hT (kt56_X11_answer l G tag L F hT.2.2.2 p0 z47494 m0 g0) m0 g0 rfl rfl qw_463 qw_464 qw_465 qw_2 qw_466 ⟨rfl, by decide +kernel, by decide +kernel, by decide +kernel⟩ ⟨Nat.le_of_ble_eq_true rfl, Nat.le_of_ble_eq_true rfl⟩ hl rfl rfl (Nat.le_of_ble_eq_true rfl) dX11_skin_36 ⟨Nat.le_of_ble_eq_true rfl, Nat.le_of_ble_eq_true rfl⟩ (fun z47495 F H locs hT hz47495 => ?_)
        obtain ⟨hz47495, yz47495⟩ := hz47495
        have hv47492 := (yz47495 _ 5 (Or.inr (by decide))).trans hv47492
        have hfr : ∀ b j : Nat, (tag b ≠ 26 ∨ j ≠ 13) → fld F b j = fld Fo b j := fun b j n26_13 => (yz47495 b j n26_13).trans (hfr b j n26_13)
        exact t_iret hQ X hT (⟨rg_all _, hfr⟩) (Nat.le_of_ble_eq_true rfl) (Nat.le_of_ble_eq_true rfl) dX11_skin_39
      · have w47496 := cv_nlt (rfl : p3.toInt = p3.toInt) (by decide : (8 : Int32).toInt = 8) c47490
        exact K19  _ _ _ _  hT hfr  (lv_sub hl [0, 1, 2, 3] rfl)
set_option maxHeartbeats 4000000 in
set_option maxRecDepth 100000 in
theorem kt125_X11_skinsIn (l : Launch) (G : KG) (tag : Nat → Nat) (L : List Nat) (Fo : Nat → va_E) (ho : okT G ttC tag L Fo) (p0 : Nat) (p1 : Int32) (m0 : p0 ∈ L) (g0 : tag p0 = 26) : TMi l yX11_skinsIn cX11_skinsIn 2 (some .int) { frames := 7, cells := 0, slots := 0, locals := 179 } G ttC tag L Fo [.ref p0, .int p1] (fun r F1 => ((-2147483648) ≤ r.toInt ∧ r.toInt ≤ 2147483647) ∧ (∀ b j : Nat, (tag b ≠ 19 ∨ j ≠ 0) → (tag b ≠ 19 ∨ j ≠ 1) → (tag b ≠ 26 ∨ j ≠ 13) → fld F1 b j = fld Fo b j)) := by
  refine t_bodyi (y := yX11_skinsIn) (cd := cX11_skinsIn) (mL := 2) (rt := (some .int)) (rm := { frames := 7, cells := 0, slots := 0, locals := 179 }) (av := [.ref p0, .int p1]) (by decide) (Nat.le_of_ble_eq_true rfl) ho ?_
  intro p e s m args below meth c ls A Q hQ X hT hl
  have hx := X.1.1
  have hb := X.1.2.1
  have hl : lv_has ls 2 [(0, .ref p0), (1, .int p1)] := hl
  have rp1 := rg_all p1
  obtain ⟨F, hFo⟩ : ∃ F : Nat → va_E, F = Fo := ⟨_, rfl⟩
  rw [← hFo] at hT
  have hfr : ∀ b j : Nat, (tag b ≠ 19 ∨ j ≠ 0) → (tag b ≠ 19 ∨ j ≠ 1) → (tag b ≠ 26 ∨ j ≠ 13) → fld F b j = fld Fo b j := by
    rw [hFo]
    intros
    rfl
  have K23 : ∀ (z47706 : Int32) (F : Nat → va_E) (H : Heap) (locs : List Loc) (ls : Array Slot), (1 ≤ z47706.toInt ∧ z47706.toInt ≤ 1) → TH G ttC A s tag L F H locs → (∀ b j : Nat, (tag b ≠ 19 ∨ j ≠ 0) → (tag b ≠ 19 ∨ j ≠ 1) → (tag b ≠ 26 ∨ j ≠ 13) → fld F b j = fld Fo b j) → fld F p0 2 = .int z47706 → lv_has ls 2 [(0, .ref p0), (1, .int p1)] → W p l e { frames := 7, cells := 0, slots := 0, locals := 179 } s m args below meth c H locs 0 0 Q (F0 m 23 ls []) := by
    intro z47706 F H locs ls rz47706 hT hfr qz47706 hl
    refine lv_aload_n hx hb dX11_skinsIn_23 rfl (lv_at hl 0 rfl) ?_
    refine lv_iconst (v := 2) hx hb dX11_skinsIn_24 (by decide) ?_
    refine t_cVi (n := 1) (C := RX11) (T := TX11) (N := 16) (As := [.int 2]) (rest := []) X hT (kt63_X11_refuse l G tag L F hT.2.2.2 p0 2 m0 g0) m0 g0 rfl rfl qw_152 qw_153 qw_154 qw_2 qw_155 ⟨rfl, by decide +kernel, by decide +kernel, by decide +kernel⟩ ⟨Nat.le_of_ble_eq_true rfl, Nat.le_of_ble_eq_true rfl⟩ hl rfl rfl (Nat.le_of_ble_eq_true rfl) dX11_skinsIn_25 ⟨Nat.le_of_ble_eq_true rfl, Nat.le_of_ble_eq_true rfl⟩ (fun z47707 F H locs hT hz47707 => ?_)
    obtain ⟨hz47707, yz47707⟩ := hz47707
    have qz47706 := (yz47707 _ 2 (Or.inr (by decide))).trans qz47706
    have hfr : ∀ b j : Nat, (tag b ≠ 19 ∨ j ≠ 0) → (tag b ≠ 19 ∨ j ≠ 1) → (tag b ≠ 26 ∨ j ≠ 13) → fld F b j = fld Fo b j := fun b j n19_0 n19_1 n26_13 => (yz47707 b j n26_13).trans (hfr b j n19_0 n19_1 n26_13)
    exact t_iret hQ X hT (⟨rg_all _, hfr⟩) (Nat.le_of_ble_eq_true rfl) (Nat.le_of_ble_eq_true rfl) dX11_skinsIn_28
  refine lv_aload_n hx hb dX11_skinsIn_0 rfl (lv_at hl 0 rfl) ?_
  refine t_get (C := RX11) (T := TX11) (N := 16) X hT m0 g0 rfl rfl 2 (by decide) qw_150 inlX11 rfl dX11_skinsIn_1 (fun v47708 hv47708 ov47708 => ?_)
  obtain ⟨z47709, rfl, rz47709⟩ := okV_i ov47708
  refine lv_if_ne (tgt := 13) hx hb dX11_skinsIn_4 (by decide) (fun c47710 => ?_) (fun c47710 => ?_)
  · have w47711 := cv_ne (rfl : z47709.toInt = z47709.toInt) (by decide : (0 : Int32).toInt = 0) c47710
    refine lv_iload_n hx hb dX11_skinsIn_13 rfl (lv_at hl 1 rfl) ?_
    refine lv_if_lt (tgt := 23) hx hb dX11_skinsIn_14 (by decide) (fun c47712 => ?_) (fun c47712 => ?_)
    · have w47713 := cv_lt (rfl : p1.toInt = p1.toInt) (by decide : (0 : Int32).toInt = 0) c47712
      exact K23 z47709 _ _ _ _ (by omega) hT hfr hv47708 (lv_sub hl [0, 1] rfl)
    · have w47714 := cv_nlt (rfl : p1.toInt = p1.toInt) (by decide : (0 : Int32).toInt = 0) c47712
      refine lv_iload_n hx hb dX11_skinsIn_17 rfl (lv_at hl 1 rfl) ?_
      refine lv_bipush (v := 60) hx hb dX11_skinsIn_18 (by decide) ?_
      refine lv_icmp_le (tgt := 29) hx hb dX11_skinsIn_20 (by decide) (fun c47715 => ?_) (fun c47715 => ?_)
      · have w47716 := cv_le (rfl : p1.toInt = p1.toInt) (by decide : (60 : Int32).toInt = 60) c47715
        refine lv_aload_n hx hb dX11_skinsIn_29 rfl (lv_at hl 0 rfl) ?_
        refine lv_iload_n hx hb dX11_skinsIn_30 rfl (lv_at hl 1 rfl) ?_
        refine t_cVv (n := 1) (C := RX11) (T := TX11) (N := 16) (As := [.int p1]) (rest := []) X hT (kt83_X11_goTo l G tag L F hT.2.2.2 p0 p1 m0 g0 (by omega)) m0 g0 rfl rfl qw_1092 qw_1093 qw_1094 qw_2 qw_1095 ⟨rfl, by decide +kernel, by decide +kernel, by decide +kernel⟩ ⟨Nat.le_of_ble_eq_true rfl, Nat.le_of_ble_eq_true rfl⟩ hl rfl rfl (Nat.le_of_ble_eq_true rfl) dX11_skinsIn_31 ⟨Nat.le_of_ble_eq_true rfl, Nat.le_of_ble_eq_true rfl⟩ (fun F H locs hT hz47717 => ?_)
        have yz47717 := hz47717
        have hv47708 := (yz47717 _ 2 (Or.inr (by decide)) (Or.inr (by decide))).trans hv47708
        have hfr : ∀ b j : Nat, (tag b ≠ 19 ∨ j ≠ 0) → (tag b ≠ 19 ∨ j ≠ 1) → (tag b ≠ 26 ∨ j ≠ 13) → fld F b j = fld Fo b j := fun b j n19_0 n19_1 n26_13 => (yz47717 b j n19_0 n19_1).trans (hfr b j n19_0 n19_1 n26_13)
        refine lv_aload_n hx hb dX11_skinsIn_34 rfl (lv_at hl 0 rfl) ?_
        refine lv_aload_n hx hb dX11_skinsIn_35 rfl (lv_at hl 0 rfl) ?_
        refine t_get (C := RX11) (T := TX11) (N := 16) X hT m0 g0 rfl rfl 7 (by decide) qw_25 inlX11 rfl dX11_skinsIn_36 (fun v47718 hv47718 ov47718 => ?_)
        obtain ⟨b47719, rfl, mb47719, gb47719⟩ := okV_r ov47718
        have gb47719 : tag b47719 = 19 := tg_of gb47719
        refine t_cVi (n := 0) (C := RX7) (T := TX7) (N := 7) (As := []) (rest := [.ref p0]) X hT (kt23_X7_skinsOfAll l G tag L F hT.2.2.2 b47719 mb47719 gb47719) mb47719 gb47719 rfl rfl qw_1182 qw_1183 qw_1184 qw_22 qw_1185 ⟨rfl, by decide +kernel, by decide +kernel, by decide +kernel⟩ ⟨Nat.le_of_ble_eq_true rfl, Nat.le_of_ble_eq_true rfl⟩ hl rfl rfl (Nat.le_of_ble_eq_true rfl) dX11_skinsIn_39 ⟨Nat.le_of_ble_eq_true rfl, Nat.le_of_ble_eq_true rfl⟩ (fun z47720 F9 H locs hT hz47720 => ?_)
        obtain ⟨fz47720, hz47720⟩ := hz47720
        rw [fz47720] at hT
        refine t_cVi (n := 1) (C := RX11) (T := TX11) (N := 16) (As := [.int z47720]) (rest := []) X hT (kt56_X11_answer l G tag L F hT.2.2.2 p0 z47720 m0 g0) m0 g0 rfl rfl qw_463 qw_464 qw_465 qw_2 qw_466 ⟨rfl, by decide +kernel, by decide +kernel, by decide +kernel⟩ ⟨Nat.le_of_ble_eq_true rfl, Nat.le_of_ble_eq_true rfl⟩ hl rfl rfl (Nat.le_of_ble_eq_true rfl) dX11_skinsIn_42 ⟨Nat.le_of_ble_eq_true rfl, Nat.le_of_ble_eq_true rfl⟩ (fun z47721 F H locs hT hz47721 => ?_)
        obtain ⟨hz47721, yz47721⟩ := hz47721
        have hv47708 := (yz47721 _ 2 (Or.inr (by decide))).trans hv47708
        have hv47718 := (yz47721 _ 7 (Or.inr (by decide))).trans hv47718
        have hfr : ∀ b j : Nat, (tag b ≠ 19 ∨ j ≠ 0) → (tag b ≠ 19 ∨ j ≠ 1) → (tag b ≠ 26 ∨ j ≠ 13) → fld F b j = fld Fo b j := fun b j n19_0 n19_1 n26_13 => (yz47721 b j n26_13).trans (hfr b j n19_0 n19_1 n26_13)
        exact t_iret hQ X hT (⟨rg_all _, hfr⟩) (Nat.le_of_ble_eq_true rfl) (Nat.le_of_ble_eq_true rfl) dX11_skinsIn_45
      · have w47722 := cv_nle (rfl : p1.toInt = p1.toInt) (by decide : (60 : Int32).toInt = 60) c47715
        exact K23 z47709 _ _ _ _ (by omega) hT hfr hv47708 (lv_sub hl [0, 1] rfl)
  · have w47723 := cv_eq (rfl : z47709.toInt = z47709.toInt) (by decide : (0 : Int32).toInt = 0) c47710
    refine lv_aload_n hx hb dX11_skinsIn_7 rfl (lv_at hl 0 rfl) ?_
    refine lv_iconst (v := 1) hx hb dX11_skinsIn_8 (by decide) ?_
    refine t_cVi (n := 1) (C := RX11) (T := TX11) (N := 16) (As := [.int 1]) (rest := []) X hT (kt63_X11_refuse l G tag L F hT.2.2.2 p0 1 m0 g0) m0 g0 rfl rfl qw_152 qw_153 qw_154 qw_2 qw_155 ⟨rfl, by decide +kernel, by decide +kernel, by decide +kernel⟩ ⟨Nat.le_of_ble_eq_true rfl, Nat.le_of_ble_eq_true rfl⟩ hl rfl rfl (Nat.le_of_ble_eq_true rfl) dX11_skinsIn_9 ⟨Nat.le_of_ble_eq_true rfl, Nat.le_of_ble_eq_true rfl⟩ (fun z47724 F H locs hT hz47724 => ?_)
    obtain ⟨hz47724, yz47724⟩ := hz47724
    have hv47708 := (yz47724 _ 2 (Or.inr (by decide))).trans hv47708
    have hfr : ∀ b j : Nat, (tag b ≠ 19 ∨ j ≠ 0) → (tag b ≠ 19 ∨ j ≠ 1) → (tag b ≠ 26 ∨ j ≠ 13) → fld F b j = fld Fo b j := fun b j n19_0 n19_1 n26_13 => (yz47724 b j n26_13).trans (hfr b j n19_0 n19_1 n26_13)
    exact t_iret hQ X hT (⟨rg_all _, hfr⟩) (Nat.le_of_ble_eq_true rfl) (Nat.le_of_ble_eq_true rfl) dX11_skinsIn_12
set_option maxHeartbeats 4000000 in
set_option maxRecDepth 100000 in
theorem kt126_X11_soonest (l : Launch) (G : KG) (tag : Nat → Nat) (L : List Nat) (Fo : Nat → va_E) (ho : okT G ttC tag L Fo) (p0 : Nat) (p1 : Int32) (m0 : p0 ∈ L) (g0 : tag p0 = 26) : TMi l yX11_soonest cX11_soonest 2 (some .int) { frames := 4, cells := 0, slots := 0, locals := 86 } G ttC tag L Fo [.ref p0, .int p1] (fun r F1 => ((-2147483648) ≤ r.toInt ∧ r.toInt ≤ 2147483647) ∧ (∀ b j : Nat, (tag b ≠ 22 ∨ j ≠ 2) → (tag b ≠ 26 ∨ j ≠ 13) → fld F1 b j = fld Fo b j)) := by
  refine t_bodyi (y := yX11_soonest) (cd := cX11_soonest) (mL := 2) (rt := (some .int)) (rm := { frames := 4, cells := 0, slots := 0, locals := 86 }) (av := [.ref p0, .int p1]) (by decide) (Nat.le_of_ble_eq_true rfl) ho ?_
  intro p e s m args below meth c ls A Q hQ X hT hl
  have hx := X.1.1
  have hb := X.1.2.1
  have hl : lv_has ls 2 [(0, .ref p0), (1, .int p1)] := hl
  have rp1 := rg_all p1
  obtain ⟨F, hFo⟩ : ∃ F : Nat → va_E, F = Fo := ⟨_, rfl⟩
  rw [← hFo] at hT
  have hfr : ∀ b j : Nat, (tag b ≠ 22 ∨ j ≠ 2) → (tag b ≠ 26 ∨ j ≠ 13) → fld F b j = fld Fo b j := by
    rw [hFo]
    intros
    rfl
  have K57 : ∀ (z48034 : Int32) (b48035 : Nat) (F : Nat → va_E) (H : Heap) (locs : List Loc) (ls : Array Slot), (b48035 ∈ L) → (tag b48035 = 26) → (0 ≤ p1.toInt ∧ p1.toInt ≤ 5) → TH G ttC A s tag L F H locs → (∀ b j : Nat, (tag b ≠ 22 ∨ j ≠ 2) → (tag b ≠ 26 ∨ j ≠ 13) → fld F b j = fld Fo b j) → lv_has ls 2 [(0, .ref p0), (1, .int p1)] → W p l e { frames := 4, cells := 0, slots := 0, locals := 86 } s m args below meth c H locs 0 0 Q (F0 m 57 ls [.int z48034, .ref b48035]) := by
    intro z48034 b48035 F H locs ls mb48035 gb48035 r9s48033 hT hfr hl
    have rz48034 := rg_all z48034
    refine t_cVi (n := 1) (C := RX11) (T := TX11) (N := 16) (As := [.int z48034]) (rest := []) X hT (kt56_X11_answer l G tag L F hT.2.2.2 b48035 z48034 mb48035 gb48035) mb48035 gb48035 rfl rfl qw_463 qw_464 qw_465 qw_2 qw_466 ⟨rfl, by decide +kernel, by decide +kernel, by decide +kernel⟩ ⟨Nat.le_of_ble_eq_true rfl, Nat.le_of_ble_eq_true rfl⟩ hl rfl rfl (Nat.le_of_ble_eq_true rfl) dX11_soonest_57 ⟨Nat.le_of_ble_eq_true rfl, Nat.le_of_ble_eq_true rfl⟩ (fun z48036 F H locs hT hz48036 => ?_)
    obtain ⟨hz48036, yz48036⟩ := hz48036
    have hfr : ∀ b j : Nat, (tag b ≠ 22 ∨ j ≠ 2) → (tag b ≠ 26 ∨ j ≠ 13) → fld F b j = fld Fo b j := fun b j n22_2 n26_13 => (yz48036 b j n26_13).trans (hfr b j n22_2 n26_13)
    exact t_iret hQ X hT (⟨rg_all _, hfr⟩) (Nat.le_of_ble_eq_true rfl) (Nat.le_of_ble_eq_true rfl) dX11_soonest_60
  refine lv_aload_n hx hb dX11_soonest_0 rfl (lv_at hl 0 rfl) ?_
  refine lv_iload_n hx hb dX11_soonest_1 rfl (lv_at hl 1 rfl) ?_
  refine t_cVi (n := 1) (C := RX11) (T := TX11) (N := 16) (As := [.int p1]) (rest := []) X hT (kt92_X11_isWall l G tag L F hT.2.2.2 p0 p1 m0 g0) m0 g0 rfl rfl qw_1379 qw_1380 qw_1381 qw_2 qw_1382 ⟨rfl, by decide +kernel, by decide +kernel, by decide +kernel⟩ ⟨Nat.le_of_ble_eq_true rfl, Nat.le_of_ble_eq_true rfl⟩ hl rfl rfl (Nat.le_of_ble_eq_true rfl) dX11_soonest_2 ⟨Nat.le_of_ble_eq_true rfl, Nat.le_of_ble_eq_true rfl⟩ (fun z48037 F9 H locs hT hz48037 => ?_)
  obtain ⟨fz48037, hz48037⟩ := hz48037
  rw [fz48037] at hT
  obtain ⟨hz48037, iz48037⟩ := hz48037
  refine lv_if_ne (tgt := 14) hx hb dX11_soonest_5 (by decide) (fun c48038 => ?_) (fun c48038 => ?_)
  · have w48039 := cv_ne (rfl : z48037.toInt = z48037.toInt) (by decide : (0 : Int32).toInt = 0) c48038
    have w48040 := (fun h => (iz48037 h)) (by omega)
    refine lv_aload_n hx hb dX11_soonest_14 rfl (lv_at hl 0 rfl) ?_
    refine t_get (C := RX11) (T := TX11) (N := 16) X hT m0 g0 rfl rfl 11 (by decide) qw_41 inlX11 rfl dX11_soonest_15 (fun v48041 hv48041 ov48041 => ?_)
    obtain ⟨b48042, rfl, mb48042, gb48042⟩ := okV_r ov48041
    have gb48042 : tag b48042 = 22 := tg_of gb48042
    refine lv_aload_n hx hb dX11_soonest_18 rfl (lv_at hl 0 rfl) ?_
    refine t_get (C := RX11) (T := TX11) (N := 16) X hT m0 g0 rfl rfl 3 (by decide) qw_18 inlX11 rfl dX11_soonest_19 (fun v48043 hv48043 ov48043 => ?_)
    obtain ⟨b48044, rfl, mb48044, gb48044⟩ := okV_r ov48043
    have gb48044 : tag b48044 = 18 := tg_of gb48044
    refine lv_aload_n hx hb dX11_soonest_22 rfl (lv_at hl 0 rfl) ?_
    refine t_get (C := RX11) (T := TX11) (N := 16) X hT m0 g0 rfl rfl 5 (by decide) qw_23 inlX11 rfl dX11_soonest_23 (fun v48045 hv48045 ov48045 => ?_)
    obtain ⟨b48046, rfl, mb48046, gb48046⟩ := okV_r ov48045
    have gb48046 : tag b48046 = 19 := tg_of gb48046
    refine t_get (C := RX7) (T := TX7) (N := 7) X hT mb48046 gb48046 rfl rfl 0 (by decide) qw_1225 inlX7 rfl dX11_soonest_26 (fun v48047 hv48047 ov48047 => ?_)
    obtain ⟨z48048, rfl, rz48048⟩ := okV_i ov48047
    refine t_cVv (n := 2) (C := RX9) (T := TX9) (N := 6) (As := [.ref b48044, .int z48048]) (rest := []) X hT (kt107_X9_lookAtAll l G tag L F hT.2.2.2 b48042 b48044 z48048 mb48042 gb48042 mb48044 gb48044) mb48042 gb48042 rfl rfl qw_1333 qw_1334 qw_1335 qw_40 qw_1336 ⟨rfl, by decide +kernel, by decide +kernel, by decide +kernel⟩ ⟨Nat.le_of_ble_eq_true rfl, Nat.le_of_ble_eq_true rfl⟩ hl rfl rfl (Nat.le_of_ble_eq_true rfl) dX11_soonest_29 ⟨Nat.le_of_ble_eq_true rfl, Nat.le_of_ble_eq_true rfl⟩ (fun F H locs hT hz48049 => ?_)
    have yz48049 := hz48049
    have hv48041 := (yz48049 _ 11 (Or.inr (by decide))).trans hv48041
    have hv48043 := (yz48049 _ 3 (Or.inr (by decide))).trans hv48043
    have hv48045 := (yz48049 _ 5 (Or.inr (by decide))).trans hv48045
    have hv48047 := (yz48049 _ 0 (Or.inr (by decide))).trans hv48047
    have hfr : ∀ b j : Nat, (tag b ≠ 22 ∨ j ≠ 2) → (tag b ≠ 26 ∨ j ≠ 13) → fld F b j = fld Fo b j := fun b j n22_2 n26_13 => (yz48049 b j n22_2).trans (hfr b j n22_2 n26_13)
    refine lv_aload_n hx hb dX11_soonest_32 rfl (lv_at hl 0 rfl) ?_
    refine lv_aload_n hx hb dX11_soonest_33 rfl (lv_at hl 0 rfl) ?_
    refine t_get (C := RX11) (T := TX11) (N := 16) X hT m0 g0 rfl rfl 11 (by decide) qw_41 inlX11 rfl dX11_soonest_34 (fun v48050 hv48050 ov48050 => ?_)
    obtain rfl : v48050 = .ref b48042 := hv48050.symm.trans hv48041
    refine t_get (C := RX9) (T := TX9) (N := 6) X hT mb48042 gb48042 rfl rfl 2 (by decide) qw_1332 inlX9 rfl dX11_soonest_37 (fun v48051 hv48051 ov48051 => ?_)
    obtain ⟨z48052, rfl, rz48052⟩ := okV_i ov48051
    refine lv_if_ne (tgt := 48) hx hb dX11_soonest_40 (by decide) (fun c48053 => ?_) (fun c48053 => ?_)
    · have w48054 := cv_ne (rfl : z48052.toInt = z48052.toInt) (by decide : (0 : Int32).toInt = 0) c48053
      refine lv_aload_n hx hb dX11_soonest_48 rfl (lv_at hl 0 rfl) ?_
      refine t_get (C := RX11) (T := TX11) (N := 16) X hT m0 g0 rfl rfl 11 (by decide) qw_41 inlX11 rfl dX11_soonest_49 (fun v48055 hv48055 ov48055 => ?_)
      obtain rfl : v48055 = .ref b48042 := hv48055.symm.trans hv48041
      refine t_get (C := RX9) (T := TX9) (N := 6) X hT mb48042 gb48042 rfl rfl 3 (by decide) qw_1400 inlX9 rfl dX11_soonest_52 (fun v48056 hv48056 ov48056 => ?_)
      obtain ⟨b48057, rfl, mb48057, gb48057⟩ := okV_r ov48056
      have gb48057 : tag b48057 = 7 := tg_of gb48057
      refine lv_iload_n hx hb dX11_soonest_55 rfl (lv_at hl 1 rfl) ?_
      refine t_ild X hT mb48057 gb48057 rfl (by omega) dX11_soonest_56 (fun z48058 vz48058 rz48058 => ?_)
      have rz48058 : (-2147483648) ≤ z48058.toInt ∧ z48058.toInt ≤ 2147483647 := rz48058
      exact K57 z48058 p0 _ _ _ _ m0 g0 (by omega) hT hfr  (lv_sub hl [0, 1] rfl)
    · have w48059 := cv_eq (rfl : z48052.toInt = z48052.toInt) (by decide : (0 : Int32).toInt = 0) c48053
      refine lv_bipush (v := (-2)) hx hb dX11_soonest_43 (by decide) ?_
      refine lv_goto (tgt := 57) hx hb dX11_soonest_45 (by decide) ?_
      exact K57 (-2) p0 _ _ _ _ m0 g0 (by omega) hT hfr  (lv_sub hl [0, 1] rfl)
  · have w48060 := cv_eq (rfl : z48037.toInt = z48037.toInt) (by decide : (0 : Int32).toInt = 0) c48038
    refine lv_aload_n hx hb dX11_soonest_8 rfl (lv_at hl 0 rfl) ?_
    refine lv_iconst (v := 1) hx hb dX11_soonest_9 (by decide) ?_
    refine t_cVi (n := 1) (C := RX11) (T := TX11) (N := 16) (As := [.int 1]) (rest := []) X hT (kt63_X11_refuse l G tag L F hT.2.2.2 p0 1 m0 g0) m0 g0 rfl rfl qw_152 qw_153 qw_154 qw_2 qw_155 ⟨rfl, by decide +kernel, by decide +kernel, by decide +kernel⟩ ⟨Nat.le_of_ble_eq_true rfl, Nat.le_of_ble_eq_true rfl⟩ hl rfl rfl (Nat.le_of_ble_eq_true rfl) dX11_soonest_10 ⟨Nat.le_of_ble_eq_true rfl, Nat.le_of_ble_eq_true rfl⟩ (fun z48061 F H locs hT hz48061 => ?_)
    obtain ⟨hz48061, yz48061⟩ := hz48061
    have hfr : ∀ b j : Nat, (tag b ≠ 22 ∨ j ≠ 2) → (tag b ≠ 26 ∨ j ≠ 13) → fld F b j = fld Fo b j := fun b j n22_2 n26_13 => (yz48061 b j n26_13).trans (hfr b j n22_2 n26_13)
    exact t_iret hQ X hT (⟨rg_all _, hfr⟩) (Nat.le_of_ble_eq_true rfl) (Nat.le_of_ble_eq_true rfl) dX11_soonest_13
set_option maxHeartbeats 4000000 in
set_option maxRecDepth 100000 in
theorem kt127_X11_stone (l : Launch) (G : KG) (tag : Nat → Nat) (L : List Nat) (Fo : Nat → va_E) (ho : okT G ttC tag L Fo) (p0 : Nat) (p1 : Int32) (p2 : Int32) (m0 : p0 ∈ L) (g0 : tag p0 = 26) : TMi l yX11_stone cX11_stone 3 (some .int) { frames := 1, cells := 0, slots := 0, locals := 23 } G ttC tag L Fo [.ref p0, .int p1, .int p2] (fun r F1 => ((-2147483648) ≤ r.toInt ∧ r.toInt ≤ 2147483647) ∧ (∀ b j : Nat, (tag b ≠ 26 ∨ j ≠ 13) → fld F1 b j = fld Fo b j)) := by
  refine t_bodyi (y := yX11_stone) (cd := cX11_stone) (mL := 3) (rt := (some .int)) (rm := { frames := 1, cells := 0, slots := 0, locals := 23 }) (av := [.ref p0, .int p1, .int p2]) (by decide) (Nat.le_of_ble_eq_true rfl) ho ?_
  intro p e s m args below meth c ls A Q hQ X hT hl
  have hx := X.1.1
  have hb := X.1.2.1
  have hl : lv_has ls 3 [(0, .ref p0), (1, .int p1), (2, .int p2)] := hl
  have rp1 := rg_all p1
  have rp2 := rg_all p2
  obtain ⟨F, hFo⟩ : ∃ F : Nat → va_E, F = Fo := ⟨_, rfl⟩
  rw [← hFo] at hT
  have hfr : ∀ b j : Nat, (tag b ≠ 26 ∨ j ≠ 13) → fld F b j = fld Fo b j := by
    rw [hFo]
    intros
    rfl
  have K17 : ∀  (F : Nat → va_E) (H : Heap) (locs : List Loc) (ls : Array Slot), TH G ttC A s tag L F H locs → (∀ b j : Nat, (tag b ≠ 26 ∨ j ≠ 13) → fld F b j = fld Fo b j) → lv_has ls 3 [(0, .ref p0), (1, .int p1), (2, .int p2)] → W p l e { frames := 1, cells := 0, slots := 0, locals := 23 } s m args below meth c H locs 0 0 Q (F0 m 17 ls []) := by
    intro F H locs ls hT hfr hl
    refine lv_aload_n hx hb dX11_stone_17 rfl (lv_at hl 0 rfl) ?_
    refine lv_iconst (v := 1) hx hb dX11_stone_18 (by decide) ?_
    refine t_cVi (n := 1) (C := RX11) (T := TX11) (N := 16) (As := [.int 1]) (rest := []) X hT (kt63_X11_refuse l G tag L F hT.2.2.2 p0 1 m0 g0) m0 g0 rfl rfl qw_152 qw_153 qw_154 qw_2 qw_155 ⟨rfl, by decide +kernel, by decide +kernel, by decide +kernel⟩ ⟨Nat.le_of_ble_eq_true rfl, Nat.le_of_ble_eq_true rfl⟩ hl rfl rfl (Nat.le_of_ble_eq_true rfl) dX11_stone_19 ⟨Nat.le_of_ble_eq_true rfl, Nat.le_of_ble_eq_true rfl⟩ (fun z48238 F H locs hT hz48238 => ?_)
    obtain ⟨hz48238, yz48238⟩ := hz48238
    have hfr : ∀ b j : Nat, (tag b ≠ 26 ∨ j ≠ 13) → fld F b j = fld Fo b j := fun b j n26_13 => (yz48238 b j n26_13).trans (hfr b j n26_13)
    exact t_iret hQ X hT (⟨rg_all _, hfr⟩) (Nat.le_of_ble_eq_true rfl) (Nat.le_of_ble_eq_true rfl) dX11_stone_22
  refine lv_aload_n hx hb dX11_stone_0 rfl (lv_at hl 0 rfl) ?_
  refine lv_iload_n hx hb dX11_stone_1 rfl (lv_at hl 1 rfl) ?_
  refine t_cVi (n := 1) (C := RX11) (T := TX11) (N := 16) (As := [.int p1]) (rest := []) X hT (kt65_X11_isStone l G tag L F hT.2.2.2 p0 p1 m0 g0) m0 g0 rfl rfl qw_954 qw_955 qw_956 qw_2 qw_957 ⟨rfl, by decide +kernel, by decide +kernel, by decide +kernel⟩ ⟨Nat.le_of_ble_eq_true rfl, Nat.le_of_ble_eq_true rfl⟩ hl rfl rfl (Nat.le_of_ble_eq_true rfl) dX11_stone_2 ⟨Nat.le_of_ble_eq_true rfl, Nat.le_of_ble_eq_true rfl⟩ (fun z48239 F9 H locs hT hz48239 => ?_)
  obtain ⟨fz48239, hz48239⟩ := hz48239
  rw [fz48239] at hT
  refine lv_if_eq (tgt := 17) hx hb dX11_stone_5 (by decide) (fun c48240 => ?_) (fun c48240 => ?_)
  · have w48241 := cv_eq (rfl : z48239.toInt = z48239.toInt) (by decide : (0 : Int32).toInt = 0) c48240
    exact K17  _ _ _ _  hT hfr  (lv_sub hl [0, 1, 2] rfl)
  · have w48242 := cv_ne (rfl : z48239.toInt = z48239.toInt) (by decide : (0 : Int32).toInt = 0) c48240
    refine lv_iload_n hx hb dX11_stone_8 rfl (lv_at hl 2 rfl) ?_
    refine lv_if_lt (tgt := 17) hx hb dX11_stone_9 (by decide) (fun c48243 => ?_) (fun c48243 => ?_)
    · have w48244 := cv_lt (rfl : p2.toInt = p2.toInt) (by decide : (0 : Int32).toInt = 0) c48243
      exact K17  _ _ _ _  hT hfr  (lv_sub hl [0, 1, 2] rfl)
    · have w48245 := cv_nlt (rfl : p2.toInt = p2.toInt) (by decide : (0 : Int32).toInt = 0) c48243
      refine lv_iload_n hx hb dX11_stone_12 rfl (lv_at hl 2 rfl) ?_
      refine lv_iconst (v := 5) hx hb dX11_stone_13 (by decide) ?_
      refine lv_icmp_lt (tgt := 23) hx hb dX11_stone_14 (by decide) (fun c48246 => ?_) (fun c48246 => ?_)
      · have w48247 := cv_lt (rfl : p2.toInt = p2.toInt) (by decide : (5 : Int32).toInt = 5) c48246
        refine lv_aload_n hx hb dX11_stone_23 rfl (lv_at hl 0 rfl) ?_
        refine lv_aload_n hx hb dX11_stone_24 rfl (lv_at hl 0 rfl) ?_
        refine t_get (C := RX11) (T := TX11) (N := 16) X hT m0 g0 rfl rfl 3 (by decide) qw_18 inlX11 rfl dX11_stone_25 (fun v48248 hv48248 ov48248 => ?_)
        obtain ⟨b48249, rfl, mb48249, gb48249⟩ := okV_r ov48248
        have gb48249 : tag b48249 = 18 := tg_of gb48249
        refine lv_iload_n hx hb dX11_stone_28 rfl (lv_at hl 1 rfl) ?_
        refine lv_iload_n hx hb dX11_stone_29 rfl (lv_at hl 2 rfl) ?_
        refine t_cVi (n := 2) (C := RX1) (T := TX1) (N := 20) (As := [.int p1, .int p2]) (rest := [.ref p0]) X hT (kt9_X1_stonePart l G tag L F hT.2.2.2 b48249 p1 p2 mb48249 gb48249) mb48249 gb48249 rfl rfl qw_857 qw_858 qw_859 qw_17 qw_860 ⟨rfl, by decide +kernel, by decide +kernel, by decide +kernel⟩ ⟨Nat.le_of_ble_eq_true rfl, Nat.le_of_ble_eq_true rfl⟩ hl rfl rfl (Nat.le_of_ble_eq_true rfl) dX11_stone_30 ⟨Nat.le_of_ble_eq_true rfl, Nat.le_of_ble_eq_true rfl⟩ (fun z48250 F9 H locs hT hz48250 => ?_)
        obtain ⟨fz48250, hz48250⟩ := hz48250
        rw [fz48250] at hT
        refine t_cVi (n := 1) (C := RX11) (T := TX11) (N := 16) (As := [.int z48250]) (rest := []) X hT (kt56_X11_answer l G tag L F hT.2.2.2 p0 z48250 m0 g0) m0 g0 rfl rfl qw_463 qw_464 qw_465 qw_2 qw_466 ⟨rfl, by decide +kernel, by decide +kernel, by decide +kernel⟩ ⟨Nat.le_of_ble_eq_true rfl, Nat.le_of_ble_eq_true rfl⟩ hl rfl rfl (Nat.le_of_ble_eq_true rfl) dX11_stone_33 ⟨Nat.le_of_ble_eq_true rfl, Nat.le_of_ble_eq_true rfl⟩ (fun z48251 F H locs hT hz48251 => ?_)
        obtain ⟨hz48251, yz48251⟩ := hz48251
        have hv48248 := (yz48251 _ 3 (Or.inr (by decide))).trans hv48248
        have hfr : ∀ b j : Nat, (tag b ≠ 26 ∨ j ≠ 13) → fld F b j = fld Fo b j := fun b j n26_13 => (yz48251 b j n26_13).trans (hfr b j n26_13)
        exact t_iret hQ X hT (⟨rg_all _, hfr⟩) (Nat.le_of_ble_eq_true rfl) (Nat.le_of_ble_eq_true rfl) dX11_stone_36
      · have w48252 := cv_nlt (rfl : p2.toInt = p2.toInt) (by decide : (5 : Int32).toInt = 5) c48246
        exact K17  _ _ _ _  hT hfr  (lv_sub hl [0, 1, 2] rfl)
set_option maxHeartbeats 4000000 in
set_option maxRecDepth 100000 in
theorem kt128_X11_surely (l : Launch) (G : KG) (tag : Nat → Nat) (L : List Nat) (Fo : Nat → va_E) (ho : okT G ttC tag L Fo) (p0 : Nat) (p1 : Int32) (p2 : Int32) (m0 : p0 ∈ L) (g0 : tag p0 = 26) : TMi l yX11_surely cX11_surely 4 (some .int) { frames := 4, cells := 0, slots := 0, locals := 86 } G ttC tag L Fo [.ref p0, .int p1, .int p2] (fun r F1 => ((-2147483648) ≤ r.toInt ∧ r.toInt ≤ 2147483647) ∧ (∀ b j : Nat, (tag b ≠ 22 ∨ j ≠ 2) → (tag b ≠ 26 ∨ j ≠ 13) → fld F1 b j = fld Fo b j)) := by
  refine t_bodyi (y := yX11_surely) (cd := cX11_surely) (mL := 4) (rt := (some .int)) (rm := { frames := 4, cells := 0, slots := 0, locals := 86 }) (av := [.ref p0, .int p1, .int p2]) (by decide) (Nat.le_of_ble_eq_true rfl) ho ?_
  intro p e s m args below meth c ls A Q hQ X hT hl
  have hx := X.1.1
  have hb := X.1.2.1
  have hl : lv_has ls 4 [(0, .ref p0), (1, .int p1), (2, .int p2)] := hl
  have rp1 := rg_all p1
  have rp2 := rg_all p2
  obtain ⟨F, hFo⟩ : ∃ F : Nat → va_E, F = Fo := ⟨_, rfl⟩
  rw [← hFo] at hT
  have hfr : ∀ b j : Nat, (tag b ≠ 22 ∨ j ≠ 2) → (tag b ≠ 26 ∨ j ≠ 13) → fld F b j = fld Fo b j := by
    rw [hFo]
    intros
    rfl
  have K21 : ∀  (F : Nat → va_E) (H : Heap) (locs : List Loc) (ls : Array Slot), TH G ttC A s tag L F H locs → (∀ b j : Nat, (tag b ≠ 22 ∨ j ≠ 2) → (tag b ≠ 26 ∨ j ≠ 13) → fld F b j = fld Fo b j) → lv_has ls 4 [(0, .ref p0), (1, .int p1), (2, .int p2)] → W p l e { frames := 4, cells := 0, slots := 0, locals := 86 } s m args below meth c H locs 0 0 Q (F0 m 21 ls []) := by
    intro F H locs ls hT hfr hl
    refine lv_aload_n hx hb dX11_surely_21 rfl (lv_at hl 0 rfl) ?_
    refine lv_iconst (v := 1) hx hb dX11_surely_22 (by decide) ?_
    refine t_cVi (n := 1) (C := RX11) (T := TX11) (N := 16) (As := [.int 1]) (rest := []) X hT (kt63_X11_refuse l G tag L F hT.2.2.2 p0 1 m0 g0) m0 g0 rfl rfl qw_152 qw_153 qw_154 qw_2 qw_155 ⟨rfl, by decide +kernel, by decide +kernel, by decide +kernel⟩ ⟨Nat.le_of_ble_eq_true rfl, Nat.le_of_ble_eq_true rfl⟩ hl rfl rfl (Nat.le_of_ble_eq_true rfl) dX11_surely_23 ⟨Nat.le_of_ble_eq_true rfl, Nat.le_of_ble_eq_true rfl⟩ (fun z48823 F H locs hT hz48823 => ?_)
    obtain ⟨hz48823, yz48823⟩ := hz48823
    have hfr : ∀ b j : Nat, (tag b ≠ 22 ∨ j ≠ 2) → (tag b ≠ 26 ∨ j ≠ 13) → fld F b j = fld Fo b j := fun b j n22_2 n26_13 => (yz48823 b j n26_13).trans (hfr b j n22_2 n26_13)
    exact t_iret hQ X hT (⟨rg_all _, hfr⟩) (Nat.le_of_ble_eq_true rfl) (Nat.le_of_ble_eq_true rfl) dX11_surely_26
  have K88 : ∀ (z48826 : Int32) (z48827 : Int32) (b48828 : Nat) (F : Nat → va_E) (H : Heap) (locs : List Loc) (ls : Array Slot), (0 ≤ z48826.toInt ∧ z48826.toInt ≤ 1) → (0 ≤ z48827.toInt ∧ z48827.toInt ≤ 1) → (b48828 ∈ L) → (tag b48828 = 26) → (0 ≤ p1.toInt ∧ p1.toInt ≤ 5) → (0 ≤ p2.toInt ∧ p2.toInt ≤ 5) → TH G ttC A s tag L F H locs → (∀ b j : Nat, (tag b ≠ 22 ∨ j ≠ 2) → (tag b ≠ 26 ∨ j ≠ 13) → fld F b j = fld Fo b j) → lv_has ls 4 [(0, .ref p0), (1, .int p1), (2, .int p2), (3, .int z48826)] → W p l e { frames := 4, cells := 0, slots := 0, locals := 86 } s m args below meth c H locs 0 0 Q (F0 m 88 ls [.int z48827, .ref b48828]) := by
    intro z48826 z48827 b48828 F H locs ls rz48826 rz48827 mb48828 gb48828 r9s48824 r9s48825 hT hfr hl
    refine t_cVi (n := 1) (C := RX11) (T := TX11) (N := 16) (As := [.int z48827]) (rest := []) X hT (kt56_X11_answer l G tag L F hT.2.2.2 b48828 z48827 mb48828 gb48828) mb48828 gb48828 rfl rfl qw_463 qw_464 qw_465 qw_2 qw_466 ⟨rfl, by decide +kernel, by decide +kernel, by decide +kernel⟩ ⟨Nat.le_of_ble_eq_true rfl, Nat.le_of_ble_eq_true rfl⟩ hl rfl rfl (Nat.le_of_ble_eq_true rfl) dX11_surely_88 ⟨Nat.le_of_ble_eq_true rfl, Nat.le_of_ble_eq_true rfl⟩ (fun z48829 F H locs hT hz48829 => ?_)
    obtain ⟨hz48829, yz48829⟩ := hz48829
    have hfr : ∀ b j : Nat, (tag b ≠ 22 ∨ j ≠ 2) → (tag b ≠ 26 ∨ j ≠ 13) → fld F b j = fld Fo b j := fun b j n22_2 n26_13 => (yz48829 b j n26_13).trans (hfr b j n22_2 n26_13)
    exact t_iret hQ X hT (⟨rg_all _, hfr⟩) (Nat.le_of_ble_eq_true rfl) (Nat.le_of_ble_eq_true rfl) dX11_surely_91
  have K87 : ∀ (z48832 : Int32) (b48833 : Nat) (F : Nat → va_E) (H : Heap) (locs : List Loc) (ls : Array Slot), (0 ≤ z48832.toInt ∧ z48832.toInt ≤ 1) → (b48833 ∈ L) → (tag b48833 = 26) → (0 ≤ p1.toInt ∧ p1.toInt ≤ 5) → (0 ≤ p2.toInt ∧ p2.toInt ≤ 5) → TH G ttC A s tag L F H locs → (∀ b j : Nat, (tag b ≠ 22 ∨ j ≠ 2) → (tag b ≠ 26 ∨ j ≠ 13) → fld F b j = fld Fo b j) → lv_has ls 4 [(0, .ref p0), (1, .int p1), (2, .int p2), (3, .int z48832)] → W p l e { frames := 4, cells := 0, slots := 0, locals := 86 } s m args below meth c H locs 0 0 Q (F0 m 87 ls [.ref b48833]) := by
    intro z48832 b48833 F H locs ls rz48832 mb48833 gb48833 r9s48830 r9s48831 hT hfr hl
    refine lv_iconst (v := 0) hx hb dX11_surely_87 (by decide) ?_
    exact K88 z48832 0 b48833 _ _ _ _ (by omega) (by decide) mb48833 gb48833 (by omega) (by omega) hT hfr  (lv_sub hl [0, 1, 2, 3] rfl)
  have K67 : ∀ (z48836 : Int32) (F : Nat → va_E) (H : Heap) (locs : List Loc) (ls : Array Slot), (0 ≤ z48836.toInt ∧ z48836.toInt ≤ 1) → (0 ≤ p1.toInt ∧ p1.toInt ≤ 5) → (0 ≤ p2.toInt ∧ p2.toInt ≤ 5) → TH G ttC A s tag L F H locs → (∀ b j : Nat, (tag b ≠ 22 ∨ j ≠ 2) → (tag b ≠ 26 ∨ j ≠ 13) → fld F b j = fld Fo b j) → lv_has ls 4 [(0, .ref p0), (1, .int p1), (2, .int p2)] → W p l e { frames := 4, cells := 0, slots := 0, locals := 86 } s m args below meth c H locs 0 0 Q (F0 m 67 ls [.int z48836]) := by
    intro z48836 F H locs ls rz48836 r9s48834 r9s48835 hT hfr hl
    refine lv_istore_n (lv' := [(3, .int z48836), (0, .ref p0), (1, .int p1), (2, .int p2)]) hx hb dX11_surely_67 rfl hl (by decide) rfl (fun ls hl => ?_)
    refine lv_aload_n hx hb dX11_surely_68 rfl (lv_at hl 1 rfl) ?_
    refine lv_aload_n hx hb dX11_surely_69 rfl (lv_at hl 1 rfl) ?_
    refine t_get (C := RX11) (T := TX11) (N := 16) X hT m0 g0 rfl rfl 11 (by decide) qw_41 inlX11 rfl dX11_surely_70 (fun v48837 hv48837 ov48837 => ?_)
    obtain ⟨b48838, rfl, mb48838, gb48838⟩ := okV_r ov48837
    have gb48838 : tag b48838 = 22 := tg_of gb48838
    refine t_get (C := RX9) (T := TX9) (N := 6) X hT mb48838 gb48838 rfl rfl 2 (by decide) qw_1332 inlX9 rfl dX11_surely_73 (fun v48839 hv48839 ov48839 => ?_)
    obtain ⟨z48840, rfl, rz48840⟩ := okV_i ov48839
    refine lv_if_le (tgt := 87) hx hb dX11_surely_76 (by decide) (fun c48841 => ?_) (fun c48841 => ?_)
    · have w48842 := cv_le (rfl : z48840.toInt = z48840.toInt) (by decide : (0 : Int32).toInt = 0) c48841
      exact K87 z48836 p0 _ _ _ _ (by omega) m0 g0 (by omega) (by omega) hT hfr  (lv_sub hl [1, 2, 3, 0] rfl)
    · have w48843 := cv_nle (rfl : z48840.toInt = z48840.toInt) (by decide : (0 : Int32).toInt = 0) c48841
      refine lv_iload_n hx hb dX11_surely_79 rfl (lv_at hl 0 rfl) ?_
      refine lv_if_eq (tgt := 87) hx hb dX11_surely_80 (by decide) (fun c48844 => ?_) (fun c48844 => ?_)
      · have w48845 := cv_eq (rfl : z48836.toInt = z48836.toInt) (by decide : (0 : Int32).toInt = 0) c48844
        exact K87 z48836 p0 _ _ _ _ (by omega) m0 g0 (by omega) (by omega) hT hfr  (lv_sub hl [1, 2, 3, 0] rfl)
      · have w48846 := cv_ne (rfl : z48836.toInt = z48836.toInt) (by decide : (0 : Int32).toInt = 0) c48844
        refine lv_iconst (v := 1) hx hb dX11_surely_83 (by decide) ?_
        refine lv_goto (tgt := 88) hx hb dX11_surely_84 (by decide) ?_
        exact K88 z48836 1 p0 _ _ _ _ (by omega) (by decide) m0 g0 (by omega) (by omega) hT hfr  (lv_sub hl [1, 2, 3, 0] rfl)
  refine lv_aload_n hx hb dX11_surely_0 rfl (lv_at hl 0 rfl) ?_
  refine lv_iload_n hx hb dX11_surely_1 rfl (lv_at hl 1 rfl) ?_
  refine t_cVi (n := 1) (C := RX11) (T := TX11) (N := 16) (As := [.int p1]) (rest := []) X hT (kt92_X11_isWall l G tag L F hT.2.2.2 p0 p1 m0 g0) m0 g0 rfl rfl qw_1379 qw_1380 qw_1381 qw_2 qw_1382 ⟨rfl, by decide +kernel, by decide +kernel, by decide +kernel⟩ ⟨Nat.le_of_ble_eq_true rfl, Nat.le_of_ble_eq_true rfl⟩ hl rfl rfl (Nat.le_of_ble_eq_true rfl) dX11_surely_2 ⟨Nat.le_of_ble_eq_true rfl, Nat.le_of_ble_eq_true rfl⟩ (fun z48847 F9 H locs hT hz48847 => ?_)
  obtain ⟨fz48847, hz48847⟩ := hz48847
  rw [fz48847] at hT
  obtain ⟨hz48847, iz48847⟩ := hz48847
  refine lv_if_eq (tgt := 21) hx hb dX11_surely_5 (by decide) (fun c48848 => ?_) (fun c48848 => ?_)
  · have w48849 := cv_eq (rfl : z48847.toInt = z48847.toInt) (by decide : (0 : Int32).toInt = 0) c48848
    exact K21  _ _ _ _  hT hfr  (lv_sub hl [0, 1, 2] rfl)
  · have w48850 := cv_ne (rfl : z48847.toInt = z48847.toInt) (by decide : (0 : Int32).toInt = 0) c48848
    have w48851 := (fun h => (iz48847 h)) (by omega)
    refine lv_aload_n hx hb dX11_surely_8 rfl (lv_at hl 0 rfl) ?_
    refine lv_iload_n hx hb dX11_surely_9 rfl (lv_at hl 2 rfl) ?_
    refine t_cVi (n := 1) (C := RX11) (T := TX11) (N := 16) (As := [.int p2]) (rest := []) X hT (kt92_X11_isWall l G tag L F hT.2.2.2 p0 p2 m0 g0) m0 g0 rfl rfl qw_1379 qw_1380 qw_1381 qw_2 qw_1382 ⟨rfl, by decide +kernel, by decide +kernel, by decide +kernel⟩ ⟨Nat.le_of_ble_eq_true rfl, Nat.le_of_ble_eq_true rfl⟩ hl rfl rfl (Nat.le_of_ble_eq_true rfl) dX11_surely_10 ⟨Nat.le_of_ble_eq_true rfl, Nat.le_of_ble_eq_true rfl⟩ (fun z48852 F9 H locs hT hz48852 => ?_)
    obtain ⟨fz48852, hz48852⟩ := hz48852
    rw [fz48852] at hT
    obtain ⟨hz48852, iz48852⟩ := hz48852
    refine lv_if_eq (tgt := 21) hx hb dX11_surely_13 (by decide) (fun c48853 => ?_) (fun c48853 => ?_)
    · have w48854 := cv_eq (rfl : z48852.toInt = z48852.toInt) (by decide : (0 : Int32).toInt = 0) c48853
      exact K21  _ _ _ _  hT hfr  (lv_sub hl [0, 1, 2] rfl)
    · have w48855 := cv_ne (rfl : z48852.toInt = z48852.toInt) (by decide : (0 : Int32).toInt = 0) c48853
      have w48856 := (fun h => (iz48852 h)) (by omega)
      refine lv_iload_n hx hb dX11_surely_16 rfl (lv_at hl 1 rfl) ?_
      refine lv_iload_n hx hb dX11_surely_17 rfl (lv_at hl 2 rfl) ?_
      refine lv_icmp_ne (tgt := 27) hx hb dX11_surely_18 (by decide) (fun c48857 => ?_) (fun c48857 => ?_)
      · have w48858 := cv_ne (rfl : p1.toInt = p1.toInt) (rfl : p2.toInt = p2.toInt) c48857
        refine lv_aload_n hx hb dX11_surely_27 rfl (lv_at hl 0 rfl) ?_
        refine t_get (C := RX11) (T := TX11) (N := 16) X hT m0 g0 rfl rfl 11 (by decide) qw_41 inlX11 rfl dX11_surely_28 (fun v48859 hv48859 ov48859 => ?_)
        obtain ⟨b48860, rfl, mb48860, gb48860⟩ := okV_r ov48859
        have gb48860 : tag b48860 = 22 := tg_of gb48860
        refine lv_aload_n hx hb dX11_surely_31 rfl (lv_at hl 0 rfl) ?_
        refine t_get (C := RX11) (T := TX11) (N := 16) X hT m0 g0 rfl rfl 3 (by decide) qw_18 inlX11 rfl dX11_surely_32 (fun v48861 hv48861 ov48861 => ?_)
        obtain ⟨b48862, rfl, mb48862, gb48862⟩ := okV_r ov48861
        have gb48862 : tag b48862 = 18 := tg_of gb48862
        refine lv_aload_n hx hb dX11_surely_35 rfl (lv_at hl 0 rfl) ?_
        refine t_get (C := RX11) (T := TX11) (N := 16) X hT m0 g0 rfl rfl 5 (by decide) qw_23 inlX11 rfl dX11_surely_36 (fun v48863 hv48863 ov48863 => ?_)
        obtain ⟨b48864, rfl, mb48864, gb48864⟩ := okV_r ov48863
        have gb48864 : tag b48864 = 19 := tg_of gb48864
        refine t_get (C := RX7) (T := TX7) (N := 7) X hT mb48864 gb48864 rfl rfl 0 (by decide) qw_1225 inlX7 rfl dX11_surely_39 (fun v48865 hv48865 ov48865 => ?_)
        obtain ⟨z48866, rfl, rz48866⟩ := okV_i ov48865
        refine t_cVv (n := 2) (C := RX9) (T := TX9) (N := 6) (As := [.ref b48862, .int z48866]) (rest := []) X hT (kt107_X9_lookAtAll l G tag L F hT.2.2.2 b48860 b48862 z48866 mb48860 gb48860 mb48862 gb48862) mb48860 gb48860 rfl rfl qw_1333 qw_1334 qw_1335 qw_40 qw_1336 ⟨rfl, by decide +kernel, by decide +kernel, by decide +kernel⟩ ⟨Nat.le_of_ble_eq_true rfl, Nat.le_of_ble_eq_true rfl⟩ hl rfl rfl (Nat.le_of_ble_eq_true rfl) dX11_surely_42 ⟨Nat.le_of_ble_eq_true rfl, Nat.le_of_ble_eq_true rfl⟩ (fun F H locs hT hz48867 => ?_)
        have yz48867 := hz48867
        have hv48859 := (yz48867 _ 11 (Or.inr (by decide))).trans hv48859
        have hv48861 := (yz48867 _ 3 (Or.inr (by decide))).trans hv48861
        have hv48863 := (yz48867 _ 5 (Or.inr (by decide))).trans hv48863
        have hv48865 := (yz48867 _ 0 (Or.inr (by decide))).trans hv48865
        have hfr : ∀ b j : Nat, (tag b ≠ 22 ∨ j ≠ 2) → (tag b ≠ 26 ∨ j ≠ 13) → fld F b j = fld Fo b j := fun b j n22_2 n26_13 => (yz48867 b j n22_2).trans (hfr b j n22_2 n26_13)
        refine lv_aload_n hx hb dX11_surely_45 rfl (lv_at hl 0 rfl) ?_
        refine t_get (C := RX11) (T := TX11) (N := 16) X hT m0 g0 rfl rfl 11 (by decide) qw_41 inlX11 rfl dX11_surely_46 (fun v48868 hv48868 ov48868 => ?_)
        obtain rfl : v48868 = .ref b48860 := hv48868.symm.trans hv48859
        refine t_get (C := RX9) (T := TX9) (N := 6) X hT mb48860 gb48860 rfl rfl 5 (by decide) qw_1418 inlX9 rfl dX11_surely_49 (fun v48869 hv48869 ov48869 => ?_)
        obtain ⟨b48870, rfl, mb48870, gb48870⟩ := okV_r ov48869
        have gb48870 : tag b48870 = 7 := tg_of gb48870
        refine lv_iload_n hx hb dX11_surely_52 rfl (lv_at hl 2 rfl) ?_
        refine t_ild X hT mb48870 gb48870 rfl (by omega) dX11_surely_53 (fun z48871 vz48871 rz48871 => ?_)
        have rz48871 : (-2147483648) ≤ z48871.toInt ∧ z48871.toInt ≤ 2147483647 := rz48871
        refine lv_iload_n hx hb dX11_surely_54 rfl (lv_at hl 1 rfl) ?_
        refine lv_ishr hx hb dX11_surely_55 ?_
        refine lv_topi (fun z48872 ez48872 => ?_)
        have rz48872 := rg_all z48872
        refine lv_iconst (v := 1) hx hb dX11_surely_56 (by decide) ?_
        refine lv_iand hx hb dX11_surely_57 ?_
        refine lv_topi (fun z48873 ez48873 => ?_)
        have rz48873 : 0 ≤ z48873.toInt ∧ z48873.toInt ≤ 1 := ar_and ez48873 1 (by decide) (by decide)
        refine lv_iconst (v := 1) hx hb dX11_surely_58 (by decide) ?_
        refine lv_icmp_ne (tgt := 66) hx hb dX11_surely_59 (by decide) (fun c48874 => ?_) (fun c48874 => ?_)
        · have w48875 := cv_ne (rfl : z48873.toInt = z48873.toInt) (by decide : (1 : Int32).toInt = 1) c48874
          refine lv_iconst (v := 0) hx hb dX11_surely_66 (by decide) ?_
          exact K67 0 _ _ _ _ (by decide) (by omega) (by omega) hT hfr  (lv_sub hl [0, 1, 2] rfl)
        · have w48876 := cv_eq (rfl : z48873.toInt = z48873.toInt) (by decide : (1 : Int32).toInt = 1) c48874
          refine lv_iconst (v := 1) hx hb dX11_surely_62 (by decide) ?_
          refine lv_goto (tgt := 67) hx hb dX11_surely_63 (by decide) ?_
          exact K67 1 _ _ _ _ (by decide) (by omega) (by omega) hT hfr  (lv_sub hl [0, 1, 2] rfl)
      · have w48877 := cv_eq (rfl : p1.toInt = p1.toInt) (rfl : p2.toInt = p2.toInt) c48857
        exact K21  _ _ _ _  hT hfr  (lv_sub hl [0, 1, 2] rfl)
