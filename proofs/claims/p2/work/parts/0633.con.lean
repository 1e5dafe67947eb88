set_option maxHeartbeats 4000000 in
set_option maxRecDepth 100000 in
theorem kt482_X11_land (l : Launch) (G : KG) (tag : Nat → Nat) (L : List Nat) (Fo : Nat → va_E) (ho : okT G ttC tag L Fo) (p0 : Nat) (p1 : Int32) (x0 : Nat) (x1 : Nat) (x2 : Nat) (x3 : Int32) (m0 : p0 ∈ L) (g0 : tag p0 = 26) (mx0 : x0 ∈ L) (gx0 : tag x0 = 25) (pf0 : fld Fo p0 8 = .ref x0) (mx1 : x1 ∈ L) (gx1 : tag x1 = 14) (pf1 : fld Fo x0 10 = .ref x1) (mx2 : x2 ∈ L) (gx2 : tag x2 = 15) (pf2 : fld Fo x0 11 = .ref x2) (hx3 : 0 ≤ x3.toInt ∧ x3.toInt ≤ 1000) (pf3 : fld Fo p0 1 = .int x3) (hrel : NSR Fo x1 x2) : TMi l yX11_land cX11_land 3 (some .int) { frames := 10, cells := 0, slots := 0, locals := 222 } G ttC tag L Fo [.ref p0, .int p1] (fun r F1 => ((-2147483648) ≤ r.toInt ∧ r.toInt ≤ 2147483647) ∧ (∀ b j : Nat, (tag b ≠ 18 ∨ j ≠ 0) → (tag b ≠ 18 ∨ j ≠ 1) → (tag b ≠ 18 ∨ j ≠ 2) → (tag b ≠ 18 ∨ j ≠ 3) → (tag b ≠ 18 ∨ j ≠ 4) → (tag b ≠ 18 ∨ j ≠ 5) → (tag b ≠ 18 ∨ j ≠ 6) → (tag b ≠ 18 ∨ j ≠ 8) → (tag b ≠ 18 ∨ j ≠ 10) → (tag b ≠ 18 ∨ j ≠ 14) → (tag b ≠ 18 ∨ j ≠ 16) → (tag b ≠ 19 ∨ j ≠ 0) → (tag b ≠ 19 ∨ j ≠ 1) → (tag b ≠ 23 ∨ j ≠ 3) → (tag b ≠ 23 ∨ j ≠ 4) → (tag b ≠ 24 ∨ j ≠ 0) → (tag b ≠ 24 ∨ j ≠ 1) → (tag b ≠ 24 ∨ j ≠ 2) → (tag b ≠ 24 ∨ j ≠ 3) → (tag b ≠ 24 ∨ j ≠ 4) → (tag b ≠ 24 ∨ j ≠ 5) → (tag b ≠ 24 ∨ j ≠ 6) → (tag b ≠ 24 ∨ j ≠ 7) → (tag b ≠ 25 ∨ j ≠ 1) → (tag b ≠ 25 ∨ j ≠ 2) → (tag b ≠ 25 ∨ j ≠ 3) → (tag b ≠ 25 ∨ j ≠ 4) → (tag b ≠ 25 ∨ j ≠ 5) → (tag b ≠ 25 ∨ j ≠ 6) → (tag b ≠ 25 ∨ j ≠ 7) → (tag b ≠ 25 ∨ j ≠ 8) → (tag b ≠ 25 ∨ j ≠ 12) → (tag b ≠ 26 ∨ j ≠ 1) → (tag b ≠ 26 ∨ j ≠ 2) → (tag b ≠ 26 ∨ j ≠ 3) → (tag b ≠ 26 ∨ j ≠ 4) → (tag b ≠ 26 ∨ j ≠ 13) → (tag b ≠ 26 ∨ j ≠ 14) → (tag b ≠ 26 ∨ j ≠ 15) → fld F1 b j = fld Fo b j) ∧ (NSR F1 x1 x2) ∧ (∃ z : Int32, fld F1 p0 1 = .int z ∧ ((0 ≤ p1.toInt ∧ p1.toInt ≤ x3.toInt) → z.toInt = 0) ∧ (¬ (0 ≤ p1.toInt ∧ p1.toInt ≤ x3.toInt) → z.toInt = x3.toInt))) := by
  refine t_bodyi (y := yX11_land) (cd := cX11_land) (mL := 3) (rt := (some .int)) (rm := { frames := 10, cells := 0, slots := 0, locals := 222 }) (av := [.ref p0, .int p1]) (by decide) (Nat.le_of_ble_eq_true rfl) ho ?_
  intro p e s m args below meth c ls A Q hQ X hT hl
  have hx := X.1.1
  have hb := X.1.2.1
  have hl : lv_has ls 3 [(0, .ref p0), (1, .int p1)] := hl
  have rp1 := rg_all p1
  obtain ⟨F, hFo⟩ : ∃ F : Nat → va_E, F = Fo := ⟨_, rfl⟩
  rw [← hFo] at hT pf0 pf1 pf2 pf3 hrel
  have hfr : ∀ b j : Nat, (tag b ≠ 18 ∨ j ≠ 0) → (tag b ≠ 18 ∨ j ≠ 1) → (tag b ≠ 18 ∨ j ≠ 2) → (tag b ≠ 18 ∨ j ≠ 3) → (tag b ≠ 18 ∨ j ≠ 4) → (tag b ≠ 18 ∨ j ≠ 5) → (tag b ≠ 18 ∨ j ≠ 6) → (tag b ≠ 18 ∨ j ≠ 8) → (tag b ≠ 18 ∨ j ≠ 10) → (tag b ≠ 18 ∨ j ≠ 14) → (tag b ≠ 18 ∨ j ≠ 16) → (tag b ≠ 19 ∨ j ≠ 0) → (tag b ≠ 19 ∨ j ≠ 1) → (tag b ≠ 23 ∨ j ≠ 3) → (tag b ≠ 23 ∨ j ≠ 4) → (tag b ≠ 24 ∨ j ≠ 0) → (tag b ≠ 24 ∨ j ≠ 1) → (tag b ≠ 24 ∨ j ≠ 2) → (tag b ≠ 24 ∨ j ≠ 3) → (tag b ≠ 24 ∨ j ≠ 4) → (tag b ≠ 24 ∨ j ≠ 5) → (tag b ≠ 24 ∨ j ≠ 6) → (tag b ≠ 24 ∨ j ≠ 7) → (tag b ≠ 25 ∨ j ≠ 1) → (tag b ≠ 25 ∨ j ≠ 2) → (tag b ≠ 25 ∨ j ≠ 3) → (tag b ≠ 25 ∨ j ≠ 4) → (tag b ≠ 25 ∨ j ≠ 5) → (tag b ≠ 25 ∨ j ≠ 6) → (tag b ≠ 25 ∨ j ≠ 7) → (tag b ≠ 25 ∨ j ≠ 8) → (tag b ≠ 25 ∨ j ≠ 12) → (tag b ≠ 26 ∨ j ≠ 1) → (tag b ≠ 26 ∨ j ≠ 2) → (tag b ≠ 26 ∨ j ≠ 3) → (tag b ≠ 26 ∨ j ≠ 4) → (tag b ≠ 26 ∨ j ≠ 13) → (tag b ≠ 26 ∨ j ≠ 14) → (tag b ≠ 26 ∨ j ≠ 15) → fld F b j = fld Fo b j := by
    rw [hFo]
    intros
    rfl
  refine lv_iload_n hx hb dX11_land_0 rfl (lv_at hl 1 rfl) ?_
  refine lv_if_lt (tgt := 12) hx hb dX11_land_1 (by decide) (fun c170985 => ?_) (fun c170985 => ?_)
  · have w170986 := cv_lt (rfl : p1.toInt = p1.toInt) (by decide : (0 : Int32).toInt = 0) c170985
    refine lv_aload_n hx hb dX11_land_12 rfl (lv_at hl 0 rfl) ?_
    refine lv_iconst (v := 2) hx hb dX11_land_13 (by decide) ?_
    refine t_cVi (n := 1) (C := RX11) (T := TX11) (N := 16) (As := [.int 2]) (rest := []) X hT (kt357_X11_refuse l G tag L F hT.2.2.2 p0 2 m0 g0) m0 g0 rfl rfl qw_152 qw_153 qw_154 qw_2 qw_155 ⟨rfl, by decide +kernel, by decide +kernel, by decide +kernel⟩ ⟨Nat.le_of_ble_eq_true rfl, Nat.le_of_ble_eq_true rfl⟩ hl rfl rfl (Nat.le_of_ble_eq_true rfl) dX11_land_14 ⟨Nat.le_of_ble_eq_true rfl, Nat.le_of_ble_eq_true rfl⟩ (fun z170987 F H locs hT hz170987 => ?_)
    obtain ⟨hz170987, yz170987⟩ := hz170987
    have pf0 := (yz170987.1 _ 8 (Or.inr (by decide))).trans pf0
    have pf1 := (yz170987.1 _ 10 (Or.inr (by decide))).trans pf1
    have pf2 := (yz170987.1 _ 11 (Or.inr (by decide))).trans pf2
    have pf3 := (yz170987.1 _ 1 (Or.inr (by decide))).trans pf3
    have hfr : ∀ b j : Nat, (tag b ≠ 18 ∨ j ≠ 0) → (tag b ≠ 18 ∨ j ≠ 1) → (tag b ≠ 18 ∨ j ≠ 2) → (tag b ≠ 18 ∨ j ≠ 3) → (tag b ≠ 18 ∨ j ≠ 4) → (tag b ≠ 18 ∨ j ≠ 5) → (tag b ≠ 18 ∨ j ≠ 6) → (tag b ≠ 18 ∨ j ≠ 8) → (tag b ≠ 18 ∨ j ≠ 10) → (tag b ≠ 18 ∨ j ≠ 14) → (tag b ≠ 18 ∨ j ≠ 16) → (tag b ≠ 19 ∨ j ≠ 0) → (tag b ≠ 19 ∨ j ≠ 1) → (tag b ≠ 23 ∨ j ≠ 3) → (tag b ≠ 23 ∨ j ≠ 4) → (tag b ≠ 24 ∨ j ≠ 0) → (tag b ≠ 24 ∨ j ≠ 1) → (tag b ≠ 24 ∨ j ≠ 2) → (tag b ≠ 24 ∨ j ≠ 3) → (tag b ≠ 24 ∨ j ≠ 4) → (tag b ≠ 24 ∨ j ≠ 5) → (tag b ≠ 24 ∨ j ≠ 6) → (tag b ≠ 24 ∨ j ≠ 7) → (tag b ≠ 25 ∨ j ≠ 1) → (tag b ≠ 25 ∨ j ≠ 2) → (tag b ≠ 25 ∨ j ≠ 3) → (tag b ≠ 25 ∨ j ≠ 4) → (tag b ≠ 25 ∨ j ≠ 5) → (tag b ≠ 25 ∨ j ≠ 6) → (tag b ≠ 25 ∨ j ≠ 7) → (tag b ≠ 25 ∨ j ≠ 8) → (tag b ≠ 25 ∨ j ≠ 12) → (tag b ≠ 26 ∨ j ≠ 1) → (tag b ≠ 26 ∨ j ≠ 2) → (tag b ≠ 26 ∨ j ≠ 3) → (tag b ≠ 26 ∨ j ≠ 4) → (tag b ≠ 26 ∨ j ≠ 13) → (tag b ≠ 26 ∨ j ≠ 14) → (tag b ≠ 26 ∨ j ≠ 15) → fld F b j = fld Fo b j := fun b j n18_0 n18_1 n18_2 n18_3 n18_4 n18_5 n18_6 n18_8 n18_10 n18_14 n18_16 n19_0 n19_1 n23_3 n23_4 n24_0 n24_1 n24_2 n24_3 n24_4 n24_5 n24_6 n24_7 n25_1 n25_2 n25_3 n25_4 n25_5 n25_6 n25_7 n25_8 n25_12 n26_1 n26_2 n26_3 n26_4 n26_13 n26_14 n26_15 => (yz170987.1 b j n26_13).trans (hfr b j n18_0 n18_1 n18_2 n18_3 n18_4 n18_5 n18_6 n18_8 n18_10 n18_14 n18_16 n19_0 n19_1 n23_3 n23_4 n24_0 n24_1 n24_2 n24_3 n24_4 n24_5 n24_6 n24_7 n25_1 n25_2 n25_3 n25_4 n25_5 n25_6 n25_7 n25_8 n25_12 n26_1 n26_2 n26_3 n26_4 n26_13 n26_14 n26_15)
    have hrel := nsr_of (fun j => yz170987.2 _ j (Or.inl gx1)) (fun j => yz170987.2 _ j (Or.inr gx2)) hrel
    exact t_iret hQ X hT (⟨rg_all _, hfr, hrel, ⟨_, pf3, by omega, by omega⟩⟩) (Nat.le_of_ble_eq_true rfl) (Nat.le_of_ble_eq_true rfl) dX11_land_17
  · have w170988 := cv_nlt (rfl : p1.toInt = p1.toInt) (by decide : (0 : Int32).toInt = 0) c170985
    refine lv_iload_n hx hb dX11_land_4 rfl (lv_at hl 1 rfl) ?_
    refine lv_aload_n hx hb dX11_land_5 rfl (lv_at hl 0 rfl) ?_
    refine t_get (C := RX11) (T := TX11) (N := 16) X hT m0 g0 rfl rfl 1 (by decide) qw_131 inlX11 rfl dX11_land_6 (fun v170989 hv170989 ov170989 => ?_)
    obtain rfl : v170989 = .int x3 := hv170989.symm.trans pf3
    refine lv_icmp_le (tgt := 18) hx hb dX11_land_9 (by decide) (fun c170990 => ?_) (fun c170990 => ?_)
    · have w170991 := cv_le (rfl : p1.toInt = p1.toInt) (rfl : x3.toInt = x3.toInt) c170990
      refine lv_aload_n hx hb dX11_land_18 rfl (lv_at hl 0 rfl) ?_
      refine lv_iconst (v := 0) hx hb dX11_land_19 (by decide) ?_
      refine t_put (C := RX11) (T := TX11) (N := 16) (v := .int 0) X hT m0 g0 rfl tyX11 tyX11_ok nmX11 rfl 1 (by decide) qw_131 inlX11 rfl (by first | rfl | decide) (by first | rfl | decide) rfl (⟨_, rfl, (show 0 ≤ (0 : Int32).toInt from (by decide)), (show (0 : Int32).toInt ≤ 1000 from (by decide))⟩) dX11_land_20 (fun F H locs hT v170992 h1v170992 h2v170992 => ?_)
      have pf0 := (h1v170992 _ _ (Or.inr (by decide))).trans pf0
      have pf1 := (h1v170992 _ _ (Or.inr (by decide))).trans pf1
      have pf2 := (h1v170992 _ _ (Or.inr (by decide))).trans pf2
      have hfr : ∀ b j : Nat, (tag b ≠ 18 ∨ j ≠ 0) → (tag b ≠ 18 ∨ j ≠ 1) → (tag b ≠ 18 ∨ j ≠ 2) → (tag b ≠ 18 ∨ j ≠ 3) → (tag b ≠ 18 ∨ j ≠ 4) → (tag b ≠ 18 ∨ j ≠ 5) → (tag b ≠ 18 ∨ j ≠ 6) → (tag b ≠ 18 ∨ j ≠ 8) → (tag b ≠ 18 ∨ j ≠ 10) → (tag b ≠ 18 ∨ j ≠ 14) → (tag b ≠ 18 ∨ j ≠ 16) → (tag b ≠ 19 ∨ j ≠ 0) → (tag b ≠ 19 ∨ j ≠ 1) → (tag b ≠ 23 ∨ j ≠ 3) → (tag b ≠ 23 ∨ j ≠ 4) → (tag b ≠ 24 ∨ j ≠ 0) → (tag b ≠ 24 ∨ j ≠ 1) → (tag b ≠ 24 ∨ j ≠ 2) → (tag b ≠ 24 ∨ j ≠ 3) → (tag b ≠ 24 ∨ j ≠ 4) → (tag b ≠ 24 ∨ j ≠ 5) → (tag b ≠ 24 ∨ j ≠ 6) → (tag b ≠ 24 ∨ j ≠ 7) → (tag b ≠ 25 ∨ j ≠ 1) → (tag b ≠ 25 ∨ j ≠ 2) → (tag b ≠ 25 ∨ j ≠ 3) → (tag b ≠ 25 ∨ j ≠ 4) → (tag b ≠ 25 ∨ j ≠ 5) → (tag b ≠ 25 ∨ j ≠ 6) → (tag b ≠ 25 ∨ j ≠ 7) → (tag b ≠ 25 ∨ j ≠ 8) → (tag b ≠ 25 ∨ j ≠ 12) → (tag b ≠ 26 ∨ j ≠ 1) → (tag b ≠ 26 ∨ j ≠ 2) → (tag b ≠ 26 ∨ j ≠ 3) → (tag b ≠ 26 ∨ j ≠ 4) → (tag b ≠ 26 ∨ j ≠ 13) → (tag b ≠ 26 ∨ j ≠ 14) → (tag b ≠ 26 ∨ j ≠ 15) → fld F b j = fld Fo b j := fun b j n18_0 n18_1 n18_2 n18_3 n18_4 n18_5 n18_6 n18_8 n18_10 n18_14 n18_16 n19_0 n19_1 n23_3 n23_4 n24_0 n24_1 n24_2 n24_3 n24_4 n24_5 n24_6 n24_7 n25_1 n25_2 n25_3 n25_4 n25_5 n25_6 n25_7 n25_8 n25_12 n26_1 n26_2 n26_3 n26_4 n26_13 n26_14 n26_15 => (h1v170992 b j (fr_ne g0 n26_1)).trans (hfr b j n18_0 n18_1 n18_2 n18_3 n18_4 n18_5 n18_6 n18_8 n18_10 n18_14 n18_16 n19_0 n19_1 n23_3 n23_4 n24_0 n24_1 n24_2 n24_3 n24_4 n24_5 n24_6 n24_7 n25_1 n25_2 n25_3 n25_4 n25_5 n25_6 n25_7 n25_8 n25_12 n26_1 n26_2 n26_3 n26_4 n26_13 n26_14 n26_15)
      have hrel := nsr_of (fun j => h2v170992 _ j) (fun j => h2v170992 _ j) hrel
      refine lv_aload_n hx hb dX11_land_23 rfl (lv_at hl 0 rfl) ?_
      refine t_get (C := RX11) (T := TX11) (N := 16) X hT m0 g0 rfl rfl 8 (by decide) qw_29 inlX11 rfl dX11_land_24 (fun v170993 hv170993 ov170993 => ?_)
      obtain rfl : v170993 = .ref x0 := hv170993.symm.trans pf0
      refine lv_aload_n hx hb dX11_land_27 rfl (lv_at hl 0 rfl) ?_
      refine t_get (C := RX11) (T := TX11) (N := 16) X hT m0 g0 rfl rfl 0 (by decide) qw_14 inlX11 rfl dX11_land_28 (fun v170994 hv170994 ov170994 => ?_)
      obtain ⟨b170995, rfl, mb170995, gb170995⟩ := okV_r ov170994
      have gb170995 : tag b170995 = 1 := tg_of gb170995
      refine lv_iload_n hx hb dX11_land_31 rfl (lv_at hl 1 rfl) ?_
      refine lv_aload_n hx hb dX11_land_32 rfl (lv_at hl 0 rfl) ?_
      refine t_get (C := RX11) (T := TX11) (N := 16) X hT m0 g0 rfl rfl 4 (by decide) qw_19 inlX11 rfl dX11_land_33 (fun v170996 hv170996 ov170996 => ?_)
      obtain ⟨b170997, rfl, mb170997, gb170997⟩ := okV_r ov170996
      have gb170997 : tag b170997 = 18 := tg_of gb170997
      refine lv_aload_n hx hb dX11_land_36 rfl (lv_at hl 0 rfl) ?_
      refine t_get (C := RX11) (T := TX11) (N := 16) X hT m0 g0 rfl rfl 6 (by decide) qw_24 inlX11 rfl dX11_land_37 (fun v170998 hv170998 ov170998 => ?_)
      obtain ⟨b170999, rfl, mb170999, gb170999⟩ := okV_r ov170998
      have gb170999 : tag b170999 = 19 := tg_of gb170999
      refine t_cVv (n := 4) (C := RX3) (T := TX3) (N := 13) (As := [.ref b170995, .int p1, .ref b170997, .ref b170999]) (rest := []) X hT (kt481_X3_readAll l G tag L F hT.2.2.2 x0 b170995 p1 b170997 b170999 x1 x2 mx0 gx0 mb170995 gb170995 (by omega) mb170997 gb170997 mb170999 gb170999 mx1 gx1 pf1 mx2 gx2 pf2 hrel) mx0 gx0 rfl rfl qw_157 qw_158 qw_159 qw_28 qw_160 ⟨rfl, by decide +kernel, by decide +kernel, by decide +kernel⟩ ⟨Nat.le_of_ble_eq_true rfl, Nat.le_of_ble_eq_true rfl⟩ hl rfl rfl (Nat.le_of_ble_eq_true rfl) dX11_land_40 ⟨Nat.le_of_ble_eq_true rfl, Nat.le_of_ble_eq_true rfl⟩ (fun F H locs hT hz171000 => ?_)
      obtain ⟨yz171000, hrel⟩ := hz171000
      have pf0 := (yz171000 _ 8 (Or.inr (by decide)) (Or.inr (by decide)) (Or.inr (by decide)) (Or.inr (by decide)) (Or.inr (by decide)) (Or.inr (by decide)) (Or.inr (by decide)) (Or.inl (by rw [g0]; decide)) (Or.inr (by decide)) (Or.inr (by decide)) (Or.inr (by decide)) (Or.inr (by decide)) (Or.inr (by decide)) (Or.inr (by decide)) (Or.inr (by decide)) (Or.inr (by decide)) (Or.inr (by decide)) (Or.inr (by decide)) (Or.inr (by decide)) (Or.inr (by decide)) (Or.inr (by decide)) (Or.inr (by decide)) (Or.inr (by decide)) (Or.inr (by decide)) (Or.inr (by decide)) (Or.inr (by decide)) (Or.inr (by decide)) (Or.inr (by decide)) (Or.inl (by rw [g0]; decide)) (Or.inr (by decide))).trans pf0
      have pf1 := (yz171000 _ 10 (Or.inr (by decide)) (Or.inr (by decide)) (Or.inr (by decide)) (Or.inr (by decide)) (Or.inr (by decide)) (Or.inr (by decide)) (Or.inr (by decide)) (Or.inr (by decide)) (Or.inl (by rw [gx0]; decide)) (Or.inr (by decide)) (Or.inr (by decide)) (Or.inr (by decide)) (Or.inr (by decide)) (Or.inr (by decide)) (Or.inr (by decide)) (Or.inr (by decide)) (Or.inr (by decide)) (Or.inr (by decide)) (Or.inr (by decide)) (Or.inr (by decide)) (Or.inr (by decide)) (Or.inr (by decide)) (Or.inr (by decide)) (Or.inr (by decide)) (Or.inr (by decide)) (Or.inr (by decide)) (Or.inr (by decide)) (Or.inr (by decide)) (Or.inr (by decide)) (Or.inr (by decide))).trans pf1
      have pf2 := (yz171000 _ 11 (Or.inr (by decide)) (Or.inr (by decide)) (Or.inr (by decide)) (Or.inr (by decide)) (Or.inr (by decide)) (Or.inr (by decide)) (Or.inr (by decide)) (Or.inr (by decide)) (Or.inr (by decide)) (Or.inr (by decide)) (Or.inr (by decide)) (Or.inr (by decide)) (Or.inr (by decide)) (Or.inr (by decide)) (Or.inr (by decide)) (Or.inr (by decide)) (Or.inr (by decide)) (Or.inr (by decide)) (Or.inr (by decide)) (Or.inr (by decide)) (Or.inr (by decide)) (Or.inr (by decide)) (Or.inr (by decide)) (Or.inr (by decide)) (Or.inr (by decide)) (Or.inr (by decide)) (Or.inr (by decide)) (Or.inr (by decide)) (Or.inr (by decide)) (Or.inr (by decide))).trans pf2
      have v170992 := (yz171000 _ 1 (Or.inr (by decide)) (Or.inl (by rw [g0]; decide)) (Or.inr (by decide)) (Or.inr (by decide)) (Or.inr (by decide)) (Or.inr (by decide)) (Or.inr (by decide)) (Or.inr (by decide)) (Or.inr (by decide)) (Or.inr (by decide)) (Or.inr (by decide)) (Or.inr (by decide)) (Or.inl (by rw [g0]; decide)) (Or.inr (by decide)) (Or.inl (by rw [g0]; decide)) (Or.inr (by decide)) (Or.inr (by decide)) (Or.inr (by decide)) (Or.inr (by decide)) (Or.inr (by decide)) (Or.inr (by decide)) (Or.inl (by rw [g0]; decide)) (Or.inr (by decide)) (Or.inr (by decide)) (Or.inr (by decide)) (Or.inr (by decide)) (Or.inr (by decide)) (Or.inr (by decide)) (Or.inr (by decide)) (Or.inr (by decide))).trans v170992
      have hv170994 := (yz171000 _ 0 (Or.inl (by rw [g0]; decide)) (Or.inr (by decide)) (Or.inr (by decide)) (Or.inr (by decide)) (Or.inr (by decide)) (Or.inr (by decide)) (Or.inr (by decide)) (Or.inr (by decide)) (Or.inr (by decide)) (Or.inr (by decide)) (Or.inr (by decide)) (Or.inl (by rw [g0]; decide)) (Or.inr (by decide)) (Or.inl (by rw [g0]; decide)) (Or.inr (by decide)) (Or.inr (by decide)) (Or.inr (by decide)) (Or.inr (by decide)) (Or.inr (by decide)) (Or.inr (by decide)) (Or.inr (by decide)) (Or.inr (by decide)) (Or.inr (by decide)) (Or.inr (by decide)) (Or.inr (by decide)) (Or.inr (by decide)) (Or.inr (by decide)) (Or.inr (by decide)) (Or.inr (by decide)) (Or.inr (by decide))).trans hv170994
      have hv170996 := (yz171000 _ 4 (Or.inr (by decide)) (Or.inr (by decide)) (Or.inr (by decide)) (Or.inr (by decide)) (Or.inl (by rw [g0]; decide)) (Or.inr (by decide)) (Or.inr (by decide)) (Or.inr (by decide)) (Or.inr (by decide)) (Or.inr (by decide)) (Or.inr (by decide)) (Or.inr (by decide)) (Or.inr (by decide)) (Or.inr (by decide)) (Or.inr (by decide)) (Or.inr (by decide)) (Or.inr (by decide)) (Or.inl (by rw [g0]; decide)) (Or.inr (by decide)) (Or.inr (by decide)) (Or.inr (by decide)) (Or.inr (by decide)) (Or.inr (by decide)) (Or.inr (by decide)) (Or.inl (by rw [g0]; decide)) (Or.inr (by decide)) (Or.inr (by decide)) (Or.inr (by decide)) (Or.inr (by decide)) (Or.inr (by decide))).trans hv170996
      have hv170998 := (yz171000 _ 6 (Or.inr (by decide)) (Or.inr (by decide)) (Or.inr (by decide)) (Or.inr (by decide)) (Or.inr (by decide)) (Or.inr (by decide)) (Or.inl (by rw [g0]; decide)) (Or.inr (by decide)) (Or.inr (by decide)) (Or.inr (by decide)) (Or.inr (by decide)) (Or.inr (by decide)) (Or.inr (by decide)) (Or.inr (by decide)) (Or.inr (by decide)) (Or.inr (by decide)) (Or.inr (by decide)) (Or.inr (by decide)) (Or.inr (by decide)) (Or.inl (by rw [g0]; decide)) (Or.inr (by decide)) (Or.inr (by decide)) (Or.inr (by decide)) (Or.inr (by decide)) (Or.inr (by decide)) (Or.inr (by decide)) (Or.inl (by rw [g0]; decide)) (Or.inr (by decide)) (Or.inr (by decide)) (Or.inr (by decide))).trans hv170998
      have hfr : ∀ b j : Nat, (tag b ≠ 18 ∨ j ≠ 0) → (tag b ≠ 18 ∨ j ≠ 1) → (tag b ≠ 18 ∨ j ≠ 2) → (tag b ≠ 18 ∨ j ≠ 3) → (tag b ≠ 18 ∨ j ≠ 4) → (tag b ≠ 18 ∨ j ≠ 5) → (tag b ≠ 18 ∨ j ≠ 6) → (tag b ≠ 18 ∨ j ≠ 8) → (tag b ≠ 18 ∨ j ≠ 10) → (tag b ≠ 18 ∨ j ≠ 14) → (tag b ≠ 18 ∨ j ≠ 16) → (tag b ≠ 19 ∨ j ≠ 0) → (tag b ≠ 19 ∨ j ≠ 1) → (tag b ≠ 23 ∨ j ≠ 3) → (tag b ≠ 23 ∨ j ≠ 4) → (tag b ≠ 24 ∨ j ≠ 0) → (tag b ≠ 24 ∨ j ≠ 1) → (tag b ≠ 24 ∨ j ≠ 2) → (tag b ≠ 24 ∨ j ≠ 3) → (tag b ≠ 24 ∨ j ≠ 4) → (tag b ≠ 24 ∨ j ≠ 5) → (tag b ≠ 24 ∨ j ≠ 6) → (tag b ≠ 24 ∨ j ≠ 7) → (tag b ≠ 25 ∨ j ≠ 1) → (tag b ≠ 25 ∨ j ≠ 2) → (tag b ≠ 25 ∨ j ≠ 3) → (tag b ≠ 25 ∨ j ≠ 4) → (tag b ≠ 25 ∨ j ≠ 5) → (tag b ≠ 25 ∨ j ≠ 6) → (tag b ≠ 25 ∨ j ≠ 7) → (tag b ≠ 25 ∨ j ≠ 8) → (tag b ≠ 25 ∨ j ≠ 12) → (tag b ≠ 26 ∨ j ≠ 1) → (tag b ≠ 26 ∨ j ≠ 2) → (tag b ≠ 26 ∨ j ≠ 3) → (tag b ≠ 26 ∨ j ≠ 4) → (tag b ≠ 26 ∨ j ≠ 13) → (tag b ≠ 26 ∨ j ≠ 14) → (tag b ≠ 26 ∨ j ≠ 15) → fld F b j = fld Fo b j := fun b j n18_0 n18_1 n18_2 n18_3 n18_4 n18_5 n18_6 n18_8 n18_10 n18_14 n18_16 n19_0 n19_1 n23_3 n23_4 n24_0 n24_1 n24_2 n24_3 n24_4 n24_5 n24_6 n24_7 n25_1 n25_2 n25_3 n25_4 n25_5 n25_6 n25_7 n25_8 n25_12 n26_1 n26_2 n26_3 n26_4 n26_13 n26_14 n26_15 => (yz171000 b j n18_0 n18_1 n18_2 n18_3 n18_4 n18_5 n18_6 n18_8 n18_10 n18_14 n18_16 n19_0 n19_1 n24_0 n24_1 n24_2 n24_3 n24_4 n24_5 n24_6 n24_7 n25_1 n25_2 n25_3 n25_4 n25_5 n25_6 n25_7 n25_8 n25_12).trans (hfr b j n18_0 n18_1 n18_2 n18_3 n18_4 n18_5 n18_6 n18_8 n18_10 n18_14 n18_16 n19_0 n19_1 n23_3 n23_4 n24_0 n24_1 n24_2 n24_3 n24_4 n24_5 n24_6 n24_7 n25_1 n25_2 n25_3 n25_4 n25_5 n25_6 n25_7 n25_8 n25_12 n26_1 n26_2 n26_3 n26_4 n26_13 n26_14 n26_15)
      refine lv_aload_n hx hb dX11_land_43 rfl (lv_at hl 0 rfl) ?_
      refine lv_aload_n hx hb dX11_land_44 rfl (lv_at hl 0 rfl) ?_
      refine t_get (C := RX11) (T := TX11) (N := 16) X hT m0 g0 rfl rfl 8 (by decide) qw_29 inlX11 rfl dX11_land_45 (fun v171001 hv171001 ov171001 => ?_)
      obtain rfl : v171001 = .ref x0 := hv171001.symm.trans pf0
      refine t_get (C := RX3) (T := TX3) (N := 13) X hT mx0 gx0 rfl rfl 3 (by decide) qw_146 inlX3 rfl dX11_land_48 (fun v171002 hv171002 ov171002 => ?_)
      obtain ⟨z171003, rfl, rz171003⟩ := okV_i ov171002
      refine t_put (C := RX11) (T := TX11) (N := 16) (v := .int z171003) X hT m0 g0 rfl tyX11 tyX11_ok nmX11 rfl 14 (by decide) qw_147 inlX11 rfl (by first | rfl | decide) (by first | rfl | decide) rfl (⟨_, rfl, (show (-2147483648) ≤ (z171003 : Int32).toInt from (by omega)), (show (z171003 : Int32).toInt ≤ 2147483647 from (by omega))⟩) dX11_land_51 (fun F H locs hT v171004 h1v171004 h2v171004 => ?_)
      have pf0 := (h1v171004 _ _ (Or.inr (by decide))).trans pf0
      have pf1 := (h1v171004 _ _ (Or.inr (by decide))).trans pf1
      have pf2 := (h1v171004 _ _ (Or.inr (by decide))).trans pf2
      have v170992 := (h1v171004 _ _ (Or.inr (by decide))).trans v170992
      have hv170994 := (h1v171004 _ _ (Or.inr (by decide))).trans hv170994
      have hv170996 := (h1v171004 _ _ (Or.inr (by decide))).trans hv170996
      have hv170998 := (h1v171004 _ _ (Or.inr (by decide))).trans hv170998
      have hv171002 := (h1v171004 _ _ (Or.inr (by decide))).trans hv171002
      have hfr : ∀ b j : Nat, (tag b ≠ 18 ∨ j ≠ 0) → (tag b ≠ 18 ∨ j ≠ 1) → (tag b ≠ 18 ∨ j ≠ 2) → (tag b ≠ 18 ∨ j ≠ 3) → (tag b ≠ 18 ∨ j ≠ 4) → (tag b ≠ 18 ∨ j ≠ 5) → (tag b ≠ 18 ∨ j ≠ 6) → (tag b ≠ 18 ∨ j ≠ 8) → (tag b ≠ 18 ∨ j ≠ 10) → (tag b ≠ 18 ∨ j ≠ 14) → (tag b ≠ 18 ∨ j ≠ 16) → (tag b ≠ 19 ∨ j ≠ 0) → (tag b ≠ 19 ∨ j ≠ 1) → (tag b ≠ 23 ∨ j ≠ 3) → (tag b ≠ 23 ∨ j ≠ 4) → (tag b ≠ 24 ∨ j ≠ 0) → (tag b ≠ 24 ∨ j ≠ 1) → (tag b ≠ 24 ∨ j ≠ 2) → (tag b ≠ 24 ∨ j ≠ 3) → (tag b ≠ 24 ∨ j ≠ 4) → (tag b ≠ 24 ∨ j ≠ 5) → (tag b ≠ 24 ∨ j ≠ 6) → (tag b ≠ 24 ∨ j ≠ 7) → (tag b ≠ 25 ∨ j ≠ 1) → (tag b ≠ 25 ∨ j ≠ 2) → (tag b ≠ 25 ∨ j ≠ 3) → (tag b ≠ 25 ∨ j ≠ 4) → (tag b ≠ 25 ∨ j ≠ 5) → (tag b ≠ 25 ∨ j ≠ 6) → (tag b ≠ 25 ∨ j ≠ 7) → (tag b ≠ 25 ∨ j ≠ 8) → (tag b ≠ 25 ∨ j ≠ 12) → (tag b ≠ 26 ∨ j ≠ 1) → (tag b ≠ 26 ∨ j ≠ 2) → (tag b ≠ 26 ∨ j ≠ 3) → (tag b ≠ 26 ∨ j ≠ 4) → (tag b ≠ 26 ∨ j ≠ 13) → (tag b ≠ 26 ∨ j ≠ 14) → (tag b ≠ 26 ∨ j ≠ 15) → fld F b j = fld Fo b j := fun b j n18_0 n18_1 n18_2 n18_3 n18_4 n18_5 n18_6 n18_8 n18_10 n18_14 n18_16 n19_0 n19_1 n23_3 n23_4 n24_0 n24_1 n24_2 n24_3 n24_4 n24_5 n24_6 n24_7 n25_1 n25_2 n25_3 n25_4 n25_5 n25_6 n25_7 n25_8 n25_12 n26_1 n26_2 n26_3 n26_4 n26_13 n26_14 n26_15 => (h1v171004 b j (fr_ne g0 n26_14)).trans (hfr b j n18_0 n18_1 n18_2 n18_3 n18_4 n18_5 n18_6 n18_8 n18_10 n18_14 n18_16 n19_0 n19_1 n23_3 n23_4 n24_0 n24_1 n24_2 n24_3 n24_4 n24_5 n24_6 n24_7 n25_1 n25_2 n25_3 n25_4 n25_5 n25_6 n25_7 n25_8 n25_12 n26_1 n26_2 n26_3 n26_4 n26_13 n26_14 n26_15)
      have hrel := nsr_of (fun j => h2v171004 _ j) (fun j => h2v171004 _ j) hrel
      refine lv_aload_n hx hb dX11_land_54 rfl (lv_at hl 0 rfl) ?_
      refine lv_aload_n hx hb dX11_land_55 rfl (lv_at hl 0 rfl) ?_
      refine t_get (C := RX11) (T := TX11) (N := 16) X hT m0 g0 rfl rfl 8 (by decide) qw_29 inlX11 rfl dX11_land_56 (fun v171005 hv171005 ov171005 => ?_)
      obtain rfl : v171005 = .ref x0 := hv171005.symm.trans pf0
      refine t_get (C := RX3) (T := TX3) (N := 13) X hT mx0 gx0 rfl rfl 4 (by decide) qw_148 inlX3 rfl dX11_land_59 (fun v171006 hv171006 ov171006 => ?_)
      obtain ⟨z171007, rfl, rz171007⟩ := okV_i ov171006
      refine t_put (C := RX11) (T := TX11) (N := 16) (v := .int z171007) X hT m0 g0 rfl tyX11 tyX11_ok nmX11 rfl 15 (by decide) qw_149 inlX11 rfl (by first | rfl | decide) (by first | rfl | decide) rfl (⟨_, rfl, (show (-2147483648) ≤ (z171007 : Int32).toInt from (by omega)), (show (z171007 : Int32).toInt ≤ 2147483647 from (by omega))⟩) dX11_land_62 (fun F H locs hT v171008 h1v171008 h2v171008 => ?_)
      have pf0 := (h1v171008 _ _ (Or.inr (by decide))).trans pf0
      have pf1 := (h1v171008 _ _ (Or.inr (by decide))).trans pf1
      have pf2 := (h1v171008 _ _ (Or.inr (by decide))).trans pf2
      have v170992 := (h1v171008 _ _ (Or.inr (by decide))).trans v170992
      have hv170994 := (h1v171008 _ _ (Or.inr (by decide))).trans hv170994
      have hv170996 := (h1v171008 _ _ (Or.inr (by decide))).trans hv170996
      have hv170998 := (h1v171008 _ _ (Or.inr (by decide))).trans hv170998
      have hv171002 := (h1v171008 _ _ (Or.inr (by decide))).trans hv171002
      have v171004 := (h1v171008 _ _ (Or.inr (by decide))).trans v171004
      have hv171006 := (h1v171008 _ _ (Or.inr (by decide))).trans hv171006
      have hfr : ∀ b j : Nat, (tag b ≠ 18 ∨ j ≠ 0) → (tag b ≠ 18 ∨ j ≠ 1) → (tag b ≠ 18 ∨ j ≠ 2) → (tag b ≠ 18 ∨ j ≠ 3) → (tag b ≠ 18 ∨ j ≠ 4) → (tag b ≠ 18 ∨ j ≠ 5) → (tag b ≠ 18 ∨ j ≠ 6) → (tag b ≠ 18 ∨ j ≠ 8) → (tag b ≠ 18 ∨ j ≠ 10) → (tag b ≠ 18 ∨ j ≠ 14) → (tag b ≠ 18 ∨ j ≠ 16) → (tag b ≠ 19 ∨ j ≠ 0) → (tag b ≠ 19 ∨ j ≠ 1) → (tag b ≠ 23 ∨ j ≠ 3) → (tag b ≠ 23 ∨ j ≠ 4) → (tag b ≠ 24 ∨ j ≠ 0) → (tag b ≠ 24 ∨ j ≠ 1) → (tag b ≠ 24 ∨ j ≠ 2) → (tag b ≠ 24 ∨ j ≠ 3) → (tag b ≠ 24 ∨ j ≠ 4) → (tag b ≠ 24 ∨ j ≠ 5) → (tag b ≠ 24 ∨ j ≠ 6) → (tag b ≠ 24 ∨ j ≠ 7) → (tag b ≠ 25 ∨ j ≠ 1) → (tag b ≠ 25 ∨ j ≠ 2) → (tag b ≠ 25 ∨ j ≠ 3) → (tag b ≠ 25 ∨ j ≠ 4) → (tag b ≠ 25 ∨ j ≠ 5) → (tag b ≠ 25 ∨ j ≠ 6) → (tag b ≠ 25 ∨ j ≠ 7) → (tag b ≠ 25 ∨ j ≠ 8) → (tag b ≠ 25 ∨ j ≠ 12) → (tag b ≠ 26 ∨ j ≠ 1) → (tag b ≠ 26 ∨ j ≠ 2) → (tag b ≠ 26 ∨ j ≠ 3) → (tag b ≠ 26 ∨ j ≠ 4) → (tag b ≠ 26 ∨ j ≠ 13) → (tag b ≠ 26 ∨ j ≠ 14) → (tag b ≠ 26 ∨ j ≠ 15) → fld F b j = fld Fo b j := fun b j n18_0 n18_1 n18_2 n18_3 n18_4 n18_5 n18_6 n18_8 n18_10 n18_14 n18_16 n19_0 n19_1 n23_3 n23_4 n24_0 n24_1 n24_2 n24_3 n24_4 n24_5 n24_6 n24_7 n25_1 n25_2 n25_3 n25_4 n25_5 n25_6 n25_7 n25_8 n25_12 n26_1 n26_2 n26_3 n26_4 n26_13 n26_14 n26_15 => (h1v171008 b j (fr_ne g0 n26_15)).trans (hfr b j n18_0 n18_1 n18_2 n18_3 n18_4 n18_5 n18_6 n18_8 n18_10 n18_14 n18_16 n19_0 n19_1 n23_3 n23_4 n24_0 n24_1 n24_2 n24_3 n24_4 n24_5 n24_6 n24_7 n25_1 n25_2 n25_3 n25_4 n25_5 n25_6 n25_7 n25_8 n25_12 n26_1 n26_2 n26_3 n26_4 n26_13 n26_14 n26_15)
      have hrel := nsr_of (fun j => h2v171008 _ j) (fun j => h2v171008 _ j) hrel
      refine lv_aload_n hx hb dX11_land_65 rfl (lv_at hl 0 rfl) ?_
      refine t_get (C := RX11) (T := TX11) (N := 16) X hT m0 g0 rfl rfl 14 (by decide) qw_147 inlX11 rfl dX11_land_66 (fun v171009 hv171009 ov171009 => ?_)
      obtain rfl : v171009 = .int z171003 := hv171009.symm.trans v171004
      refine lv_if_eq (tgt := 78) hx hb dX11_land_69 (by decide) (fun c171010 => ?_) (fun c171010 => ?_)
      · have w171011 := cv_eq (rfl : z171003.toInt = z171003.toInt) (by decide : (0 : Int32).toInt = 0) c171010
        refine lv_aload_n hx hb dX11_land_78 rfl (lv_at hl 0 rfl) ?_
        refine t_get (C := RX11) (T := TX11) (N := 16) X hT m0 g0 rfl rfl 3 (by decide) qw_18 inlX11 rfl dX11_land_79 (fun v171012 hv171012 ov171012 => ?_)
        obtain ⟨b171013, rfl, mb171013, gb171013⟩ := okV_r ov171012
        have gb171013 : tag b171013 = 18 := tg_of gb171013
        refine lv_astore_n (lv' := [(2, .ref b171013), (0, .ref p0), (1, .int p1)]) hx hb dX11_land_82 rfl hl (by decide) rfl (fun ls hl => ?_)
        refine lv_aload_n hx hb dX11_land_83 rfl (lv_at hl 1 rfl) ?_
        refine lv_aload_n hx hb dX11_land_84 rfl (lv_at hl 1 rfl) ?_
        refine t_get (C := RX11) (T := TX11) (N := 16) X hT m0 g0 rfl rfl 4 (by decide) qw_19 inlX11 rfl dX11_land_85 (fun v171014 hv171014 ov171014 => ?_)
        obtain rfl : v171014 = .ref b170997 := hv171014.symm.trans hv170996
        refine t_put (C := RX11) (T := TX11) (N := 16) (v := .ref b170997) X hT m0 g0 rfl tyX11 tyX11_ok nmX11 rfl 3 (by decide) qw_18 inlX11 rfl (by first | rfl | decide) (by first | rfl | decide) rfl (⟨_, rfl, mb170997, by rw [gb170997]; rfl⟩) dX11_land_88 (fun F H locs hT v171015 h1v171015 h2v171015 => ?_)
        have pf0 := (h1v171015 _ _ (Or.inr (by decide))).trans pf0
        have pf1 := (h1v171015 _ _ (Or.inr (by decide))).trans pf1
        have pf2 := (h1v171015 _ _ (Or.inr (by decide))).trans pf2
        have v170992 := (h1v171015 _ _ (Or.inr (by decide))).trans v170992
        have hv170994 := (h1v171015 _ _ (Or.inr (by decide))).trans hv170994
        have hv170996 := (h1v171015 _ _ (Or.inr (by decide))).trans hv170996
        have hv170998 := (h1v171015 _ _ (Or.inr (by decide))).trans hv170998
        have hv171002 := (h1v171015 _ _ (Or.inl (tne gx0 g0 (by decide)))).trans hv171002
        have v171004 := (h1v171015 _ _ (Or.inr (by decide))).trans v171004
        have hv171006 := (h1v171015 _ _ (Or.inr (by decide))).trans hv171006
        have v171008 := (h1v171015 _ _ (Or.inr (by decide))).trans v171008
        have hfr : ∀ b j : Nat, (tag b ≠ 18 ∨ j ≠ 0) → (tag b ≠ 18 ∨ j ≠ 1) → (tag b ≠ 18 ∨ j ≠ 2) → (tag b ≠ 18 ∨ j ≠ 3) → (tag b ≠ 18 ∨ j ≠ 4) → (tag b ≠ 18 ∨ j ≠ 5) → (tag b ≠ 18 ∨ j ≠ 6) → (tag b ≠ 18 ∨ j ≠ 8) → (tag b ≠ 18 ∨ j ≠ 10) → (tag b ≠ 18 ∨ j ≠ 14) → (tag b ≠ 18 ∨ j ≠ 16) → (tag b ≠ 19 ∨ j ≠ 0) → (tag b ≠ 19 ∨ j ≠ 1) → (tag b ≠ 23 ∨ j ≠ 3) → (tag b ≠ 23 ∨ j ≠ 4) → (tag b ≠ 24 ∨ j ≠ 0) → (tag b ≠ 24 ∨ j ≠ 1) → (tag b ≠ 24 ∨ j ≠ 2) → (tag b ≠ 24 ∨ j ≠ 3) → (tag b ≠ 24 ∨ j ≠ 4) → (tag b ≠ 24 ∨ j ≠ 5) → (tag b ≠ 24 ∨ j ≠ 6) → (tag b ≠ 24 ∨ j ≠ 7) → (tag b ≠ 25 ∨ j ≠ 1) → (tag b ≠ 25 ∨ j ≠ 2) → (tag b ≠ 25 ∨ j ≠ 3) → (tag b ≠ 25 ∨ j ≠ 4) → (tag b ≠ 25 ∨ j ≠ 5) → (tag b ≠ 25 ∨ j ≠ 6) → (tag b ≠ 25 ∨ j ≠ 7) → (tag b ≠ 25 ∨ j ≠ 8) → (tag b ≠ 25 ∨ j ≠ 12) → (tag b ≠ 26 ∨ j ≠ 1) → (tag b ≠ 26 ∨ j ≠ 2) → (tag b ≠ 26 ∨ j ≠ 3) → (tag b ≠ 26 ∨ j ≠ 4) → (tag b ≠ 26 ∨ j ≠ 13) → (tag b ≠ 26 ∨ j ≠ 14) → (tag b ≠ 26 ∨ j ≠ 15) → fld F b j = fld Fo b j := fun b j n18_0 n18_1 n18_2 n18_3 n18_4 n18_5 n18_6 n18_8 n18_10 n18_14 n18_16 n19_0 n19_1 n23_3 n23_4 n24_0 n24_1 n24_2 n24_3 n24_4 n24_5 n24_6 n24_7 n25_1 n25_2 n25_3 n25_4 n25_5 n25_6 n25_7 n25_8 n25_12 n26_1 n26_2 n26_3 n26_4 n26_13 n26_14 n26_15 => (h1v171015 b j (fr_ne g0 n26_3)).trans (hfr b j n18_0 n18_1 n18_2 n18_3 n18_4 n18_5 n18_6 n18_8 n18_10 n18_14 n18_16 n19_0 n19_1 n23_3 n23_4 n24_0 n24_1 n24_2 n24_3 n24_4 n24_5 n24_6 n24_7 n25_1 n25_2 n25_3 n25_4 n25_5 n25_6 n25_7 n25_8 n25_12 n26_1 n26_2 n26_3 n26_4 n26_13 n26_14 n26_15)
        have hrel := nsr_of (fun j => h2v171015 _ j) (fun j => h2v171015 _ j) hrel
        refine lv_aload_n hx hb dX11_land_91 rfl (lv_at hl 1 rfl) ?_
        refine lv_aload_n hx hb dX11_land_92 rfl (lv_at hl 0 rfl) ?_
        refine t_put (C := RX11) (T := TX11) (N := 16) (v := .ref b171013) X hT m0 g0 rfl tyX11 tyX11_ok nmX11 rfl 4 (by decide) qw_19 inlX11 rfl (by first | rfl | decide) (by first | rfl | decide) rfl (⟨_, rfl, mb171013, by rw [gb171013]; rfl⟩) dX11_land_93 (fun F H locs hT v171016 h1v171016 h2v171016 => ?_)
        have pf0 := (h1v171016 _ _ (Or.inr (by decide))).trans pf0
        have pf1 := (h1v171016 _ _ (Or.inr (by decide))).trans pf1
        have pf2 := (h1v171016 _ _ (Or.inr (by decide))).trans pf2
        have v170992 := (h1v171016 _ _ (Or.inr (by decide))).trans v170992
        have hv170994 := (h1v171016 _ _ (Or.inr (by decide))).trans hv170994
        have hv170998 := (h1v171016 _ _ (Or.inr (by decide))).trans hv170998
        have hv171002 := (h1v171016 _ _ (Or.inr (by decide))).trans hv171002
        have v171004 := (h1v171016 _ _ (Or.inr (by decide))).trans v171004
        have hv171006 := (h1v171016 _ _ (Or.inl (tne gx0 g0 (by decide)))).trans hv171006
        have v171008 := (h1v171016 _ _ (Or.inr (by decide))).trans v171008
        have v171015 := (h1v171016 _ _ (Or.inr (by decide))).trans v171015
        have hfr : ∀ b j : Nat, (tag b ≠ 18 ∨ j ≠ 0) → (tag b ≠ 18 ∨ j ≠ 1) → (tag b ≠ 18 ∨ j ≠ 2) → (tag b ≠ 18 ∨ j ≠ 3) → (tag b ≠ 18 ∨ j ≠ 4) → (tag b ≠ 18 ∨ j ≠ 5) → (tag b ≠ 18 ∨ j ≠ 6) → (tag b ≠ 18 ∨ j ≠ 8) → (tag b ≠ 18 ∨ j ≠ 10) → (tag b ≠ 18 ∨ j ≠ 14) → (tag b ≠ 18 ∨ j ≠ 16) → (tag b ≠ 19 ∨ j ≠ 0) → (tag b ≠ 19 ∨ j ≠ 1) → (tag b ≠ 23 ∨ j ≠ 3) → (tag b ≠ 23 ∨ j ≠ 4) → (tag b ≠ 24 ∨ j ≠ 0) → (tag b ≠ 24 ∨ j ≠ 1) → (tag b ≠ 24 ∨ j ≠ 2) → (tag b ≠ 24 ∨ j ≠ 3) → (tag b ≠ 24 ∨ j ≠ 4) → (tag b ≠ 24 ∨ j ≠ 5) → (tag b ≠ 24 ∨ j ≠ 6) → (tag b ≠ 24 ∨ j ≠ 7) → (tag b ≠ 25 ∨ j ≠ 1) → (tag b ≠ 25 ∨ j ≠ 2) → (tag b ≠ 25 ∨ j ≠ 3) → (tag b ≠ 25 ∨ j ≠ 4) → (tag b ≠ 25 ∨ j ≠ 5) → (tag b ≠ 25 ∨ j ≠ 6) → (tag b ≠ 25 ∨ j ≠ 7) → (tag b ≠ 25 ∨ j ≠ 8) → (tag b ≠ 25 ∨ j ≠ 12) → (tag b ≠ 26 ∨ j ≠ 1) → (tag b ≠ 26 ∨ j ≠ 2) → (tag b ≠ 26 ∨ j ≠ 3) → (tag b ≠ 26 ∨ j ≠ 4) → (tag b ≠ 26 ∨ j ≠ 13) → (tag b ≠ 26 ∨ j ≠ 14) → (tag b ≠ 26 ∨ j ≠ 15) → fld F b j = fld Fo b j := fun b j n18_0 n18_1 n18_2 n18_3 n18_4 n18_5 n18_6 n18_8 n18_10 n18_14 n18_16 n19_0 n19_1 n23_3 n23_4 n24_0 n24_1 n24_2 n24_3 n24_4 n24_5 n24_6 n24_7 n25_1 n25_2 n25_3 n25_4 n25_5 n25_6 n25_7 n25_8 n25_12 n26_1 n26_2 n26_3 n26_4 n26_13 n26_14 n26_15 => (h1v171016 b j (fr_ne g0 n26_4)).trans (hfr b j n18_0 n18_1 n18_2 n18_3 n18_4 n18_5 n18_6 n18_8 n18_10 n18_14 n18_16 n19_0 n19_1 n23_3 n23_4 n24_0 n24_1 n24_2 n24_3 n24_4 n24_5 n24_6 n24_7 n25_1 n25_2 n25_3 n25_4 n25_5 n25_6 n25_7 n25_8 n25_12 n26_1 n26_2 n26_3 n26_4 n26_13 n26_14 n26_15)
        have hrel := nsr_of (fun j => h2v171016 _ j) (fun j => h2v171016 _ j) hrel
        refine lv_aload_n hx hb dX11_land_96 rfl (lv_at hl 1 rfl) ?_
        refine t_get (C := RX11) (T := TX11) (N := 16) X hT m0 g0 rfl rfl 5 (by decide) qw_23 inlX11 rfl dX11_land_97 (fun v171017 hv171017 ov171017 => ?_)
        obtain ⟨b171018, rfl, mb171018, gb171018⟩ := okV_r ov171017
        have gb171018 : tag b171018 = 19 := tg_of gb171018
        refine lv_aload_n hx hb dX11_land_100 rfl (lv_at hl 1 rfl) ?_
        refine t_get (C := RX11) (T := TX11) (N := 16) X hT m0 g0 rfl rfl 6 (by decide) qw_24 inlX11 rfl dX11_land_101 (fun v171019 hv171019 ov171019 => ?_)
        obtain rfl : v171019 = .ref b170999 := hv171019.symm.trans hv170998
        refine t_cVv (n := 1) (C := RX7) (T := TX7) (N := 7) (As := [.ref b170999]) (rest := []) X hT (kt343_X7_copyFrom l G tag L F hT.2.2.2 b171018 b170999 mb171018 gb171018 mb170999 gb170999) mb171018 gb171018 rfl rfl qw_449 qw_450 qw_451 qw_22 qw_452 ⟨rfl, by decide +kernel, by decide +kernel, by decide +kernel⟩ ⟨Nat.le_of_ble_eq_true rfl, Nat.le_of_ble_eq_true rfl⟩ hl rfl rfl (Nat.le_of_ble_eq_true rfl) dX11_land_104 ⟨Nat.le_of_ble_eq_true rfl, Nat.le_of_ble_eq_true rfl⟩ (fun F H locs hT hz171020 => ?_)
        have yz171020 := hz171020
        have pf0 := (yz171020.1 _ 8 (Or.inr (by decide)) (Or.inr (by decide))).trans pf0
        have pf1 := (yz171020.1 _ 10 (Or.inr (by decide)) (Or.inr (by decide))).trans pf1
        have pf2 := (yz171020.1 _ 11 (Or.inr (by decide)) (Or.inr (by decide))).trans pf2
        have v170992 := (yz171020.1 _ 1 (Or.inr (by decide)) (Or.inl (by rw [g0]; decide))).trans v170992
        have hv170994 := (yz171020.1 _ 0 (Or.inl (by rw [g0]; decide)) (Or.inr (by decide))).trans hv170994
        have hv170998 := (yz171020.1 _ 6 (Or.inr (by decide)) (Or.inr (by decide))).trans hv170998
        have hv171002 := (yz171020.1 _ 3 (Or.inr (by decide)) (Or.inr (by decide))).trans hv171002
        have v171004 := (yz171020.1 _ 14 (Or.inr (by decide)) (Or.inr (by decide))).trans v171004
        have hv171006 := (yz171020.1 _ 4 (Or.inr (by decide)) (Or.inr (by decide))).trans hv171006
        have v171008 := (yz171020.1 _ 15 (Or.inr (by decide)) (Or.inr (by decide))).trans v171008
        have v171015 := (yz171020.1 _ 3 (Or.inr (by decide)) (Or.inr (by decide))).trans v171015
        have v171016 := (yz171020.1 _ 4 (Or.inr (by decide)) (Or.inr (by decide))).trans v171016
        have hv171017 := (yz171020.1 _ 5 (Or.inr (by decide)) (Or.inr (by decide))).trans hv171017
        have hfr : ∀ b j : Nat, (tag b ≠ 18 ∨ j ≠ 0) → (tag b ≠ 18 ∨ j ≠ 1) → (tag b ≠ 18 ∨ j ≠ 2) → (tag b ≠ 18 ∨ j ≠ 3) → (tag b ≠ 18 ∨ j ≠ 4) → (tag b ≠ 18 ∨ j ≠ 5) → (tag b ≠ 18 ∨ j ≠ 6) → (tag b ≠ 18 ∨ j ≠ 8) → (tag b ≠ 18 ∨ j ≠ 10) → (tag b ≠ 18 ∨ j ≠ 14) → (tag b ≠ 18 ∨ j ≠ 16) → (tag b ≠ 19 ∨ j ≠ 0) → (tag b ≠ 19 ∨ j ≠ 1) → (tag b ≠ 23 ∨ j ≠ 3) → (tag b ≠ 23 ∨ j ≠ 4) → (tag b ≠ 24 ∨ j ≠ 0) → (tag b ≠ 24 ∨ j ≠ 1) → (tag b ≠ 24 ∨ j ≠ 2) → (tag b ≠ 24 ∨ j ≠ 3) → (tag b ≠ 24 ∨ j ≠ 4) → (tag b ≠ 24 ∨ j ≠ 5) → (tag b ≠ 24 ∨ j ≠ 6) → (tag b ≠ 24 ∨ j ≠ 7) → (tag b ≠ 25 ∨ j ≠ 1) → (tag b ≠ 25 ∨ j ≠ 2) → (tag b ≠ 25 ∨ j ≠ 3) → (tag b ≠ 25 ∨ j ≠ 4) → (tag b ≠ 25 ∨ j ≠ 5) → (tag b ≠ 25 ∨ j ≠ 6) → (tag b ≠ 25 ∨ j ≠ 7) → (tag b ≠ 25 ∨ j ≠ 8) → (tag b ≠ 25 ∨ j ≠ 12) → (tag b ≠ 26 ∨ j ≠ 1) → (tag b ≠ 26 ∨ j ≠ 2) → (tag b ≠ 26 ∨ j ≠ 3) → (tag b ≠ 26 ∨ j ≠ 4) → (tag b ≠ 26 ∨ j ≠ 13) → (tag b ≠ 26 ∨ j ≠ 14) → (tag b ≠ 26 ∨ j ≠ 15) → fld F b j = fld Fo b j := fun b j n18_0 n18_1 n18_2 n18_3 n18_4 n18_5 n18_6 n18_8 n18_10 n18_14 n18_16 n19_0 n19_1 n23_3 n23_4 n24_0 n24_1 n24_2 n24_3 n24_4 n24_5 n24_6 n24_7 n25_1 n25_2 n25_3 n25_4 n25_5 n25_6 n25_7 n25_8 n25_12 n26_1 n26_2 n26_3 n26_4 n26_13 n26_14 n26_15 => (yz171020.1 b j n19_0 n19_1).trans (hfr b j n18_0 n18_1 n18_2 n18_3 n18_4 n18_5 n18_6 n18_8 n18_10 n18_14 n18_16 n19_0 n19_1 n23_3 n23_4 n24_0 n24_1 n24_2 n24_3 n24_4 n24_5 n24_6 n24_7 n25_1 n25_2 n25_3 n25_4 n25_5 n25_6 n25_7 n25_8 n25_12 n26_1 n26_2 n26_3 n26_4 n26_13 n26_14 n26_15)
        have hrel := nsr_of (fun j => yz171020.2 _ j (Or.inl gx1)) (fun j => yz171020.2 _ j (Or.inr gx2)) hrel
        refine lv_aload_n hx hb dX11_land_107 rfl (lv_at hl 1 rfl) ?_
        refine t_get (C := RX11) (T := TX11) (N := 16) X hT m0 g0 rfl rfl 12 (by decide) qw_45 inlX11 rfl dX11_land_108 (fun v171021 hv171021 ov171021 => ?_)
        obtain ⟨b171022, rfl, mb171022, gb171022⟩ := okV_r ov171021
        have gb171022 : tag b171022 = 23 := tg_of gb171022
        refine t_cVv (n := 0) (C := RX2) (T := TX2) (N := 5) (As := []) (rest := []) X hT (kt429_X2_forget l G tag L F hT.2.2.2 b171022 mb171022 gb171022) mb171022 gb171022 rfl rfl qw_457 qw_458 qw_459 qw_44 qw_460 ⟨rfl, by decide +kernel, by decide +kernel, by decide +kernel⟩ ⟨Nat.le_of_ble_eq_true rfl, Nat.le_of_ble_eq_true rfl⟩ hl rfl rfl (Nat.le_of_ble_eq_true rfl) dX11_land_111 ⟨Nat.le_of_ble_eq_true rfl, Nat.le_of_ble_eq_true rfl⟩ (fun F H locs hT hz171023 => ?_)
        have yz171023 := hz171023
        have pf0 := (yz171023.1 _ 8 (Or.inr (by decide)) (Or.inr (by decide))).trans pf0
        have pf1 := (yz171023.1 _ 10 (Or.inr (by decide)) (Or.inr (by decide))).trans pf1
        have pf2 := (yz171023.1 _ 11 (Or.inr (by decide)) (Or.inr (by decide))).trans pf2
        have v170992 := (yz171023.1 _ 1 (Or.inr (by decide)) (Or.inr (by decide))).trans v170992
        have hv170994 := (yz171023.1 _ 0 (Or.inr (by decide)) (Or.inr (by decide))).trans hv170994
        have hv170998 := (yz171023.1 _ 6 (Or.inr (by decide)) (Or.inr (by decide))).trans hv170998
        have hv171002 := (yz171023.1 _ 3 (Or.inl (by rw [gx0]; decide)) (Or.inr (by decide))).trans hv171002
        have v171004 := (yz171023.1 _ 14 (Or.inr (by decide)) (Or.inr (by decide))).trans v171004
        have hv171006 := (yz171023.1 _ 4 (Or.inr (by decide)) (Or.inl (by rw [gx0]; decide))).trans hv171006
        have v171008 := (yz171023.1 _ 15 (Or.inr (by decide)) (Or.inr (by decide))).trans v171008
        have v171015 := (yz171023.1 _ 3 (Or.inl (by rw [g0]; decide)) (Or.inr (by decide))).trans v171015
        have v171016 := (yz171023.1 _ 4 (Or.inr (by decide)) (Or.inl (by rw [g0]; decide))).trans v171016
        have hv171017 := (yz171023.1 _ 5 (Or.inr (by decide)) (Or.inr (by decide))).trans hv171017
        have hv171021 := (yz171023.1 _ 12 (Or.inr (by decide)) (Or.inr (by decide))).trans hv171021
        have hfr : ∀ b j : Nat, (tag b ≠ 18 ∨ j ≠ 0) → (tag b ≠ 18 ∨ j ≠ 1) → (tag b ≠ 18 ∨ j ≠ 2) → (tag b ≠ 18 ∨ j ≠ 3) → (tag b ≠ 18 ∨ j ≠ 4) → (tag b ≠ 18 ∨ j ≠ 5) → (tag b ≠ 18 ∨ j ≠ 6) → (tag b ≠ 18 ∨ j ≠ 8) → (tag b ≠ 18 ∨ j ≠ 10) → (tag b ≠ 18 ∨ j ≠ 14) → (tag b ≠ 18 ∨ j ≠ 16) → (tag b ≠ 19 ∨ j ≠ 0) → (tag b ≠ 19 ∨ j ≠ 1) → (tag b ≠ 23 ∨ j ≠ 3) → (tag b ≠ 23 ∨ j ≠ 4) → (tag b ≠ 24 ∨ j ≠ 0) → (tag b ≠ 24 ∨ j ≠ 1) → (tag b ≠ 24 ∨ j ≠ 2) → (tag b ≠ 24 ∨ j ≠ 3) → (tag b ≠ 24 ∨ j ≠ 4) → (tag b ≠ 24 ∨ j ≠ 5) → (tag b ≠ 24 ∨ j ≠ 6) → (tag b ≠ 24 ∨ j ≠ 7) → (tag b ≠ 25 ∨ j ≠ 1) → (tag b ≠ 25 ∨ j ≠ 2) → (tag b ≠ 25 ∨ j ≠ 3) → (tag b ≠ 25 ∨ j ≠ 4) → (tag b ≠ 25 ∨ j ≠ 5) → (tag b ≠ 25 ∨ j ≠ 6) → (tag b ≠ 25 ∨ j ≠ 7) → (tag b ≠ 25 ∨ j ≠ 8) → (tag b ≠ 25 ∨ j ≠ 12) → (tag b ≠ 26 ∨ j ≠ 1) → (tag b ≠ 26 ∨ j ≠ 2) → (tag b ≠ 26 ∨ j ≠ 3) → (tag b ≠ 26 ∨ j ≠ 4) → (tag b ≠ 26 ∨ j ≠ 13) → (tag b ≠ 26 ∨ j ≠ 14) → (tag b ≠ 26 ∨ j ≠ 15) → fld F b j = fld Fo b j := fun b j n18_0 n18_1 n18_2 n18_3 n18_4 n18_5 n18_6 n18_8 n18_10 n18_14 n18_16 n19_0 n19_1 n23_3 n23_4 n24_0 n24_1 n24_2 n24_3 n24_4 n24_5 n24_6 n24_7 n25_1 n25_2 n25_3 n25_4 n25_5 n25_6 n25_7 n25_8 n25_12 n26_1 n26_2 n26_3 n26_4 n26_13 n26_14 n26_15 => (yz171023.1 b j n23_3 n23_4).trans (hfr b j n18_0 n18_1 n18_2 n18_3 n18_4 n18_5 n18_6 n18_8 n18_10 n18_14 n18_16 n19_0 n19_1 n23_3 n23_4 n24_0 n24_1 n24_2 n24_3 n24_4 n24_5 n24_6 n24_7 n25_1 n25_2 n25_3 n25_4 n25_5 n25_6 n25_7 n25_8 n25_12 n26_1 n26_2 n26_3 n26_4 n26_13 n26_14 n26_15)
        have hrel := nsr_of (fun j => yz171023.2 _ j (Or.inl gx1)) (fun j => yz171023.2 _ j (Or.inr gx2)) hrel
        refine lv_aload_n hx hb dX11_land_114 rfl (lv_at hl 1 rfl) ?_
        refine lv_iconst (v := 1) hx hb dX11_land_115 (by decide) ?_
        refine t_put (C := RX11) (T := TX11) (N := 16) (v := .int 1) X hT m0 g0 rfl tyX11 tyX11_ok nmX11 rfl 2 (by decide) qw_150 inlX11 rfl (by first | rfl | decide) (by first | rfl | decide) rfl (⟨_, rfl, (show 0 ≤ (1 : Int32).toInt from (by decide)), (show (1 : Int32).toInt ≤ 1 from (by decide))⟩) dX11_land_116 (fun F H locs hT v171024 h1v171024 h2v171024 => ?_)
        have pf0 := (h1v171024 _ _ (Or.inr (by decide))).trans pf0
        have pf1 := (h1v171024 _ _ (Or.inr (by decide))).trans pf1
        have pf2 := (h1v171024 _ _ (Or.inr (by decide))).trans pf2
        have v170992 := (h1v171024 _ _ (Or.inr (by decide))).trans v170992
        have hv170994 := (h1v171024 _ _ (Or.inr (by decide))).trans hv170994
        have hv170998 := (h1v171024 _ _ (Or.inr (by decide))).trans hv170998
        have hv171002 := (h1v171024 _ _ (Or.inr (by decide))).trans hv171002
        have v171004 := (h1v171024 _ _ (Or.inr (by decide))).trans v171004
        have hv171006 := (h1v171024 _ _ (Or.inr (by decide))).trans hv171006
        have v171008 := (h1v171024 _ _ (Or.inr (by decide))).trans v171008
        have v171015 := (h1v171024 _ _ (Or.inr (by decide))).trans v171015
        have v171016 := (h1v171024 _ _ (Or.inr (by decide))).trans v171016
        have hv171017 := (h1v171024 _ _ (Or.inr (by decide))).trans hv171017
        have hv171021 := (h1v171024 _ _ (Or.inr (by decide))).trans hv171021
        have hfr : ∀ b j : Nat, (tag b ≠ 18 ∨ j ≠ 0) → (tag b ≠ 18 ∨ j ≠ 1) → (tag b ≠ 18 ∨ j ≠ 2) → (tag b ≠ 18 ∨ j ≠ 3) → (tag b ≠ 18 ∨ j ≠ 4) → (tag b ≠ 18 ∨ j ≠ 5) → (tag b ≠ 18 ∨ j ≠ 6) → (tag b ≠ 18 ∨ j ≠ 8) → (tag b ≠ 18 ∨ j ≠ 10) → (tag b ≠ 18 ∨ j ≠ 14) → (tag b ≠ 18 ∨ j ≠ 16) → (tag b ≠ 19 ∨ j ≠ 0) → (tag b ≠ 19 ∨ j ≠ 1) → (tag b ≠ 23 ∨ j ≠ 3) → (tag b ≠ 23 ∨ j ≠ 4) → (tag b ≠ 24 ∨ j ≠ 0) → (tag b ≠ 24 ∨ j ≠ 1) → (tag b ≠ 24 ∨ j ≠ 2) → (tag b ≠ 24 ∨ j ≠ 3) → (tag b ≠ 24 ∨ j ≠ 4) → (tag b ≠ 24 ∨ j ≠ 5) → (tag b ≠ 24 ∨ j ≠ 6) → (tag b ≠ 24 ∨ j ≠ 7) → (tag b ≠ 25 ∨ j ≠ 1) → (tag b ≠ 25 ∨ j ≠ 2) → (tag b ≠ 25 ∨ j ≠ 3) → (tag b ≠ 25 ∨ j ≠ 4) → (tag b ≠ 25 ∨ j ≠ 5) → (tag b ≠ 25 ∨ j ≠ 6) → (tag b ≠ 25 ∨ j ≠ 7) → (tag b ≠ 25 ∨ j ≠ 8) → (tag b ≠ 25 ∨ j ≠ 12) → (tag b ≠ 26 ∨ j ≠ 1) → (tag b ≠ 26 ∨ j ≠ 2) → (tag b ≠ 26 ∨ j ≠ 3) → (tag b ≠ 26 ∨ j ≠ 4) → (tag b ≠ 26 ∨ j ≠ 13) → (tag b ≠ 26 ∨ j ≠ 14) → (tag b ≠ 26 ∨ j ≠ 15) → fld F b j = fld Fo b j := fun b j n18_0 n18_1 n18_2 n18_3 n18_4 n18_5 n18_6 n18_8 n18_10 n18_14 n18_16 n19_0 n19_1 n23_3 n23_4 n24_0 n24_1 n24_2 n24_3 n24_4 n24_5 n24_6 n24_7 n25_1 n25_2 n25_3 n25_4 n25_5 n25_6 n25_7 n25_8 n25_12 n26_1 n26_2 n26_3 n26_4 n26_13 n26_14 n26_15 => (h1v171024 b j (fr_ne g0 n26_2)).trans (hfr b j n18_0 n18_1 n18_2 n18_3 n18_4 n18_5 n18_6 n18_8 n18_10 n18_14 n18_16 n19_0 n19_1 n23_3 n23_4 n24_0 n24_1 n24_2 n24_3 n24_4 n24_5 n24_6 n24_7 n25_1 n25_2 n25_3 n25_4 n25_5 n25_6 n25_7 n25_8 n25_12 n26_1 n26_2 n26_3 n26_4 n26_13 n26_14 n26_15)
        have hrel := nsr_of (fun j => h2v171024 _ j) (fun j => h2v171024 _ j) hrel
        refine lv_aload_n hx hb dX11_land_119 rfl (lv_at hl 1 rfl) ?_
        refine lv_aload_n hx hb dX11_land_120 rfl (lv_at hl 1 rfl) ?_
        refine t_get (C := RX11) (T := TX11) (N := 16) X hT m0 g0 rfl rfl 3 (by decide) qw_18 inlX11 rfl dX11_land_121 (fun v171025 hv171025 ov171025 => ?_)
        obtain rfl : v171025 = .ref b170997 := hv171025.symm.trans v171015
        refine t_get (C := RX1) (T := TX1) (N := 20) X hT mb170997 gb170997 rfl rfl 10 (by decide) qw_151 inlX1 rfl dX11_land_124 (fun v171026 hv171026 ov171026 => ?_)
        obtain ⟨z171027, rfl, rz171027⟩ := okV_i ov171026
        refine t_cVi (n := 1) (C := RX11) (T := TX11) (N := 16) (As := [.int z171027]) (rest := []) X hT (kt350_X11_answer l G tag L F hT.2.2.2 p0 z171027 m0 g0) m0 g0 rfl rfl qw_463 qw_464 qw_465 qw_2 qw_466 ⟨rfl, by decide +kernel, by decide +kernel, by decide +kernel⟩ ⟨Nat.le_of_ble_eq_true rfl, Nat.le_of_ble_eq_true rfl⟩ hl rfl rfl (Nat.le_of_ble_eq_true rfl) dX11_land_127 ⟨Nat.le_of_ble_eq_true rfl, Nat.le_of_ble_eq_true rfl⟩ (fun z171028 F H locs hT hz171028 => ?_)
        obtain ⟨hz171028, yz171028⟩ := hz171028
        have pf0 := (yz171028.1 _ 8 (Or.inr (by decide))).trans pf0
        have pf1 := (yz171028.1 _ 10 (Or.inr (by decide))).trans pf1
        have pf2 := (yz171028.1 _ 11 (Or.inr (by decide))).trans pf2
        have v170992 := (yz171028.1 _ 1 (Or.inr (by decide))).trans v170992
        have hv170994 := (yz171028.1 _ 0 (Or.inr (by decide))).trans hv170994
        have hv170998 := (yz171028.1 _ 6 (Or.inr (by decide))).trans hv170998
        have hv171002 := (yz171028.1 _ 3 (Or.inr (by decide))).trans hv171002
        have v171004 := (yz171028.1 _ 14 (Or.inr (by decide))).trans v171004
        have hv171006 := (yz171028.1 _ 4 (Or.inr (by decide))).trans hv171006
        have v171008 := (yz171028.1 _ 15 (Or.inr (by decide))).trans v171008
        have v171015 := (yz171028.1 _ 3 (Or.inr (by decide))).trans v171015
        have v171016 := (yz171028.1 _ 4 (Or.inr (by decide))).trans v171016
        have hv171017 := (yz171028.1 _ 5 (Or.inr (by decide))).trans hv171017
        have hv171021 := (yz171028.1 _ 12 (Or.inr (by decide))).trans hv171021
        have v171024 := (yz171028.1 _ 2 (Or.inr (by decide))).trans v171024
        have hv171026 := (yz171028.1 _ 10 (Or.inr (by decide))).trans hv171026
        have hfr : ∀ b j : Nat, (tag b ≠ 18 ∨ j ≠ 0) → (tag b ≠ 18 ∨ j ≠ 1) → (tag b ≠ 18 ∨ j ≠ 2) → (tag b ≠ 18 ∨ j ≠ 3) → (tag b ≠ 18 ∨ j ≠ 4) → (tag b ≠ 18 ∨ j ≠ 5) → (tag b ≠ 18 ∨ j ≠ 6) → (tag b ≠ 18 ∨ j ≠ 8) → (tag b ≠ 18 ∨ j ≠ 10) → (tag b ≠ 18 ∨ j ≠ 14) → (tag b ≠ 18 ∨ j ≠ 16) → (tag b ≠ 19 ∨ j ≠ 0) → (tag b ≠ 19 ∨ j ≠ 1) → (tag b ≠ 23 ∨ j ≠ 3) → (tag b ≠ 23 ∨ j ≠ 4) → (tag b ≠ 24 ∨ j ≠ 0) → (tag b ≠ 24 ∨ j ≠ 1) → (tag b ≠ 24 ∨ j ≠ 2) → (tag b ≠ 24 ∨ j ≠ 3) → (tag b ≠ 24 ∨ j ≠ 4) → (tag b ≠ 24 ∨ j ≠ 5) → (tag b ≠ 24 ∨ j ≠ 6) → (tag b ≠ 24 ∨ j ≠ 7) → (tag b ≠ 25 ∨ j ≠ 1) → (tag b ≠ 25 ∨ j ≠ 2) → (tag b ≠ 25 ∨ j ≠ 3) → (tag b ≠ 25 ∨ j ≠ 4) → (tag b ≠ 25 ∨ j ≠ 5) → (tag b ≠ 25 ∨ j ≠ 6) → (tag b ≠ 25 ∨ j ≠ 7) → (tag b ≠ 25 ∨ j ≠ 8) → (tag b ≠ 25 ∨ j ≠ 12) → (tag b ≠ 26 ∨ j ≠ 1) → (tag b ≠ 26 ∨ j ≠ 2) → (tag b ≠ 26 ∨ j ≠ 3) → (tag b ≠ 26 ∨ j ≠ 4) → (tag b ≠ 26 ∨ j ≠ 13) → (tag b ≠ 26 ∨ j ≠ 14) → (tag b ≠ 26 ∨ j ≠ 15) → fld F b j = fld Fo b j := fun b j n18_0 n18_1 n18_2 n18_3 n18_4 n18_5 n18_6 n18_8 n18_10 n18_14 n18_16 n19_0 n19_1 n23_3 n23_4 n24_0 n24_1 n24_2 n24_3 n24_4 n24_5 n24_6 n24_7 n25_1 n25_2 n25_3 n25_4 n25_5 n25_6 n25_7 n25_8 n25_12 n26_1 n26_2 n26_3 n26_4 n26_13 n26_14 n26_15 => (yz171028.1 b j n26_13).trans (hfr b j n18_0 n18_1 n18_2 n18_3 n18_4 n18_5 n18_6 n18_8 n18_10 n18_14 n18_16 n19_0 n19_1 n23_3 n23_4 n24_0 n24_1 n24_2 n24_3 n24_4 n24_5 n24_6 n24_7 n25_1 n25_2 n25_3 n25_4 n25_5 n25_6 n25_7 n25_8 n25_12 n26_1 n26_2 n26_3 n26_4 n26_13 n26_14 n26_15)
        have hrel := nsr_of (fun j => yz171028.2 _ j (Or.inl gx1)) (fun j => yz171028.2 _ j (Or.inr gx2)) hrel
        exact t_iret hQ X hT (⟨rg_all _, hfr, hrel, ⟨_, v170992, by have k9 : (0 : Int32).toInt = 0 := (by decide); omega, by have k9 : (0 : Int32).toInt = 0 := (by decide); omega⟩⟩) (Nat.le_of_ble_eq_true rfl) (Nat.le_of_ble_eq_true rfl) dX11_land_130
      · have w171029 := cv_ne (rfl : z171003.toInt = z171003.toInt) (by decide : (0 : Int32).toInt = 0) c171010
        refine lv_aload_n hx hb dX11_land_72 rfl (lv_at hl 0 rfl) ?_
        refine lv_iconst (v := 4) hx hb dX11_land_73 (by decide) ?_
        refine t_cVi (n := 1) (C := RX11) (T := TX11) (N := 16) (As := [.int 4]) (rest := []) X hT (kt357_X11_refuse l G tag L F hT.2.2.2 p0 4 m0 g0) m0 g0 rfl rfl qw_152 qw_153 qw_154 qw_2 qw_155 ⟨rfl, by decide +kernel, by decide +kernel, by decide +kernel⟩ ⟨Nat.le_of_ble_eq_true rfl, Nat.le_of_ble_eq_true rfl⟩ hl rfl rfl (Nat.le_of_ble_eq_true rfl) dX11_land_74 ⟨Nat.le_of_ble_eq_true rfl, Nat.le_of_ble_eq_true rfl⟩ (fun z171030 F H locs hT hz171030 => ?_)
        obtain ⟨hz171030, yz171030⟩ := hz171030
        have pf0 := (yz171030.1 _ 8 (Or.inr (by decide))).trans pf0
        have pf1 := (yz171030.1 _ 10 (Or.inr (by decide))).trans pf1
        have pf2 := (yz171030.1 _ 11 (Or.inr (by decide))).trans pf2
        have v170992 := (yz171030.1 _ 1 (Or.inr (by decide))).trans v170992
        have hv170994 := (yz171030.1 _ 0 (Or.inr (by decide))).trans hv170994
        have hv170996 := (yz171030.1 _ 4 (Or.inr (by decide))).trans hv170996
        have hv170998 := (yz171030.1 _ 6 (Or.inr (by decide))).trans hv170998
        have hv171002 := (yz171030.1 _ 3 (Or.inr (by decide))).trans hv171002
        have v171004 := (yz171030.1 _ 14 (Or.inr (by decide))).trans v171004
        have hv171006 := (yz171030.1 _ 4 (Or.inr (by decide))).trans hv171006
        have v171008 := (yz171030.1 _ 15 (Or.inr (by decide))).trans v171008
        have hfr : ∀ b j : Nat, (tag b ≠ 18 ∨ j ≠ 0) → (tag b ≠ 18 ∨ j ≠ 1) → (tag b ≠ 18 ∨ j ≠ 2) → (tag b ≠ 18 ∨ j ≠ 3) → (tag b ≠ 18 ∨ j ≠ 4) → (tag b ≠ 18 ∨ j ≠ 5) → (tag b ≠ 18 ∨ j ≠ 6) → (tag b ≠ 18 ∨ j ≠ 8) → (tag b ≠ 18 ∨ j ≠ 10) → (tag b ≠ 18 ∨ j ≠ 14) → (tag b ≠ 18 ∨ j ≠ 16) → (tag b ≠ 19 ∨ j ≠ 0) → (tag b ≠ 19 ∨ j ≠ 1) → (tag b ≠ 23 ∨ j ≠ 3) → (tag b ≠ 23 ∨ j ≠ 4) → (tag b ≠ 24 ∨ j ≠ 0) → (tag b ≠ 24 ∨ j ≠ 1) → (tag b ≠ 24 ∨ j ≠ 2) → (tag b ≠ 24 ∨ j ≠ 3) → (tag b ≠ 24 ∨ j ≠ 4) → (tag b ≠ 24 ∨ j ≠ 5) → (tag b ≠ 24 ∨ j ≠ 6) → (tag b ≠ 24 ∨ j ≠ 7) → (tag b ≠ 25 ∨ j ≠ 1) → (tag b ≠ 25 ∨ j ≠ 2) → (tag b ≠ 25 ∨ j ≠ 3) → (tag b ≠ 25 ∨ j ≠ 4) → (tag b ≠ 25 ∨ j ≠ 5) → (tag b ≠ 25 ∨ j ≠ 6) → (tag b ≠ 25 ∨ j ≠ 7) → (tag b ≠ 25 ∨ j ≠ 8) → (tag b ≠ 25 ∨ j ≠ 12) → (tag b ≠ 26 ∨ j ≠ 1) → (tag b ≠ 26 ∨ j ≠ 2) → (tag b ≠ 26 ∨ j ≠ 3) → (tag b ≠ 26 ∨ j ≠ 4) → (tag b ≠ 26 ∨ j ≠ 13) → (tag b ≠ 26 ∨ j ≠ 14) → (tag b ≠ 26 ∨ j ≠ 15) → fld F b j = fld Fo b j := fun b j n18_0 n18_1 n18_2 n18_3 n18_4 n18_5 n18_6 n18_8 n18_10 n18_14 n18_16 n19_0 n19_1 n23_3 n23_4 n24_0 n24_1 n24_2 n24_3 n24_4 n24_5 n24_6 n24_7 n25_1 n25_2 n25_3 n25_4 n25_5 n25_6 n25_7 n25_8 n25_12 n26_1 n26_2 n26_3 n26_4 n26_13 n26_14 n26_15 => (yz171030.1 b j n26_13).trans (hfr b j n18_0 n18_1 n18_2 n18_3 n18_4 n18_5 n18_6 n18_8 n18_10 n18_14 n18_16 n19_0 n19_1 n23_3 n23_4 n24_0 n24_1 n24_2 n24_3 n24_4 n24_5 n24_6 n24_7 n25_1 n25_2 n25_3 n25_4 n25_5 n25_6 n25_7 n25_8 n25_12 n26_1 n26_2 n26_3 n26_4 n26_13 n26_14 n26_15)
        have hrel := nsr_of (fun j => yz171030.2 _ j (Or.inl gx1)) (fun j => yz171030.2 _ j (Or.inr gx2)) hrel
        exact t_iret hQ X hT (⟨rg_all _, hfr, hrel, ⟨_, v170992, by have k9 : (0 : Int32).toInt = 0 := (by decide); omega, by have k9 : (0 : Int32).toInt = 0 := (by decide); omega⟩⟩) (Nat.le_of_ble_eq_true rfl) (Nat.le_of_ble_eq_true rfl) dX11_land_77
    · have w171031 := cv_nle (rfl : p1.toInt = p1.toInt) (rfl : x3.toInt = x3.toInt) c170990
      refine lv_aload_n hx hb dX11_land_12 rfl (lv_at hl 0 rfl) ?_
      refine lv_iconst (v := 2) hx hb dX11_land_13 (by decide) ?_
      refine t_cVi (n := 1) (C := RX11) (T := TX11) (N := 16) (As := [.int 2]) (rest := []) X hT (kt357_X11_refuse l G tag L F hT.2.2.2 p0 2 m0 g0) m0 g0 rfl rfl qw_152 qw_153 qw_154 qw_2 qw_155 ⟨rfl, by decide +kernel, by decide +kernel, by decide +kernel⟩ ⟨Nat.le_of_ble_eq_true rfl, Nat.le_of_ble_eq_true rfl⟩ hl rfl rfl (Nat.le_of_ble_eq_true rfl) dX11_land_14 ⟨Nat.le_of_ble_eq_true rfl, Nat.le_of_ble_eq_true rfl⟩ (fun z171032 F H locs hT hz171032 => ?_)
      obtain ⟨hz171032, yz171032⟩ := hz171032
      have pf0 := (yz171032.1 _ 8 (Or.inr (by decide))).trans pf0
      have pf1 := (yz171032.1 _ 10 (Or.inr (by decide))).trans pf1
      have pf2 := (yz171032.1 _ 11 (Or.inr (by decide))).trans pf2
      have pf3 := (yz171032.1 _ 1 (Or.inr (by decide))).trans pf3
      have hfr : ∀ b j : Nat, (tag b ≠ 18 ∨ j ≠ 0) → (tag b ≠ 18 ∨ j ≠ 1) → (tag b ≠ 18 ∨ j ≠ 2) → (tag b ≠ 18 ∨ j ≠ 3) → (tag b ≠ 18 ∨ j ≠ 4) → (tag b ≠ 18 ∨ j ≠ 5) → (tag b ≠ 18 ∨ j ≠ 6) → (tag b ≠ 18 ∨ j ≠ 8) → (tag b ≠ 18 ∨ j ≠ 10) → (tag b ≠ 18 ∨ j ≠ 14) → (tag b ≠ 18 ∨ j ≠ 16) → (tag b ≠ 19 ∨ j ≠ 0) → (tag b ≠ 19 ∨ j ≠ 1) → (tag b ≠ 23 ∨ j ≠ 3) → (tag b ≠ 23 ∨ j ≠ 4) → (tag b ≠ 24 ∨ j ≠ 0) → (tag b ≠ 24 ∨ j ≠ 1) → (tag b ≠ 24 ∨ j ≠ 2) → (tag b ≠ 24 ∨ j ≠ 3) → (tag b ≠ 24 ∨ j ≠ 4) → (tag b ≠ 24 ∨ j ≠ 5) → (tag b ≠ 24 ∨ j ≠ 6) → (tag b ≠ 24 ∨ j ≠ 7) → (tag b ≠ 25 ∨ j ≠ 1) → (tag b ≠ 25 ∨ j ≠ 2) → (tag b ≠ 25 ∨ j ≠ 3) → (tag b ≠ 25 ∨ j ≠ 4) → (tag b ≠ 25 ∨ j ≠ 5) → (tag b ≠ 25 ∨ j ≠ 6) → (tag b ≠ 25 ∨ j ≠ 7) → (tag b ≠ 25 ∨ j ≠ 8) → (tag b ≠ 25 ∨ j ≠ 12) → (tag b ≠ 26 ∨ j ≠ 1) → (tag b ≠ 26 ∨ j ≠ 2) → (tag b ≠ 26 ∨ j ≠ 3) → (tag b ≠ 26 ∨ j ≠ 4) → (tag b ≠ 26 ∨ j ≠ 13) → (tag b ≠ 26 ∨ j ≠ 14) → (tag b ≠ 26 ∨ j ≠ 15) → fld F b j = fld Fo b j := fun b j n18_0 n18_1 n18_2 n18_3 n18_4 n18_5 n18_6 n18_8 n18_10 n18_14 n18_16 n19_0 n19_1 n23_3 n23_4 n24_0 n24_1 n24_2 n24_3 n24_4 n24_5 n24_6 n24_7 n25_1 n25_2 n25_3 n25_4 n25_5 n25_6 n25_7 n25_8 n25_12 n26_1 n26_2 n26_3 n26_4 n26_13 n26_14 n26_15 => (yz171032.1 b j n26_13).trans (hfr b j n18_0 n18_1 n18_2 n18_3 n18_4 n18_5 n18_6 n18_8 n18_10 n18_14 n18_16 n19_0 n19_1 n23_3 n23_4 n24_0 n24_1 n24_2 n24_3 n24_4 n24_5 n24_6 n24_7 n25_1 n25_2 n25_3 n25_4 n25_5 n25_6 n25_7 n25_8 n25_12 n26_1 n26_2 n26_3 n26_4 n26_13 n26_14 n26_15)
      have hrel := nsr_of (fun j => yz171032.2 _ j (Or.inl gx1)) (fun j => yz171032.2 _ j (Or.inr gx2)) hrel
      exact t_iret hQ X hT (⟨rg_all _, hfr, hrel, ⟨_, pf3, by omega, by omega⟩⟩) (Nat.le_of_ble_eq_true rfl) (Nat.le_of_ble_eq_true rfl) dX11_land_17
set_option maxHeartbeats 4000000 in
set_option maxRecDepth 100000 in
theorem km483_X11_putNumber (l : Launch) (G : KG) (tag : Nat → Nat) (L : List Nat) (Fo : Nat → va_E) (ho : okT G ttC tag L Fo) (p0 : Nat) (p1 : Int32) (x0 : Int32) (m0 : p0 ∈ L) (g0 : tag p0 = 26) (hx0 : 0 ≤ x0.toInt ∧ x0.toInt ≤ 996) (pf0 : fld Fo p0 1 = .int x0) : TMv l yX11_putNumber cX11_putNumber 3 { frames := 0, cells := 0, slots := 0, locals := 0 } G ttC tag L Fo [.ref p0, .int p1] (fun F1 => ((∀ b j : Nat, (tag b ≠ 26 ∨ j ≠ 1) → fld F1 b j = fld Fo b j) ∧ (∀ b j : Nat, tag b ≠ 1 → elm F1 b j = elm Fo b j)) ∧ (∃ z : Int32, fld F1 p0 1 = .int z ∧ z.toInt = x0.toInt + 4)) := by
  refine t_bodyv (y := yX11_putNumber) (cd := cX11_putNumber) (mL := 3) (rm := { frames := 0, cells := 0, slots := 0, locals := 0 }) (av := [.ref p0, .int p1]) (by decide) (Nat.le_of_ble_eq_true rfl) ho ?_
  intro p e s m args below meth c ls A Q hQ X hT hl
  have hx := X.1.1
  have hb := X.1.2.1
  have hl : lv_has ls 3 [(0, .ref p0), (1, .int p1)] := hl
  have rp1 := rg_all p1
  obtain ⟨F, hFo⟩ : ∃ F : Nat → va_E, F = Fo := ⟨_, rfl⟩
  rw [← hFo] at hT pf0
  have hfr : (∀ b j : Nat, (tag b ≠ 26 ∨ j ≠ 1) → fld F b j = fld Fo b j) ∧ (∀ b j : Nat, tag b ≠ 1 → elm F b j = elm Fo b j) := by
    rw [hFo]
    exact ⟨by intros; rfl, by intros; rfl⟩
  refine lv_bipush (v := 24) hx hb dX11_putNumber_0 (by decide) ?_
  refine lv_istore_n (lv' := [(2, .int 24), (0, .ref p0), (1, .int p1)]) hx hb dX11_putNumber_2 rfl hl (by decide) rfl (fun ls hl => ?_)
  refine lv_iload_n hx hb dX11_putNumber_3 rfl (lv_at hl 0 rfl) ?_
  refine lv_if_lt (tgt := 49) hx hb dX11_putNumber_4 (by decide) (fun c9 => absurd c9 (by decide)) (fun _ => ?_)
  refine lv_aload_n hx hb dX11_putNumber_7 rfl (lv_at hl 1 rfl) ?_
  refine t_get (C := RX11) (T := TX11) (N := 16) X hT m0 g0 rfl rfl 1 (by decide) qw_131 inlX11 rfl dX11_putNumber_8 (fun v171577 hv171577 ov171577 => ?_)
  obtain rfl : v171577 = .int x0 := hv171577.symm.trans pf0
  refine lv_sipush (v := 1000) hx hb dX11_putNumber_11 (by decide) ?_
  refine lv_icmp_ge (tgt := 43) hx hb dX11_putNumber_14 (by decide) (fun c171578 => ?_) (fun c171578 => ?_)
  · have w171579 := cv_le (by decide : (1000 : Int32).toInt = 1000) (rfl : x0.toInt = x0.toInt) c171578
    exfalso
    omega
  · have w171580 := cv_nle (by decide : (1000 : Int32).toInt = 1000) (rfl : x0.toInt = x0.toInt) c171578
    refine lv_aload_n hx hb dX11_putNumber_17 rfl (lv_at hl 1 rfl) ?_
    refine t_get (C := RX11) (T := TX11) (N := 16) X hT m0 g0 rfl rfl 0 (by decide) qw_14 inlX11 rfl dX11_putNumber_18 (fun v171581 hv171581 ov171581 => ?_)
    obtain ⟨b171582, rfl, mb171582, gb171582⟩ := okV_r ov171581
    have gb171582 : tag b171582 = 1 := tg_of gb171582
    refine lv_aload_n hx hb dX11_putNumber_21 rfl (lv_at hl 1 rfl) ?_
    refine t_get (C := RX11) (T := TX11) (N := 16) X hT m0 g0 rfl rfl 1 (by decide) qw_131 inlX11 rfl dX11_putNumber_22 (fun v171583 hv171583 ov171583 => ?_)
    obtain rfl : v171583 = .int x0 := hv171583.symm.trans pf0
    refine lv_iload_n hx hb dX11_putNumber_25 rfl (lv_at hl 2 rfl) ?_
    refine lv_iload_n hx hb dX11_putNumber_26 rfl (lv_at hl 0 rfl) ?_
    refine lv_ishr hx hb dX11_putNumber_27 ?_
    refine lv_topi (fun z171584 ez171584 => ?_)
    have rz171584 := rg_all z171584
    refine lv_sipush (v := 255) hx hb dX11_putNumber_28 (by decide) ?_
    refine lv_iand hx hb dX11_putNumber_31 ?_
    refine lv_topi (fun z171585 ez171585 => ?_)
    have rz171585 : 0 ≤ z171585.toInt ∧ z171585.toInt ≤ 255 := ar_and ez171585 8 (by decide) (by decide)
    refine t_ist X hT mb171582 gb171582 rfl (by omega) (show 0 ≤ (z171585 : Int32).toInt ∧ (z171585 : Int32).toInt ≤ 255 from (by omega)) dX11_putNumber_32 (fun F H locs hT v171586 h1v171586 h2v171586 => ?_)
    have pf0 := (h2v171586 _ _).trans pf0
    have hv171581 := (h2v171586 _ _).trans hv171581
    have hfr : (∀ b j : Nat, (tag b ≠ 26 ∨ j ≠ 1) → fld F b j = fld Fo b j) ∧ (∀ b j : Nat, tag b ≠ 1 → elm F b j = elm Fo b j) := ⟨fun b j n26_1 => (h2v171586 b j).trans (hfr.1 b j n26_1), fun b j a1 => (h1v171586 b j (Or.inl (at_ne gb171582 a1))).trans (hfr.2 b j a1)⟩
    refine lv_aload_n hx hb dX11_putNumber_33 rfl (lv_at hl 1 rfl) ?_
    refine lv_dup hx hb dX11_putNumber_34 rfl ?_
    refine t_get (C := RX11) (T := TX11) (N := 16) X hT m0 g0 rfl rfl 1 (by decide) qw_131 inlX11 rfl dX11_putNumber_35 (fun v171587 hv171587 ov171587 => ?_)
    obtain rfl : v171587 = .int x0 := hv171587.symm.trans pf0
    refine lv_iconst (v := 1) hx hb dX11_putNumber_38 (by decide) ?_
    refine lv_iadd hx hb dX11_putNumber_39 ?_
    refine lv_topi (fun z171588 ez171588 => ?_)
    have hz171588 : z171588.toInt = x0.toInt + 1 := ar_add ez171588 (rfl : x0.toInt = x0.toInt) (by decide : (1 : Int32).toInt = 1) (by omega) (by omega)
    have rz171588 : 1 ≤ z171588.toInt ∧ z171588.toInt ≤ 997 := by omega
    refine t_put (C := RX11) (T := TX11) (N := 16) (v := .int z171588) X hT m0 g0 rfl tyX11 tyX11_ok nmX11 rfl 1 (by decide) qw_131 inlX11 rfl (by first | rfl | decide) (by first | rfl | decide) rfl (⟨_, rfl, (show 0 ≤ (z171588 : Int32).toInt from (by omega)), (show (z171588 : Int32).toInt ≤ 1000 from (by omega))⟩) dX11_putNumber_40 (fun F H locs hT v171589 h1v171589 h2v171589 => ?_)
    have hv171581 := (h1v171589 _ _ (Or.inr (by decide))).trans hv171581
    have v171586 := (h2v171589 _ _).trans v171586
    have hfr : (∀ b j : Nat, (tag b ≠ 26 ∨ j ≠ 1) → fld F b j = fld Fo b j) ∧ (∀ b j : Nat, tag b ≠ 1 → elm F b j = elm Fo b j) := ⟨fun b j n26_1 => (h1v171589 b j (fr_ne g0 n26_1)).trans (hfr.1 b j n26_1), fun b j a1 => (h2v171589 b j).trans (hfr.2 b j a1)⟩
    refine lv_iinc (v := 16) (lv' := [(2, .int 16), (0, .ref p0), (1, .int p1)]) hx hb dX11_putNumber_43 hl (k := 0) rfl (by decide) (by decide) rfl (fun ls hl => ?_)
    refine lv_goto (tgt := 3) hx hb dX11_putNumber_46 (by decide) ?_
    refine lv_iload_n hx hb dX11_putNumber_3 rfl (lv_at hl 0 rfl) ?_
    refine lv_if_lt (tgt := 49) hx hb dX11_putNumber_4 (by decide) (fun c9 => absurd c9 (by decide)) (fun _ => ?_)
    refine lv_aload_n hx hb dX11_putNumber_7 rfl (lv_at hl 1 rfl) ?_
    refine t_get (C := RX11) (T := TX11) (N := 16) X hT m0 g0 rfl rfl 1 (by decide) qw_131 inlX11 rfl dX11_putNumber_8 (fun v171590 hv171590 ov171590 => ?_)
    obtain rfl : v171590 = .int z171588 := hv171590.symm.trans v171589
    refine lv_sipush (v := 1000) hx hb dX11_putNumber_11 (by decide) ?_
    refine lv_icmp_ge (tgt := 43) hx hb dX11_putNumber_14 (by decide) (fun c171591 => ?_) (fun c171591 => ?_)
    · have w171592 := cv_le (by decide : (1000 : Int32).toInt = 1000) (rfl : z171588.toInt = z171588.toInt) c171591
      exfalso
      omega
    · have w171593 := cv_nle (by decide : (1000 : Int32).toInt = 1000) (rfl : z171588.toInt = z171588.toInt) c171591
      refine lv_aload_n hx hb dX11_putNumber_17 rfl (lv_at hl 1 rfl) ?_
      refine t_get (C := RX11) (T := TX11) (N := 16) X hT m0 g0 rfl rfl 0 (by decide) qw_14 inlX11 rfl dX11_putNumber_18 (fun v171594 hv171594 ov171594 => ?_)
      obtain rfl : v171594 = .ref b171582 := hv171594.symm.trans hv171581
      refine lv_aload_n hx hb dX11_putNumber_21 rfl (lv_at hl 1 rfl) ?_
      refine t_get (C := RX11) (T := TX11) (N := 16) X hT m0 g0 rfl rfl 1 (by decide) qw_131 inlX11 rfl dX11_putNumber_22 (fun v171595 hv171595 ov171595 => ?_)
      obtain rfl : v171595 = .int z171588 := hv171595.symm.trans v171589
      refine lv_iload_n hx hb dX11_putNumber_25 rfl (lv_at hl 2 rfl) ?_
      refine lv_iload_n hx hb dX11_putNumber_26 rfl (lv_at hl 0 rfl) ?_
      refine lv_ishr hx hb dX11_putNumber_27 ?_
      refine lv_topi (fun z171596 ez171596 => ?_)
      have rz171596 := rg_all z171596
      refine lv_sipush (v := 255) hx hb dX11_putNumber_28 (by decide) ?_
      refine lv_iand hx hb dX11_putNumber_31 ?_
      refine lv_topi (fun z171597 ez171597 => ?_)
      have rz171597 : 0 ≤ z171597.toInt ∧ z171597.toInt ≤ 255 := ar_and ez171597 8 (by decide) (by decide)
      refine t_ist X hT mb171582 gb171582 rfl (by omega) (show 0 ≤ (z171597 : Int32).toInt ∧ (z171597 : Int32).toInt ≤ 255 from (by omega)) dX11_putNumber_32 (fun F H locs hT v171598 h1v171598 h2v171598 => ?_)
      have hv171581 := (h2v171598 _ _).trans hv171581
      have v171589 := (h2v171598 _ _).trans v171589
      have hfr : (∀ b j : Nat, (tag b ≠ 26 ∨ j ≠ 1) → fld F b j = fld Fo b j) ∧ (∀ b j : Nat, tag b ≠ 1 → elm F b j = elm Fo b j) := ⟨fun b j n26_1 => (h2v171598 b j).trans (hfr.1 b j n26_1), fun b j a1 => (h1v171598 b j (Or.inl (at_ne gb171582 a1))).trans (hfr.2 b j a1)⟩
      refine lv_aload_n hx hb dX11_putNumber_33 rfl (lv_at hl 1 rfl) ?_
      refine lv_dup hx hb dX11_putNumber_34 rfl ?_
      refine t_get (C := RX11) (T := TX11) (N := 16) X hT m0 g0 rfl rfl 1 (by decide) qw_131 inlX11 rfl dX11_putNumber_35 (fun v171599 hv171599 ov171599 => ?_)
      obtain rfl : v171599 = .int z171588 := hv171599.symm.trans v171589
      refine lv_iconst (v := 1) hx hb dX11_putNumber_38 (by decide) ?_
      refine lv_iadd hx hb dX11_putNumber_39 ?_
      refine lv_topi (fun z171600 ez171600 => ?_)
      have hz171600 : z171600.toInt = z171588.toInt + 1 := ar_add ez171600 (rfl : z171588.toInt = z171588.toInt) (by decide : (1 : Int32).toInt = 1) (by omega) (by omega)
      have rz171600 : 2 ≤ z171600.toInt ∧ z171600.toInt ≤ 998 := by omega
      refine t_put (C := RX11) (T := TX11) (N := 16) (v := .int z171600) X hT m0 g0 rfl tyX11 tyX11_ok nmX11 rfl 1 (by decide) qw_131 inlX11 rfl (by first | rfl | decide) (by first | rfl | decide) rfl (⟨_, rfl, (show 0 ≤ (z171600 : Int32).toInt from (by omega)), (show (z171600 : Int32).toInt ≤ 1000 from (by omega))⟩) dX11_putNumber_40 (fun F H locs hT v171601 h1v171601 h2v171601 => ?_)
      have hv171581 := (h1v171601 _ _ (Or.inr (by decide))).trans hv171581
      have v171598 := (h2v171601 _ _).trans v171598
      have hfr : (∀ b j : Nat, (tag b ≠ 26 ∨ j ≠ 1) → fld F b j = fld Fo b j) ∧ (∀ b j : Nat, tag b ≠ 1 → elm F b j = elm Fo b j) := ⟨fun b j n26_1 => (h1v171601 b j (fr_ne g0 n26_1)).trans (hfr.1 b j n26_1), fun b j a1 => (h2v171601 b j).trans (hfr.2 b j a1)⟩
      refine lv_iinc (v := 8) (lv' := [(2, .int 8), (0, .ref p0), (1, .int p1)]) hx hb dX11_putNumber_43 hl (k := 0) rfl (by decide) (by decide) rfl (fun ls hl => ?_)
      refine lv_goto (tgt := 3) hx hb dX11_putNumber_46 (by decide) ?_
      refine lv_iload_n hx hb dX11_putNumber_3 rfl (lv_at hl 0 rfl) ?_
      refine lv_if_lt (tgt := 49) hx hb dX11_putNumber_4 (by decide) (fun c9 => absurd c9 (by decide)) (fun _ => ?_)
      refine lv_aload_n hx hb dX11_putNumber_7 rfl (lv_at hl 1 rfl) ?_
      refine t_get (C := RX11) (T := TX11) (N := 16) X hT m0 g0 rfl rfl 1 (by decide) qw_131 inlX11 rfl dX11_putNumber_8 (fun v171602 hv171602 ov171602 => ?_)
      obtain rfl : v171602 = .int z171600 := hv171602.symm.trans v171601
      refine lv_sipush (v := 1000) hx hb dX11_putNumber_11 (by decide) ?_
      refine lv_icmp_ge (tgt := 43) hx hb dX11_putNumber_14 (by decide) (fun c171603 => ?_) (fun c171603 => ?_)
      · have w171604 := cv_le (by decide : (1000 : Int32).toInt = 1000) (rfl : z171600.toInt = z171600.toInt) c171603
        exfalso
        omega
      · have w171605 := cv_nle (by decide : (1000 : Int32).toInt = 1000) (rfl : z171600.toInt = z171600.toInt) c171603
        refine lv_aload_n hx hb dX11_putNumber_17 rfl (lv_at hl 1 rfl) ?_
        refine t_get (C := RX11) (T := TX11) (N := 16) X hT m0 g0 rfl rfl 0 (by decide) qw_14 inlX11 rfl dX11_putNumber_18 (fun v171606 hv171606 ov171606 => ?_)
        obtain rfl : v171606 = .ref b171582 := hv171606.symm.trans hv171581
        refine lv_aload_n hx hb dX11_putNumber_21 rfl (lv_at hl 1 rfl) ?_
        refine t_get (C := RX11) (T := TX11) (N := 16) X hT m0 g0 rfl rfl 1 (by decide) qw_131 inlX11 rfl dX11_putNumber_22 (fun v171607 hv171607 ov171607 => ?_)
        obtain rfl : v171607 = .int z171600 := hv171607.symm.trans v171601
        refine lv_iload_n hx hb dX11_putNumber_25 rfl (lv_at hl 2 rfl) ?_
        refine lv_iload_n hx hb dX11_putNumber_26 rfl (lv_at hl 0 rfl) ?_
        refine lv_ishr hx hb dX11_putNumber_27 ?_
        refine lv_topi (fun z171608 ez171608 => ?_)
        have rz171608 := rg_all z171608
        refine lv_sipush (v := 255) hx hb dX11_putNumber_28 (by decide) ?_
        refine lv_iand hx hb dX11_putNumber_31 ?_
        refine lv_topi (fun z171609 ez171609 => ?_)
        have rz171609 : 0 ≤ z171609.toInt ∧ z171609.toInt ≤ 255 := ar_and ez171609 8 (by decide) (by decide)
        refine t_ist X hT mb171582 gb171582 rfl (by omega) (show 0 ≤ (z171609 : Int32).toInt ∧ (z171609 : Int32).toInt ≤ 255 from (by omega)) dX11_putNumber_32 (fun F H locs hT v171610 h1v171610 h2v171610 => ?_)
        have hv171581 := (h2v171610 _ _).trans hv171581
        have v171601 := (h2v171610 _ _).trans v171601
        have hfr : (∀ b j : Nat, (tag b ≠ 26 ∨ j ≠ 1) → fld F b j = fld Fo b j) ∧ (∀ b j : Nat, tag b ≠ 1 → elm F b j = elm Fo b j) := ⟨fun b j n26_1 => (h2v171610 b j).trans (hfr.1 b j n26_1), fun b j a1 => (h1v171610 b j (Or.inl (at_ne gb171582 a1))).trans (hfr.2 b j a1)⟩
        refine lv_aload_n hx hb dX11_putNumber_33 rfl (lv_at hl 1 rfl) ?_
        refine lv_dup hx hb dX11_putNumber_34 rfl ?_
        refine t_get (C := RX11) (T := TX11) (N := 16) X hT m0 g0 rfl rfl 1 (by decide) qw_131 inlX11 rfl dX11_putNumber_35 (fun v171611 hv171611 ov171611 => ?_)
        obtain rfl : v171611 = .int z171600 := hv171611.symm.trans v171601
        refine lv_iconst (v := 1) hx hb dX11_putNumber_38 (by decide) ?_
        refine lv_iadd hx hb dX11_putNumber_39 ?_
        refine lv_topi (fun z171612 ez171612 => ?_)
        have hz171612 : z171612.toInt = z171600.toInt + 1 := ar_add ez171612 (rfl : z171600.toInt = z171600.toInt) (by decide : (1 : Int32).toInt = 1) (by omega) (by omega)
        have rz171612 : 3 ≤ z171612.toInt ∧ z171612.toInt ≤ 999 := by omega
        refine t_put (C := RX11) (T := TX11) (N := 16) (v := .int z171612) X hT m0 g0 rfl tyX11 tyX11_ok nmX11 rfl 1 (by decide) qw_131 inlX11 rfl (by first | rfl | decide) (by first | rfl | decide) rfl (⟨_, rfl, (show 0 ≤ (z171612 : Int32).toInt from (by omega)), (show (z171612 : Int32).toInt ≤ 1000 from (by omega))⟩) dX11_putNumber_40 (fun F H locs hT v171613 h1v171613 h2v171613 => ?_)
        have hv171581 := (h1v171613 _ _ (Or.inr (by decide))).trans hv171581
        have v171610 := (h2v171613 _ _).trans v171610
        have hfr : (∀ b j : Nat, (tag b ≠ 26 ∨ j ≠ 1) → fld F b j = fld Fo b j) ∧ (∀ b j : Nat, tag b ≠ 1 → elm F b j = elm Fo b j) := ⟨fun b j n26_1 => (h1v171613 b j (fr_ne g0 n26_1)).trans (hfr.1 b j n26_1), fun b j a1 => (h2v171613 b j).trans (hfr.2 b j a1)⟩
        refine lv_iinc (v := 0) (lv' := [(2, .int 0), (0, .ref p0), (1, .int p1)]) hx hb dX11_putNumber_43 hl (k := 0) rfl (by decide) (by decide) rfl (fun ls hl => ?_)
        refine lv_goto (tgt := 3) hx hb dX11_putNumber_46 (by decide) ?_
        refine lv_iload_n hx hb dX11_putNumber_3 rfl (lv_at hl 0 rfl) ?_
        refine lv_if_lt (tgt := 49) hx hb dX11_putNumber_4 (by decide) (fun c9 => absurd c9 (by decide)) (fun _ => ?_)
        refine lv_aload_n hx hb dX11_putNumber_7 rfl (lv_at hl 1 rfl) ?_
        refine t_get (C := RX11) (T := TX11) (N := 16) X hT m0 g0 rfl rfl 1 (by decide) qw_131 inlX11 rfl dX11_putNumber_8 (fun v171614 hv171614 ov171614 => ?_)
        obtain rfl : v171614 = .int z171612 := hv171614.symm.trans v171613
        refine lv_sipush (v := 1000) hx hb dX11_putNumber_11 (by decide) ?_
        refine lv_icmp_ge (tgt := 43) hx hb dX11_putNumber_14 (by decide) (fun c171615 => ?_) (fun c171615 => ?_)
        · have w171616 := cv_le (by decide : (1000 : Int32).toInt = 1000) (rfl : z171612.toInt = z171612.toInt) c171615
          exfalso
          omega
        · have w171617 := cv_nle (by decide : (1000 : Int32).toInt = 1000) (rfl : z171612.toInt = z171612.toInt) c171615
          refine lv_aload_n hx hb dX11_putNumber_17 rfl (lv_at hl 1 rfl) ?_
          refine t_get (C := RX11) (T := TX11) (N := 16) X hT m0 g0 rfl rfl 0 (by decide) qw_14 inlX11 rfl dX11_putNumber_18 (fun v171618 hv171618 ov171618 => ?_)
          obtain rfl : v171618 = .ref b171582 := hv171618.symm.trans hv171581
          refine lv_aload_n hx hb dX11_putNumber_21 rfl (lv_at hl 1 rfl) ?_
          refine t_get (C := RX11) (T := TX11) (N := 16) X hT m0 g0 rfl rfl 1 (by decide) qw_131 inlX11 rfl dX11_putNumber_22 (fun v171619 hv171619 ov171619 => ?_)
          obtain rfl : v171619 = .int z171612 := hv171619.symm.trans v171613
          refine lv_iload_n hx hb dX11_putNumber_25 rfl (lv_at hl 2 rfl) ?_
          refine lv_iload_n hx hb dX11_putNumber_26 rfl (lv_at hl 0 rfl) ?_
          refine lv_ishr hx hb dX11_putNumber_27 ?_
          refine lv_topi (fun z171620 ez171620 => ?_)
          obtain rfl : p1 = z171620 := (ar_shr0 ez171620).symm
          refine lv_sipush (v := 255) hx hb dX11_putNumber_28 (by decide) ?_
          refine lv_iand hx hb dX11_putNumber_31 ?_
          refine lv_topi (fun z171621 ez171621 => ?_)
          have rz171621 : 0 ≤ z171621.toInt ∧ z171621.toInt ≤ 255 := ar_and ez171621 8 (by decide) (by decide)
          refine t_ist X hT mb171582 gb171582 rfl (by omega) (show 0 ≤ (z171621 : Int32).toInt ∧ (z171621 : Int32).toInt ≤ 255 from (by omega)) dX11_putNumber_32 (fun F H locs hT v171622 h1v171622 h2v171622 => ?_)
          have hv171581 := (h2v171622 _ _).trans hv171581
          have v171613 := (h2v171622 _ _).trans v171613
          have hfr : (∀ b j : Nat, (tag b ≠ 26 ∨ j ≠ 1) → fld F b j = fld Fo b j) ∧ (∀ b j : Nat, tag b ≠ 1 → elm F b j = elm Fo b j) := ⟨fun b j n26_1 => (h2v171622 b j).trans (hfr.1 b j n26_1), fun b j a1 => (h1v171622 b j (Or.inl (at_ne gb171582 a1))).trans (hfr.2 b j a1)⟩
          refine lv_aload_n hx hb dX11_putNumber_33 rfl (lv_at hl 1 rfl) ?_
          refine lv_dup hx hb dX11_putNumber_34 rfl ?_
          refine t_get (C := RX11) (T := TX11) (N := 16) X hT m0 g0 rfl rfl 1 (by decide) qw_131 inlX11 rfl dX11_putNumber_35 (fun v171623 hv171623 ov171623 => ?_)
          obtain rfl : v171623 = .int z171612 := hv171623.symm.trans v171613
          refine lv_iconst (v := 1) hx hb dX11_putNumber_38 (by decide) ?_
          refine lv_iadd hx hb dX11_putNumber_39 ?_
          refine lv_topi (fun z171624 ez171624 => ?_)
          have hz171624 : z171624.toInt = z171612.toInt + 1 := ar_add ez171624 (rfl : z171612.toInt = z171612.toInt) (by decide : (1 : Int32).toInt = 1) (by omega) (by omega)
          have rz171624 : 4 ≤ z171624.toInt ∧ z171624.toInt ≤ 1000 := by omega
          refine t_put (C := RX11) (T := TX11) (N := 16) (v := .int z171624) X hT m0 g0 rfl tyX11 tyX11_ok nmX11 rfl 1 (by decide) qw_131 inlX11 rfl (by first | rfl | decide) (by first | rfl | decide) rfl (⟨_, rfl, (show 0 ≤ (z171624 : Int32).toInt from (by omega)), (show (z171624 : Int32).toInt ≤ 1000 from (by omega))⟩) dX11_putNumber_40 (fun F H locs hT v171625 h1v171625 h2v171625 => ?_)
          have hv171581 := (h1v171625 _ _ (Or.inr (by decide))).trans hv171581
          have v171622 := (h2v171625 _ _).trans v171622
          have hfr : (∀ b j : Nat, (tag b ≠ 26 ∨ j ≠ 1) → fld F b j = fld Fo b j) ∧ (∀ b j : Nat, tag b ≠ 1 → elm F b j = elm Fo b j) := ⟨fun b j n26_1 => (h1v171625 b j (fr_ne g0 n26_1)).trans (hfr.1 b j n26_1), fun b j a1 => (h2v171625 b j).trans (hfr.2 b j a1)⟩
          refine lv_iinc (v := (-8)) (lv' := [(2, .int (-8)), (0, .ref p0), (1, .int p1)]) hx hb dX11_putNumber_43 hl (k := 0) rfl (by decide) (by decide) rfl (fun ls hl => ?_)
          refine lv_goto (tgt := 3) hx hb dX11_putNumber_46 (by decide) ?_
          refine lv_iload_n hx hb dX11_putNumber_3 rfl (lv_at hl 0 rfl) ?_
          refine lv_if_lt (tgt := 49) hx hb dX11_putNumber_4 (by decide) (fun _ => ?_) (fun c9 => absurd c9 (by decide))
          exact t_vret hQ X hT ⟨hfr, ⟨_, v171625, by omega⟩⟩ (Nat.le_of_ble_eq_true rfl) (Nat.le_of_ble_eq_true rfl) dX11_putNumber_49
