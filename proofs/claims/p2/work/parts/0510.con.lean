set_option maxHeartbeats 4000000 in
set_option maxRecDepth 100000 in
theorem kt88_X11_answer (l : Launch) (G : KG) (tag : Nat → Nat) (L : List Nat) (Fo : Nat → va_E) (ho : okT G ttC tag L Fo) (p0 : Nat) (p1 : Int32) (m0 : p0 ∈ L) (g0 : tag p0 = 26) : TMi l yX11_answer cX11_answer 2 (some .int) { frames := 0, cells := 0, slots := 0, locals := 0 } G ttC tag L Fo [.ref p0, .int p1] (fun r F1 => ((-2147483648) ≤ r.toInt ∧ r.toInt ≤ 2147483647) ∧ (∀ b j : Nat, (tag b ≠ 26 ∨ j ≠ 13) → fld F1 b j = fld Fo b j)) := by
  refine t_bodyi (y := yX11_answer) (cd := cX11_answer) (mL := 2) (rt := (some .int)) (rm := { frames := 0, cells := 0, slots := 0, locals := 0 }) (av := [.ref p0, .int p1]) (by decide) (Nat.le_of_ble_eq_true rfl) ho ?_
  intro p e s m args below meth c ls A Q hQ X hT hl
  have hx := X.1.1
  have hb := X.1.2.1
  have hl : lv_has ls 2 [(0, .ref p0), (1, .int p1)] := hl
  have rp1 := rg_all p1
  obtain ⟨F, hFo⟩ : ∃ F : Nat → va_E, F = Fo := ⟨_, rfl⟩
  rw [← hFo] at hT
  have hfr : ∀ b j : Nat, (tag b ≠ 26 ∨ j ≠ 13) → fld F b j = fld Fo b j := by
    rw [hFo]
    intros
    rfl
  refine lv_aload_n hx hb dX11_answer_0 rfl (lv_at hl 0 rfl) ?_
  refine lv_iconst (v := 0) hx hb dX11_answer_1 (by decide) ?_
  refine t_put (C := RX11) (T := TX11) (N := 16) (v := .int 0) X hT m0 g0 rfl tyX11 tyX11_ok nmX11 rfl 13 (by decide) qw_156 inlX11 rfl (by first | rfl | decide) (by first | rfl | decide) rfl (⟨_, rfl, (by decide), (by decide)⟩) dX11_answer_2 (fun F H locs hT v30015 h1v30015 h2v30015 => ?_)
  have hfr : ∀ b j : Nat, (tag b ≠ 26 ∨ j ≠ 13) → fld F b j = fld Fo b j := fun b j n26_13 => (h1v30015 b j (fr_ne g0 n26_13)).trans (hfr b j n26_13)
  refine lv_iload_n hx hb dX11_answer_5 rfl (lv_at hl 1 rfl) ?_
  exact t_iret hQ X hT (⟨rg_all _, hfr⟩) (Nat.le_of_ble_eq_true rfl) (Nat.le_of_ble_eq_true rfl) dX11_answer_6
set_option maxHeartbeats 4000000 in
set_option maxRecDepth 100000 in
theorem kt89_X2_goToMark (l : Launch) (G : KG) (tag : Nat → Nat) (L : List Nat) (Fo : Nat → va_E) (ho : okT G ttC tag L Fo) (p0 : Nat) (p1 : Nat) (p2 : Int32) (m0 : p0 ∈ L) (g0 : tag p0 = 23) (m1 : p1 ∈ L) (g1 : tag p1 = 19) : TMi l yX2_goToMark cX2_goToMark 3 (some .boolean) { frames := 2, cells := 0, slots := 0, locals := 45 } G ttC tag L Fo [.ref p0, .ref p1, .int p2] (fun r F1 => (0 ≤ r.toInt ∧ r.toInt ≤ 1) ∧ (∀ b j : Nat, (tag b ≠ 19 ∨ j ≠ 0) → (tag b ≠ 19 ∨ j ≠ 1) → (tag b ≠ 23 ∨ j ≠ 3) → fld F1 b j = fld Fo b j)) := by
  refine t_bodyi (y := yX2_goToMark) (cd := cX2_goToMark) (mL := 3) (rt := (some .boolean)) (rm := { frames := 2, cells := 0, slots := 0, locals := 45 }) (av := [.ref p0, .ref p1, .int p2]) (by decide) (Nat.le_of_ble_eq_true rfl) ho ?_
  intro p e s m args below meth c ls A Q hQ X hT hl
  have hx := X.1.1
  have hb := X.1.2.1
  have hl : lv_has ls 3 [(0, .ref p0), (1, .ref p1), (2, .int p2)] := hl
  have rp2 := rg_all p2
  obtain ⟨F, hFo⟩ : ∃ F : Nat → va_E, F = Fo := ⟨_, rfl⟩
  rw [← hFo] at hT
  have hfr : ∀ b j : Nat, (tag b ≠ 19 ∨ j ≠ 0) → (tag b ≠ 19 ∨ j ≠ 1) → (tag b ≠ 23 ∨ j ≠ 3) → fld F b j = fld Fo b j := by
    rw [hFo]
    intros
    rfl
  refine lv_iload_n hx hb dX2_goToMark_0 rfl (lv_at hl 2 rfl) ?_
  refine lv_if_lt (tgt := 12) hx hb dX2_goToMark_1 (by decide) (fun c30163 => ?_) (fun c30163 => ?_)
  · have w30164 := cv_lt (rfl : p2.toInt = p2.toInt) (by decide : (0 : Int32).toInt = 0) c30163
    refine lv_iconst (v := 0) hx hb dX2_goToMark_12 (by decide) ?_
    exact t_zret hQ X hT (by decide) (⟨(by decide), hfr⟩) (Nat.le_of_ble_eq_true rfl) (Nat.le_of_ble_eq_true rfl) dX2_goToMark_13
  · have w30165 := cv_nlt (rfl : p2.toInt = p2.toInt) (by decide : (0 : Int32).toInt = 0) c30163
    refine lv_iload_n hx hb dX2_goToMark_4 rfl (lv_at hl 2 rfl) ?_
    refine lv_aload_n hx hb dX2_goToMark_5 rfl (lv_at hl 0 rfl) ?_
    refine t_get (C := RX2) (T := TX2) (N := 5) X hT m0 g0 rfl rfl 4 (by decide) qw_462 inlX2 rfl dX2_goToMark_6 (fun v30166 hv30166 ov30166 => ?_)
    obtain ⟨z30167, rfl, rz30167⟩ := okV_i ov30166
    refine lv_icmp_lt (tgt := 14) hx hb dX2_goToMark_9 (by decide) (fun c30168 => ?_) (fun c30168 => ?_)
    · have w30169 := cv_lt (rfl : p2.toInt = p2.toInt) (rfl : z30167.toInt = z30167.toInt) c30168
      refine lv_aload_n hx hb dX2_goToMark_14 rfl (lv_at hl 1 rfl) ?_
      refine lv_aload_n hx hb dX2_goToMark_15 rfl (lv_at hl 0 rfl) ?_
      refine t_get (C := RX2) (T := TX2) (N := 5) X hT m0 g0 rfl rfl 1 (by decide) qw_104 inlX2 rfl dX2_goToMark_16 (fun v30170 hv30170 ov30170 => ?_)
      obtain ⟨b30171, rfl, mb30171, gb30171⟩ := okV_r ov30170
      have gb30171 : tag b30171 = 17 := tg_of gb30171
      refine lv_iload_n hx hb dX2_goToMark_19 rfl (lv_at hl 2 rfl) ?_
      refine t_ald X hT mb30171 gb30171 rfl (by omega) dX2_goToMark_20 (fun b30172 mb30172 gb30172 => ?_)
      have gb30172 : tag b30172 = 19 := tg_of gb30172
      refine t_cVv (n := 1) (C := RX7) (T := TX7) (N := 7) (As := [.ref b30172]) (rest := []) X hT (kt77_X7_copyFrom l G tag L F hT.2.2.2 p1 b30172 m1 g1 mb30172 gb30172) m1 g1 rfl rfl qw_1432 qw_450 qw_451 qw_22 qw_452 ⟨rfl, by decide +kernel, by decide +kernel, by decide +kernel⟩ ⟨Nat.le_of_ble_eq_true rfl, Nat.le_of_ble_eq_true rfl⟩ hl rfl rfl (Nat.le_of_ble_eq_true rfl) dX2_goToMark_21 ⟨Nat.le_of_ble_eq_true rfl, Nat.le_of_ble_eq_true rfl⟩ (fun F H locs hT hz30173 => ?_)
      have yz30173 := hz30173
      have hv30166 := (yz30173 _ 4 (Or.inr (by decide)) (Or.inr (by decide))).trans hv30166
      have hv30170 := (yz30173 _ 1 (Or.inr (by decide)) (Or.inl (by rw [g0]; decide))).trans hv30170
      have hfr : ∀ b j : Nat, (tag b ≠ 19 ∨ j ≠ 0) → (tag b ≠ 19 ∨ j ≠ 1) → (tag b ≠ 23 ∨ j ≠ 3) → fld F b j = fld Fo b j := fun b j n19_0 n19_1 n23_3 => (yz30173 b j n19_0 n19_1).trans (hfr b j n19_0 n19_1 n23_3)
      refine lv_aload_n hx hb dX2_goToMark_24 rfl (lv_at hl 0 rfl) ?_
      refine lv_iconst (v := 0) hx hb dX2_goToMark_25 (by decide) ?_
      refine t_put (C := RX2) (T := TX2) (N := 5) (v := .int 0) X hT m0 g0 rfl tyX2 tyX2_ok nmX2 rfl 3 (by decide) qw_461 inlX2 rfl (by first | rfl | decide) (by first | rfl | decide) rfl (⟨_, rfl, (by decide), (by decide)⟩) dX2_goToMark_26 (fun F H locs hT v30174 h1v30174 h2v30174 => ?_)
      have hv30166 := (h1v30174 _ _ (Or.inr (by decide))).trans hv30166
      have hv30170 := (h1v30174 _ _ (Or.inr (by decide))).trans hv30170
      have hfr : ∀ b j : Nat, (tag b ≠ 19 ∨ j ≠ 0) → (tag b ≠ 19 ∨ j ≠ 1) → (tag b ≠ 23 ∨ j ≠ 3) → fld F b j = fld Fo b j := fun b j n19_0 n19_1 n23_3 => (h1v30174 b j (fr_ne g0 n23_3)).trans (hfr b j n19_0 n19_1 n23_3)
      refine lv_iconst (v := 1) hx hb dX2_goToMark_29 (by decide) ?_
      exact t_zret hQ X hT (by decide) (⟨(by decide), hfr⟩) (Nat.le_of_ble_eq_true rfl) (Nat.le_of_ble_eq_true rfl) dX2_goToMark_30
    · have w30175 := cv_nlt (rfl : p2.toInt = p2.toInt) (rfl : z30167.toInt = z30167.toInt) c30168
      refine lv_iconst (v := 0) hx hb dX2_goToMark_12 (by decide) ?_
      exact t_zret hQ X hT (by decide) (⟨(by decide), hfr⟩) (Nat.le_of_ble_eq_true rfl) (Nat.le_of_ble_eq_true rfl) dX2_goToMark_13
set_option maxHeartbeats 4000000 in
set_option maxRecDepth 100000 in
theorem kt90_X11_no (l : Launch) (G : KG) (tag : Nat → Nat) (L : List Nat) (Fo : Nat → va_E) (ho : okT G ttC tag L Fo) (p0 : Nat) (p1 : Int32) (m0 : p0 ∈ L) (g0 : tag p0 = 26) : TMi l yX11_no cX11_no 2 (some .boolean) { frames := 0, cells := 0, slots := 0, locals := 0 } G ttC tag L Fo [.ref p0, .int p1] (fun r F1 => (0 ≤ r.toInt ∧ r.toInt ≤ 0) ∧ (∀ b j : Nat, (tag b ≠ 26 ∨ j ≠ 13) → fld F1 b j = fld Fo b j)) := by
  refine t_bodyi (y := yX11_no) (cd := cX11_no) (mL := 2) (rt := (some .boolean)) (rm := { frames := 0, cells := 0, slots := 0, locals := 0 }) (av := [.ref p0, .int p1]) (by decide) (Nat.le_of_ble_eq_true rfl) ho ?_
  intro p e s m args below meth c ls A Q hQ X hT hl
  have hx := X.1.1
  have hb := X.1.2.1
  have hl : lv_has ls 2 [(0, .ref p0), (1, .int p1)] := hl
  have rp1 := rg_all p1
  obtain ⟨F, hFo⟩ : ∃ F : Nat → va_E, F = Fo := ⟨_, rfl⟩
  rw [← hFo] at hT
  have hfr : ∀ b j : Nat, (tag b ≠ 26 ∨ j ≠ 13) → fld F b j = fld Fo b j := by
    rw [hFo]
    intros
    rfl
  refine lv_aload_n hx hb dX11_no_0 rfl (lv_at hl 0 rfl) ?_
  refine lv_iload_n hx hb dX11_no_1 rfl (lv_at hl 1 rfl) ?_
  refine t_put (C := RX11) (T := TX11) (N := 16) (v := .int p1) X hT m0 g0 rfl tyX11 tyX11_ok nmX11 rfl 13 (by decide) qw_156 inlX11 rfl (by first | rfl | decide) (by first | rfl | decide) rfl (⟨_, rfl, (by omega), (by omega)⟩) dX11_no_2 (fun F H locs hT v30190 h1v30190 h2v30190 => ?_)
  have hfr : ∀ b j : Nat, (tag b ≠ 26 ∨ j ≠ 13) → fld F b j = fld Fo b j := fun b j n26_13 => (h1v30190 b j (fr_ne g0 n26_13)).trans (hfr b j n26_13)
  refine lv_iconst (v := 0) hx hb dX11_no_5 (by decide) ?_
  exact t_zret hQ X hT (by decide) (⟨(by decide), hfr⟩) (Nat.le_of_ble_eq_true rfl) (Nat.le_of_ble_eq_true rfl) dX11_no_6
set_option maxHeartbeats 4000000 in
set_option maxRecDepth 100000 in
theorem kt91_X11_yes (l : Launch) (G : KG) (tag : Nat → Nat) (L : List Nat) (Fo : Nat → va_E) (ho : okT G ttC tag L Fo) (p0 : Nat) (m0 : p0 ∈ L) (g0 : tag p0 = 26) : TMi l yX11_yes cX11_yes 1 (some .boolean) { frames := 0, cells := 0, slots := 0, locals := 0 } G ttC tag L Fo [.ref p0] (fun r F1 => (1 ≤ r.toInt ∧ r.toInt ≤ 1) ∧ (∀ b j : Nat, (tag b ≠ 26 ∨ j ≠ 13) → fld F1 b j = fld Fo b j)) := by
  refine t_bodyi (y := yX11_yes) (cd := cX11_yes) (mL := 1) (rt := (some .boolean)) (rm := { frames := 0, cells := 0, slots := 0, locals := 0 }) (av := [.ref p0]) (by decide) (Nat.le_of_ble_eq_true rfl) ho ?_
  intro p e s m args below meth c ls A Q hQ X hT hl
  have hx := X.1.1
  have hb := X.1.2.1
  have hl : lv_has ls 1 [(0, .ref p0)] := hl
  obtain ⟨F, hFo⟩ : ∃ F : Nat → va_E, F = Fo := ⟨_, rfl⟩
  rw [← hFo] at hT
  have hfr : ∀ b j : Nat, (tag b ≠ 26 ∨ j ≠ 13) → fld F b j = fld Fo b j := by
    rw [hFo]
    intros
    rfl
  refine lv_aload_n hx hb dX11_yes_0 rfl (lv_at hl 0 rfl) ?_
  refine lv_iconst (v := 0) hx hb dX11_yes_1 (by decide) ?_
  refine t_put (C := RX11) (T := TX11) (N := 16) (v := .int 0) X hT m0 g0 rfl tyX11 tyX11_ok nmX11 rfl 13 (by decide) qw_156 inlX11 rfl (by first | rfl | decide) (by first | rfl | decide) rfl (⟨_, rfl, (by decide), (by decide)⟩) dX11_yes_2 (fun F H locs hT v30204 h1v30204 h2v30204 => ?_)
  have hfr : ∀ b j : Nat, (tag b ≠ 26 ∨ j ≠ 13) → fld F b j = fld Fo b j := fun b j n26_13 => (h1v30204 b j (fr_ne g0 n26_13)).trans (hfr b j n26_13)
  refine lv_iconst (v := 1) hx hb dX11_yes_5 (by decide) ?_
  exact t_zret hQ X hT (by decide) (⟨(by decide), hfr⟩) (Nat.le_of_ble_eq_true rfl) (Nat.le_of_ble_eq_true rfl) dX11_yes_6
set_option maxHeartbeats 4000000 in
set_option maxRecDepth 100000 in
theorem kt92_X11_back (l : Launch) (G : KG) (tag : Nat → Nat) (L : List Nat) (Fo : Nat → va_E) (ho : okT G ttC tag L Fo) (p0 : Nat) (p1 : Int32) (m0 : p0 ∈ L) (g0 : tag p0 = 26) : TMi l yX11_back cX11_back 2 (some .boolean) { frames := 3, cells := 0, slots := 0, locals := 67 } G ttC tag L Fo [.ref p0, .int p1] (fun r F1 => (0 ≤ r.toInt ∧ r.toInt ≤ 1) ∧ (∀ b j : Nat, (tag b ≠ 19 ∨ j ≠ 0) → (tag b ≠ 19 ∨ j ≠ 1) → (tag b ≠ 23 ∨ j ≠ 3) → (tag b ≠ 26 ∨ j ≠ 13) → fld F1 b j = fld Fo b j)) := by
  refine t_bodyi (y := yX11_back) (cd := cX11_back) (mL := 2) (rt := (some .boolean)) (rm := { frames := 3, cells := 0, slots := 0, locals := 67 }) (av := [.ref p0, .int p1]) (by decide) (Nat.le_of_ble_eq_true rfl) ho ?_
  intro p e s m args below meth c ls A Q hQ X hT hl
  have hx := X.1.1
  have hb := X.1.2.1
  have hl : lv_has ls 2 [(0, .ref p0), (1, .int p1)] := hl
  have rp1 := rg_all p1
  obtain ⟨F, hFo⟩ : ∃ F : Nat → va_E, F = Fo := ⟨_, rfl⟩
  rw [← hFo] at hT
  have hfr : ∀ b j : Nat, (tag b ≠ 19 ∨ j ≠ 0) → (tag b ≠ 19 ∨ j ≠ 1) → (tag b ≠ 23 ∨ j ≠ 3) → (tag b ≠ 26 ∨ j ≠ 13) → fld F b j = fld Fo b j := by
    rw [hFo]
    intros
    rfl
  refine lv_aload_n hx hb dX11_back_0 rfl (lv_at hl 0 rfl) ?_
  refine t_get (C := RX11) (T := TX11) (N := 16) X hT m0 g0 rfl rfl 12 (by decide) qw_45 inlX11 rfl dX11_back_1 (fun v30306 hv30306 ov30306 => ?_)
  obtain ⟨b30307, rfl, mb30307, gb30307⟩ := okV_r ov30306
  have gb30307 : tag b30307 = 23 := tg_of gb30307
  refine lv_aload_n hx hb dX11_back_4 rfl (lv_at hl 0 rfl) ?_
  refine t_get (C := RX11) (T := TX11) (N := 16) X hT m0 g0 rfl rfl 5 (by decide) qw_23 inlX11 rfl dX11_back_5 (fun v30308 hv30308 ov30308 => ?_)
  obtain ⟨b30309, rfl, mb30309, gb30309⟩ := okV_r ov30308
  have gb30309 : tag b30309 = 19 := tg_of gb30309
  refine lv_iload_n hx hb dX11_back_8 rfl (lv_at hl 1 rfl) ?_
  refine t_cVi (n := 2) (C := RX2) (T := TX2) (N := 5) (As := [.ref b30309, .int p1]) (rest := []) X hT (kt89_X2_goToMark l G tag L F hT.2.2.2 b30307 b30309 p1 mb30307 gb30307 mb30309 gb30309) mb30307 gb30307 rfl rfl qw_1545 qw_1546 qw_1547 qw_44 qw_1548 ⟨rfl, by decide +kernel, by decide +kernel, by decide +kernel⟩ ⟨Nat.le_of_ble_eq_true rfl, Nat.le_of_ble_eq_true rfl⟩ hl rfl rfl (Nat.le_of_ble_eq_true rfl) dX11_back_9 ⟨Nat.le_of_ble_eq_true rfl, Nat.le_of_ble_eq_true rfl⟩ (fun z30310 F H locs hT hz30310 => ?_)
  obtain ⟨hz30310, yz30310⟩ := hz30310
  have hv30306 := (yz30310 _ 12 (Or.inr (by decide)) (Or.inr (by decide)) (Or.inr (by decide))).trans hv30306
  have hv30308 := (yz30310 _ 5 (Or.inr (by decide)) (Or.inr (by decide)) (Or.inr (by decide))).trans hv30308
  have hfr : ∀ b j : Nat, (tag b ≠ 19 ∨ j ≠ 0) → (tag b ≠ 19 ∨ j ≠ 1) → (tag b ≠ 23 ∨ j ≠ 3) → (tag b ≠ 26 ∨ j ≠ 13) → fld F b j = fld Fo b j := fun b j n19_0 n19_1 n23_3 n26_13 => (yz30310 b j n19_0 n19_1 n23_3).trans (hfr b j n19_0 n19_1 n23_3 n26_13)
  refine lv_if_eq (tgt := 22) hx hb dX11_back_12 (by decide) (fun c30311 => ?_) (fun c30311 => ?_)
  · have w30312 := cv_eq (rfl : z30310.toInt = z30310.toInt) (by decide : (0 : Int32).toInt = 0) c30311
    refine lv_aload_n hx hb dX11_back_22 rfl (lv_at hl 0 rfl) ?_
    refine lv_iconst (v := 1) hx hb dX11_back_23 (by decide) ?_
    refine t_cVi (n := 1) (C := RX11) (T := TX11) (N := 16) (As := [.int 1]) (rest := []) X hT (kt90_X11_no l G tag L F hT.2.2.2 p0 1 m0 g0) m0 g0 rfl rfl qw_1454 qw_1455 qw_1456 qw_2 qw_1457 ⟨rfl, by decide +kernel, by decide +kernel, by decide +kernel⟩ ⟨Nat.le_of_ble_eq_true rfl, Nat.le_of_ble_eq_true rfl⟩ hl rfl rfl (Nat.le_of_ble_eq_true rfl) dX11_back_24 ⟨Nat.le_of_ble_eq_true rfl, Nat.le_of_ble_eq_true rfl⟩ (fun z30313 F H locs hT hz30313 => ?_)
    obtain ⟨hz30313, yz30313⟩ := hz30313
    have hv30306 := (yz30313 _ 12 (Or.inr (by decide))).trans hv30306
    have hv30308 := (yz30313 _ 5 (Or.inr (by decide))).trans hv30308
    have hfr : ∀ b j : Nat, (tag b ≠ 19 ∨ j ≠ 0) → (tag b ≠ 19 ∨ j ≠ 1) → (tag b ≠ 23 ∨ j ≠ 3) → (tag b ≠ 26 ∨ j ≠ 13) → fld F b j = fld Fo b j := fun b j n19_0 n19_1 n23_3 n26_13 => (yz30313 b j n26_13).trans (hfr b j n19_0 n19_1 n23_3 n26_13)
    exact t_zret hQ X hT (nar_z (by omega)) (⟨(by omega), hfr⟩) (Nat.le_of_ble_eq_true rfl) (Nat.le_of_ble_eq_true rfl) dX11_back_27
  · have w30314 := cv_ne (rfl : z30310.toInt = z30310.toInt) (by decide : (0 : Int32).toInt = 0) c30311
    refine lv_aload_n hx hb dX11_back_15 rfl (lv_at hl 0 rfl) ?_
    refine t_cVi (n := 0) (C := RX11) (T := TX11) (N := 16) (As := []) (rest := []) X hT (kt91_X11_yes l G tag L F hT.2.2.2 p0 m0 g0) m0 g0 rfl rfl qw_1460 qw_1461 qw_1462 qw_2 qw_1463 ⟨rfl, by decide +kernel, by decide +kernel, by decide +kernel⟩ ⟨Nat.le_of_ble_eq_true rfl, Nat.le_of_ble_eq_true rfl⟩ hl rfl rfl (Nat.le_of_ble_eq_true rfl) dX11_back_16 ⟨Nat.le_of_ble_eq_true rfl, Nat.le_of_ble_eq_true rfl⟩ (fun z30315 F H locs hT hz30315 => ?_)
    obtain ⟨hz30315, yz30315⟩ := hz30315
    have hv30306 := (yz30315 _ 12 (Or.inr (by decide))).trans hv30306
    have hv30308 := (yz30315 _ 5 (Or.inr (by decide))).trans hv30308
    have hfr : ∀ b j : Nat, (tag b ≠ 19 ∨ j ≠ 0) → (tag b ≠ 19 ∨ j ≠ 1) → (tag b ≠ 23 ∨ j ≠ 3) → (tag b ≠ 26 ∨ j ≠ 13) → fld F b j = fld Fo b j := fun b j n19_0 n19_1 n23_3 n26_13 => (yz30315 b j n26_13).trans (hfr b j n19_0 n19_1 n23_3 n26_13)
    refine lv_goto (tgt := 27) hx hb dX11_back_19 (by decide) ?_
    exact t_zret hQ X hT (nar_z (by omega)) (⟨(by omega), hfr⟩) (Nat.le_of_ble_eq_true rfl) (Nat.le_of_ble_eq_true rfl) dX11_back_27
set_option maxHeartbeats 4000000 in
set_option maxRecDepth 100000 in
theorem kt93_X11_isHouse (l : Launch) (G : KG) (tag : Nat → Nat) (L : List Nat) (F : Nat → va_E) (ho : okT G ttC tag L F) (p0 : Nat) (p1 : Int32) (m0 : p0 ∈ L) (g0 : tag p0 = 26) : TMi l yX11_isHouse cX11_isHouse 2 (some .boolean) { frames := 0, cells := 0, slots := 0, locals := 0 } G ttC tag L F [.ref p0, .int p1] (fun r F1 => F1 = F ∧ ((0 ≤ r.toInt ∧ r.toInt ≤ 1) ∧ (r.toInt ≠ 0 → (0 ≤ p1.toInt ∧ p1.toInt ≤ 3)))) := by
  refine t_bodyi (y := yX11_isHouse) (cd := cX11_isHouse) (mL := 2) (rt := (some .boolean)) (rm := { frames := 0, cells := 0, slots := 0, locals := 0 }) (av := [.ref p0, .int p1]) (by decide) (Nat.le_of_ble_eq_true rfl) ho ?_
  intro p e s m args below meth c ls A Q hQ X hT hl
  have hx := X.1.1
  have hb := X.1.2.1
  have hl : lv_has ls 2 [(0, .ref p0), (1, .int p1)] := hl
  have rp1 := rg_all p1
  refine lv_aload_n hx hb dX11_isHouse_0 rfl (lv_at hl 0 rfl) ?_
  refine t_get (C := RX11) (T := TX11) (N := 16) X hT m0 g0 rfl rfl 2 (by decide) qw_150 inlX11 rfl dX11_isHouse_1 (fun v30481 hv30481 ov30481 => ?_)
  obtain ⟨z30482, rfl, rz30482⟩ := okV_i ov30481
  refine lv_if_eq (tgt := 26) hx hb dX11_isHouse_4 (by decide) (fun c30483 => ?_) (fun c30483 => ?_)
  · have w30484 := cv_eq (rfl : z30482.toInt = z30482.toInt) (by decide : (0 : Int32).toInt = 0) c30483
    refine lv_iconst (v := 0) hx hb dX11_isHouse_26 (by decide) ?_
    exact t_zret hQ X hT (by decide) (⟨rfl, ⟨(by decide), fun h => absurd (by decide) h⟩⟩) (Nat.le_of_ble_eq_true rfl) (Nat.le_of_ble_eq_true rfl) dX11_isHouse_27
  · have w30485 := cv_ne (rfl : z30482.toInt = z30482.toInt) (by decide : (0 : Int32).toInt = 0) c30483
    refine lv_iload_n hx hb dX11_isHouse_7 rfl (lv_at hl 1 rfl) ?_
    refine lv_if_lt (tgt := 26) hx hb dX11_isHouse_8 (by decide) (fun c30486 => ?_) (fun c30486 => ?_)
    · have w30487 := cv_lt (rfl : p1.toInt = p1.toInt) (by decide : (0 : Int32).toInt = 0) c30486
      refine lv_iconst (v := 0) hx hb dX11_isHouse_26 (by decide) ?_
      exact t_zret hQ X hT (by decide) (⟨rfl, ⟨(by decide), fun h => absurd (by decide) h⟩⟩) (Nat.le_of_ble_eq_true rfl) (Nat.le_of_ble_eq_true rfl) dX11_isHouse_27
    · have w30488 := cv_nlt (rfl : p1.toInt = p1.toInt) (by decide : (0 : Int32).toInt = 0) c30486
      refine lv_iload_n hx hb dX11_isHouse_11 rfl (lv_at hl 1 rfl) ?_
      refine lv_aload_n hx hb dX11_isHouse_12 rfl (lv_at hl 0 rfl) ?_
      refine t_get (C := RX11) (T := TX11) (N := 16) X hT m0 g0 rfl rfl 3 (by decide) qw_18 inlX11 rfl dX11_isHouse_13 (fun v30489 hv30489 ov30489 => ?_)
      obtain ⟨b30490, rfl, mb30490, gb30490⟩ := okV_r ov30489
      have gb30490 : tag b30490 = 18 := tg_of gb30490
      refine t_get (C := RX1) (T := TX1) (N := 20) X hT mb30490 gb30490 rfl rfl 10 (by decide) qw_151 inlX1 rfl dX11_isHouse_16 (fun v30491 hv30491 ov30491 => ?_)
      obtain ⟨z30492, rfl, rz30492⟩ := okV_i ov30491
      refine lv_icmp_ge (tgt := 26) hx hb dX11_isHouse_19 (by decide) (fun c30493 => ?_) (fun c30493 => ?_)
      · have w30494 := cv_le (rfl : z30492.toInt = z30492.toInt) (rfl : p1.toInt = p1.toInt) c30493
        refine lv_iconst (v := 0) hx hb dX11_isHouse_26 (by decide) ?_
        exact t_zret hQ X hT (by decide) (⟨rfl, ⟨(by decide), fun h => absurd (by decide) h⟩⟩) (Nat.le_of_ble_eq_true rfl) (Nat.le_of_ble_eq_true rfl) dX11_isHouse_27
      · have w30495 := cv_nle (rfl : z30492.toInt = z30492.toInt) (rfl : p1.toInt = p1.toInt) c30493
        refine lv_iconst (v := 1) hx hb dX11_isHouse_22 (by decide) ?_
        refine lv_goto (tgt := 27) hx hb dX11_isHouse_23 (by decide) ?_
        exact t_zret hQ X hT (by decide) (⟨rfl, ⟨(by decide), fun _ => by omega⟩⟩) (Nat.le_of_ble_eq_true rfl) (Nat.le_of_ble_eq_true rfl) dX11_isHouse_27
set_option maxHeartbeats 4000000 in
set_option maxRecDepth 100000 in
theorem kt94_X11_isRoom (l : Launch) (G : KG) (tag : Nat → Nat) (L : List Nat) (F : Nat → va_E) (ho : okT G ttC tag L F) (p0 : Nat) (p1 : Int32) (p2 : Int32) (m0 : p0 ∈ L) (g0 : tag p0 = 26) : TMi l yX11_isRoom cX11_isRoom 3 (some .boolean) { frames := 1, cells := 0, slots := 0, locals := 21 } G ttC tag L F [.ref p0, .int p1, .int p2] (fun r F1 => F1 = F ∧ ((0 ≤ r.toInt ∧ r.toInt ≤ 1) ∧ (r.toInt ≠ 0 → (0 ≤ p1.toInt ∧ p1.toInt ≤ 3) ∧ (0 ≤ p2.toInt ∧ p2.toInt ≤ 6)))) := by
  refine t_bodyi (y := yX11_isRoom) (cd := cX11_isRoom) (mL := 3) (rt := (some .boolean)) (rm := { frames := 1, cells := 0, slots := 0, locals := 21 }) (av := [.ref p0, .int p1, .int p2]) (by decide) (Nat.le_of_ble_eq_true rfl) ho ?_
  intro p e s m args below meth c ls A Q hQ X hT hl
  have hx := X.1.1
  have hb := X.1.2.1
  have hl : lv_has ls 3 [(0, .ref p0), (1, .int p1), (2, .int p2)] := hl
  have rp1 := rg_all p1
  have rp2 := rg_all p2
  refine lv_aload_n hx hb dX11_isRoom_0 rfl (lv_at hl 0 rfl) ?_
  refine lv_iload_n hx hb dX11_isRoom_1 rfl (lv_at hl 1 rfl) ?_
  refine t_cVi (n := 1) (C := RX11) (T := TX11) (N := 16) (As := [.int p1]) (rest := []) X hT (kt93_X11_isHouse l G tag L F hT.2.2.2 p0 p1 m0 g0) m0 g0 rfl rfl qw_770 qw_771 qw_772 qw_2 qw_773 ⟨rfl, by decide +kernel, by decide +kernel, by decide +kernel⟩ ⟨Nat.le_of_ble_eq_true rfl, Nat.le_of_ble_eq_true rfl⟩ hl rfl rfl (Nat.le_of_ble_eq_true rfl) dX11_isRoom_2 ⟨Nat.le_of_ble_eq_true rfl, Nat.le_of_ble_eq_true rfl⟩ (fun z30672 F9 H locs hT hz30672 => ?_)
  obtain ⟨fz30672, hz30672⟩ := hz30672
  rw [fz30672] at hT
  obtain ⟨hz30672, iz30672⟩ := hz30672
  refine lv_if_eq (tgt := 29) hx hb dX11_isRoom_5 (by decide) (fun c30673 => ?_) (fun c30673 => ?_)
  · have w30674 := cv_eq (rfl : z30672.toInt = z30672.toInt) (by decide : (0 : Int32).toInt = 0) c30673
    refine lv_iconst (v := 0) hx hb dX11_isRoom_29 (by decide) ?_
    exact t_zret hQ X hT (by decide) (⟨rfl, ⟨(by decide), fun h => absurd (by decide) h⟩⟩) (Nat.le_of_ble_eq_true rfl) (Nat.le_of_ble_eq_true rfl) dX11_isRoom_30
  · have w30675 := cv_ne (rfl : z30672.toInt = z30672.toInt) (by decide : (0 : Int32).toInt = 0) c30673
    have w30676 := (fun h => (iz30672 h)) (by omega)
    refine lv_iload_n hx hb dX11_isRoom_8 rfl (lv_at hl 2 rfl) ?_
    refine lv_if_lt (tgt := 29) hx hb dX11_isRoom_9 (by decide) (fun c30677 => ?_) (fun c30677 => ?_)
    · have w30678 := cv_lt (rfl : p2.toInt = p2.toInt) (by decide : (0 : Int32).toInt = 0) c30677
      refine lv_iconst (v := 0) hx hb dX11_isRoom_29 (by decide) ?_
      exact t_zret hQ X hT (by decide) (⟨rfl, ⟨(by decide), fun h => absurd (by decide) h⟩⟩) (Nat.le_of_ble_eq_true rfl) (Nat.le_of_ble_eq_true rfl) dX11_isRoom_30
    · have w30679 := cv_nlt (rfl : p2.toInt = p2.toInt) (by decide : (0 : Int32).toInt = 0) c30677
      refine lv_iload_n hx hb dX11_isRoom_12 rfl (lv_at hl 2 rfl) ?_
      refine lv_aload_n hx hb dX11_isRoom_13 rfl (lv_at hl 0 rfl) ?_
      refine t_get (C := RX11) (T := TX11) (N := 16) X hT m0 g0 rfl rfl 5 (by decide) qw_23 inlX11 rfl dX11_isRoom_14 (fun v30680 hv30680 ov30680 => ?_)
      obtain ⟨b30681, rfl, mb30681, gb30681⟩ := okV_r ov30680
      have gb30681 : tag b30681 = 19 := tg_of gb30681
      refine t_get (C := RX7) (T := TX7) (N := 7) X hT mb30681 gb30681 rfl rfl 2 (by decide) qw_766 inlX7 rfl dX11_isRoom_17 (fun v30682 hv30682 ov30682 => ?_)
      obtain ⟨b30683, rfl, mb30683, gb30683⟩ := okV_r ov30682
      have gb30683 : tag b30683 = 8 := tg_of gb30683
      refine lv_iload_n hx hb dX11_isRoom_20 rfl (lv_at hl 1 rfl) ?_
      refine t_ild X hT mb30683 gb30683 rfl (by omega) dX11_isRoom_21 (fun z30684 vz30684 rz30684 => ?_)
      have rz30684 : 0 ≤ z30684.toInt ∧ z30684.toInt ≤ 6 := rz30684
      refine lv_icmp_gt (tgt := 29) hx hb dX11_isRoom_22 (by decide) (fun c30685 => ?_) (fun c30685 => ?_)
      · have w30686 := cv_lt (rfl : z30684.toInt = z30684.toInt) (rfl : p2.toInt = p2.toInt) c30685
        refine lv_iconst (v := 0) hx hb dX11_isRoom_29 (by decide) ?_
        exact t_zret hQ X hT (by decide) (⟨rfl, ⟨(by decide), fun h => absurd (by decide) h⟩⟩) (Nat.le_of_ble_eq_true rfl) (Nat.le_of_ble_eq_true rfl) dX11_isRoom_30
      · have w30687 := cv_nlt (rfl : z30684.toInt = z30684.toInt) (rfl : p2.toInt = p2.toInt) c30685
        refine lv_iconst (v := 1) hx hb dX11_isRoom_25 (by decide) ?_
        refine lv_goto (tgt := 30) hx hb dX11_isRoom_26 (by decide) ?_
        exact t_zret hQ X hT (by decide) (⟨rfl, ⟨(by decide), fun _ => ⟨by omega, by omega⟩⟩⟩) (Nat.le_of_ble_eq_true rfl) (Nat.le_of_ble_eq_true rfl) dX11_isRoom_30
set_option maxHeartbeats 4000000 in
set_option maxRecDepth 100000 in
theorem kt95_X0_cheapest (l : Launch) (G : KG) (tag : Nat → Nat) (L : List Nat) (Fo : Nat → va_E) (ho : okT G ttC tag L Fo) (p0 : Nat) (p1 : Nat) (p2 : Nat) (p3 : Int32) (p4 : Int32) (m0 : p0 ∈ L) (g0 : tag p0 = 21) (m1 : p1 ∈ L) (g1 : tag p1 = 18) (m2 : p2 ∈ L) (g2 : tag p2 = 19) (h3 : 0 ≤ p3.toInt ∧ p3.toInt ≤ 3) : TMi l yX0_cheapest cX0_cheapest 9 (some .int) { frames := 5, cells := 0, slots := 0, locals := 121 } G ttC tag L Fo [.ref p0, .ref p1, .ref p2, .int p3, .int p4] (fun r F1 => ((-2147483648) ≤ r.toInt ∧ r.toInt ≤ 1000008) ∧ (∀ b j : Nat, (tag b ≠ 21 ∨ j ≠ 0) → (tag b ≠ 21 ∨ j ≠ 1) → fld F1 b j = fld Fo b j)) := by
  refine t_bodyi (y := yX0_cheapest) (cd := cX0_cheapest) (mL := 9) (rt := (some .int)) (rm := { frames := 5, cells := 0, slots := 0, locals := 121 }) (av := [.ref p0, .ref p1, .ref p2, .int p3, .int p4]) (by decide) (Nat.le_of_ble_eq_true rfl) ho ?_
  intro p e s m args below meth c ls A Q hQ X hT hl
  have hx := X.1.1
  have hb := X.1.2.1
  have hl : lv_has ls 9 [(0, .ref p0), (1, .ref p1), (2, .ref p2), (3, .int p3), (4, .int p4)] := hl
  have rp4 := rg_all p4
  obtain ⟨F, hFo⟩ : ∃ F : Nat → va_E, F = Fo := ⟨_, rfl⟩
  rw [← hFo] at hT
  have hfr : ∀ b j : Nat, (tag b ≠ 21 ∨ j ≠ 0) → (tag b ≠ 21 ∨ j ≠ 1) → fld F b j = fld Fo b j := by
    rw [hFo]
    intros
    rfl
  have K91 : ∀ (n : Nat) (z31293 : Int32) (z31294 : Int32) (z31295 : Int32) (z31296 : Int32) (F : Nat → va_E) (H : Heap) (locs : List Loc) (ls : Array Slot), (z31296.toInt - 0 < (n : Int)) → (1 ≤ z31293.toInt ∧ z31293.toInt ≤ 6) → (1 ≤ z31294.toInt ∧ z31294.toInt ≤ 2147483647) → (0 ≤ z31296.toInt ∧ z31296.toInt ≤ 5) → TH G ttC A s tag L F H locs → (∀ b j : Nat, (tag b ≠ 21 ∨ j ≠ 0) → (tag b ≠ 21 ∨ j ≠ 1) → fld F b j = fld Fo b j) → lv_has ls 9 [(0, .ref p0), (1, .ref p1), (2, .ref p2), (3, .int p3), (4, .int p4), (5, .int z31293), (6, .int z31294), (7, .int z31295), (8, .int z31296)] → W p l e { frames := 5, cells := 0, slots := 0, locals := 121 } s m args below meth c H locs 0 0 Q (F0 m 91 ls []) := by
    intro n
    induction n with
    | zero =>
      intro z31293 z31294 z31295 z31296 F H locs ls hn rz31293 rz31294 rz31296 hT hfr hl
      have rz31295 := rg_all z31295
      exfalso
      omega
    | succ n ih91 =>
      intro z31293 z31294 z31295 z31296 F H locs ls hn rz31293 rz31294 rz31296 hT hfr hl
      have rz31295 := rg_all z31295
      refine lv_iload hx hb dX0_cheapest_91 (lv_at hl 8 rfl) ?_
      refine lv_iload hx hb dX0_cheapest_93 (lv_at hl 6 rfl) ?_
      refine lv_icmp_lt (tgt := 121) hx hb dX0_cheapest_95 (by decide) (fun c31297 => ?_) (fun c31297 => ?_)
      · have w31298 := cv_lt (rfl : z31296.toInt = z31296.toInt) (rfl : z31294.toInt = z31294.toInt) c31297
        refine lv_aload_n hx hb dX0_cheapest_121 rfl (lv_at hl 0 rfl) ?_
        refine lv_bipush (v := 8) hx hb dX0_cheapest_122 (by decide) ?_
        refine lv_iload hx hb dX0_cheapest_124 (lv_at hl 6 rfl) ?_
        refine lv_imul hx hb dX0_cheapest_126 ?_
        refine lv_topi (fun z31299 ez31299 => ?_)
        have rz31299 := rg_all z31299
        refine t_cVi (n := 1) (C := RX0) (T := TX0) (N := 2) (As := [.int z31299]) (rest := []) X hT (kt55_X0_least l G tag L F hT.2.2.2 p0 z31299 m0 g0) m0 g0 rfl rfl qw_1048 qw_1049 qw_1050 qw_36 qw_1051 ⟨rfl, by decide +kernel, by decide +kernel, by decide +kernel⟩ ⟨Nat.le_of_ble_eq_true rfl, Nat.le_of_ble_eq_true rfl⟩ hl rfl rfl (Nat.le_of_ble_eq_true rfl) dX0_cheapest_127 ⟨Nat.le_of_ble_eq_true rfl, Nat.le_of_ble_eq_true rfl⟩ (fun z31300 F9 H locs hT hz31300 => ?_)
        obtain ⟨fz31300, hz31300⟩ := hz31300
        rw [fz31300] at hT
        refine lv_iload hx hb dX0_cheapest_130 (lv_at hl 4 rfl) ?_
        refine lv_iconst (v := 1) hx hb dX0_cheapest_132 (by decide) ?_
        refine lv_icmp_ge (tgt := 141) hx hb dX0_cheapest_133 (by decide) (fun c31301 => ?_) (fun c31301 => ?_)
        · have w31302 := cv_le (by decide : (1 : Int32).toInt = 1) (rfl : p4.toInt = p4.toInt) c31301
          refine lv_iconst (v := 0) hx hb dX0_cheapest_141 (by decide) ?_
          refine lv_iadd hx hb dX0_cheapest_142 ?_
          refine lv_topi (fun z31303 ez31303 => ?_)
          have hz31303 : z31303.toInt = z31300.toInt + 0 := ar_add ez31303 (rfl : z31300.toInt = z31300.toInt) (by decide : (0 : Int32).toInt = 0) (by omega) (by omega)
          have rz31303 : (-2147483648) ≤ z31303.toInt ∧ z31303.toInt ≤ 1000000 := by omega
          exact t_iret hQ X hT (⟨(by omega), hfr⟩) (Nat.le_of_ble_eq_true rfl) (Nat.le_of_ble_eq_true rfl) dX0_cheapest_143
        · have w31304 := cv_nle (by decide : (1 : Int32).toInt = 1) (rfl : p4.toInt = p4.toInt) c31301
          refine lv_bipush (v := 8) hx hb dX0_cheapest_136 (by decide) ?_
          refine lv_goto (tgt := 142) hx hb dX0_cheapest_138 (by decide) ?_
          refine lv_iadd hx hb dX0_cheapest_142 ?_
          refine lv_topi (fun z31305 ez31305 => ?_)
          have hz31305 : z31305.toInt = z31300.toInt + 8 := ar_add ez31305 (rfl : z31300.toInt = z31300.toInt) (by decide : (8 : Int32).toInt = 8) (by omega) (by omega)
          have rz31305 : (-2147483640) ≤ z31305.toInt ∧ z31305.toInt ≤ 1000008 := by omega
          exact t_iret hQ X hT (⟨(by omega), hfr⟩) (Nat.le_of_ble_eq_true rfl) (Nat.le_of_ble_eq_true rfl) dX0_cheapest_143
      · have w31306 := cv_nlt (rfl : z31296.toInt = z31296.toInt) (rfl : z31294.toInt = z31294.toInt) c31297
        refine lv_aload_n hx hb dX0_cheapest_98 rfl (lv_at hl 0 rfl) ?_
        refine lv_iload hx hb dX0_cheapest_99 (lv_at hl 8 rfl) ?_
        refine lv_iconst (v := 1) hx hb dX0_cheapest_101 (by decide) ?_
        refine lv_iadd hx hb dX0_cheapest_102 ?_
        refine lv_topi (fun z31307 ez31307 => ?_)
        have hz31307 : z31307.toInt = z31296.toInt + 1 := ar_add ez31307 (rfl : z31296.toInt = z31296.toInt) (by decide : (1 : Int32).toInt = 1) (by omega) (by omega)
        have rz31307 : 2 ≤ z31307.toInt ∧ z31307.toInt ≤ 6 := by omega
        refine t_cVv (n := 1) (C := RX0) (T := TX0) (N := 2) (As := [.int z31307]) (rest := []) X hT (kt56_X0_goRound l G tag L F hT.2.2.2 p0 z31307 m0 g0) m0 g0 rfl rfl qw_1036 qw_1037 qw_1038 qw_36 qw_1039 ⟨rfl, by decide +kernel, by decide +kernel, by decide +kernel⟩ ⟨Nat.le_of_ble_eq_true rfl, Nat.le_of_ble_eq_true rfl⟩ hl rfl rfl (Nat.le_of_ble_eq_true rfl) dX0_cheapest_103 ⟨Nat.le_of_ble_eq_true rfl, Nat.le_of_ble_eq_true rfl⟩ (fun F H locs hT hz31308 => ?_)
        have yz31308 := hz31308
        have hfr : ∀ b j : Nat, (tag b ≠ 21 ∨ j ≠ 0) → (tag b ≠ 21 ∨ j ≠ 1) → fld F b j = fld Fo b j := fun b j n21_0 n21_1 => (yz31308 b j ).trans (hfr b j n21_0 n21_1)
        refine lv_aload_n hx hb dX0_cheapest_106 rfl (lv_at hl 0 rfl) ?_
        refine lv_aload_n hx hb dX0_cheapest_107 rfl (lv_at hl 1 rfl) ?_
        refine lv_aload_n hx hb dX0_cheapest_108 rfl (lv_at hl 2 rfl) ?_
        refine lv_iload_n hx hb dX0_cheapest_109 rfl (lv_at hl 3 rfl) ?_
        refine lv_iload hx hb dX0_cheapest_110 (lv_at hl 8 rfl) ?_
        refine t_cVv (n := 4) (C := RX0) (T := TX0) (N := 2) (As := [.ref p1, .ref p2, .int p3, .int z31296]) (rest := []) X hT (kt59_X0_goIn l G tag L F hT.2.2.2 p0 p1 p2 p3 z31296 m0 g0 m1 g1 m2 g2 (by omega) (by omega)) m0 g0 rfl rfl qw_1040 qw_1041 qw_1042 qw_36 qw_1043 ⟨rfl, by decide +kernel, by decide +kernel, by decide +kernel⟩ ⟨Nat.le_of_ble_eq_true rfl, Nat.le_of_ble_eq_true rfl⟩ hl rfl rfl (Nat.le_of_ble_eq_true rfl) dX0_cheapest_112 ⟨Nat.le_of_ble_eq_true rfl, Nat.le_of_ble_eq_true rfl⟩ (fun F H locs hT hz31309 => ?_)
        have yz31309 := hz31309
        have hfr : ∀ b j : Nat, (tag b ≠ 21 ∨ j ≠ 0) → (tag b ≠ 21 ∨ j ≠ 1) → fld F b j = fld Fo b j := fun b j n21_0 n21_1 => (yz31309 b j n21_0 n21_1).trans (hfr b j n21_0 n21_1)
        obtain ⟨z31310, ez31310⟩ : ∃ y : Int32, y = z31296 + (-1) := ⟨_, rfl⟩
        have hz31310 : z31310.toInt = z31296.toInt + (-1) := ar_add ez31310 rfl (by decide : ((-1) : Int32).toInt = (-1)) (by omega) (by omega)
        refine lv_iinc (v := z31310) (lv' := [(8, .int z31310), (0, .ref p0), (1, .ref p1), (2, .ref p2), (3, .int p3), (4, .int p4), (5, .int z31293), (6, .int z31294), (7, .int z31295)]) hx hb dX0_cheapest_115 hl (k := 8) rfl (by rw [ez31310]; rfl) (by decide) rfl (fun ls hl => ?_)
        refine lv_goto (tgt := 91) hx hb dX0_cheapest_118 (by decide) ?_
        exact ih91 z31293 z31294 z31295 z31310 _ _ _ _ (by omega) (by omega) (by omega) (by omega) hT hfr  (lv_sub hl [1, 2, 3, 4, 5, 6, 7, 8, 0] rfl)
  have K85 : ∀ (z31311 : Int32) (z31312 : Int32) (z31313 : Int32) (F : Nat → va_E) (H : Heap) (locs : List Loc) (ls : Array Slot), (1 ≤ z31311.toInt ∧ z31311.toInt ≤ 6) → (1 ≤ z31312.toInt ∧ z31312.toInt ≤ 2147483647) → TH G ttC A s tag L F H locs → (∀ b j : Nat, (tag b ≠ 21 ∨ j ≠ 0) → (tag b ≠ 21 ∨ j ≠ 1) → fld F b j = fld Fo b j) → lv_has ls 9 [(0, .ref p0), (1, .ref p1), (2, .ref p2), (3, .int p3), (4, .int p4), (5, .int z31311), (6, .int z31312), (7, .int z31313)] → W p l e { frames := 5, cells := 0, slots := 0, locals := 121 } s m args below meth c H locs 0 0 Q (F0 m 85 ls []) := by
    intro z31311 z31312 z31313 F H locs ls rz31311 rz31312 hT hfr hl
    have rz31313 := rg_all z31313
    refine lv_iload hx hb dX0_cheapest_85 (lv_at hl 5 rfl) ?_
    refine lv_iconst (v := 1) hx hb dX0_cheapest_87 (by decide) ?_
    refine lv_isub hx hb dX0_cheapest_88 ?_
    refine lv_topi (fun z31314 ez31314 => ?_)
    have hz31314 : z31314.toInt = z31311.toInt - 1 := ar_sub ez31314 (rfl : z31311.toInt = z31311.toInt) (by decide : (1 : Int32).toInt = 1) (by omega) (by omega)
    have rz31314 : 0 ≤ z31314.toInt ∧ z31314.toInt ≤ 5 := by omega
    refine lv_istore (lv' := [(8, .int z31314), (0, .ref p0), (1, .ref p1), (2, .ref p2), (3, .int p3), (4, .int p4), (5, .int z31311), (6, .int z31312), (7, .int z31313)]) hx hb dX0_cheapest_89 hl (by decide) rfl (fun ls hl => ?_)
    exact K91 6 z31311 z31312 z31313 z31314 _ _ _ _ (by omega) (by omega) (by omega) (by omega) hT hfr  (lv_sub hl [1, 2, 3, 4, 5, 6, 7, 8, 0] rfl)
  have K27 : ∀ (z31315 : Int32) (z31316 : Int32) (F : Nat → va_E) (H : Heap) (locs : List Loc) (ls : Array Slot), (1 ≤ z31315.toInt ∧ z31315.toInt ≤ 6) → (1 ≤ z31316.toInt ∧ z31316.toInt ≤ 2147483647) → TH G ttC A s tag L F H locs → (∀ b j : Nat, (tag b ≠ 21 ∨ j ≠ 0) → (tag b ≠ 21 ∨ j ≠ 1) → fld F b j = fld Fo b j) → lv_has ls 9 [(0, .ref p0), (1, .ref p1), (2, .ref p2), (3, .int p3), (4, .int p4), (5, .int z31315)] → W p l e { frames := 5, cells := 0, slots := 0, locals := 121 } s m args below meth c H locs 0 0 Q (F0 m 27 ls [.int z31316]) := by
    intro z31315 z31316 F H locs ls rz31315 rz31316 hT hfr hl
    refine lv_istore (lv' := [(6, .int z31316), (0, .ref p0), (1, .ref p1), (2, .ref p2), (3, .int p3), (4, .int p4), (5, .int z31315)]) hx hb dX0_cheapest_27 hl (by decide) rfl (fun ls hl => ?_)
    refine lv_aload_n hx hb dX0_cheapest_29 rfl (lv_at hl 1 rfl) ?_
    refine t_get (C := RX0) (T := TX0) (N := 2) X hT m0 g0 rfl rfl 0 (by decide) qw_88 inlX0 rfl dX0_cheapest_30 (fun v31317 hv31317 ov31317 => ?_)
    obtain ⟨b31318, rfl, mb31318, gb31318⟩ := okV_r ov31317
    have gb31318 : tag b31318 = 12 := tg_of gb31318
    refine t_cSv (n := 1) (As := [.ref b31318]) (rest := []) X hT (kt52_X0_empty l G tag L F hT.2.2.2 b31318 mb31318 gb31318) qw_1020 qw_1021 qw_36 qw_1022 ⟨by decide +kernel, by decide +kernel, by decide +kernel⟩ ⟨Nat.le_of_ble_eq_true rfl, Nat.le_of_ble_eq_true rfl⟩ hl rfl rfl (Nat.le_of_ble_eq_true rfl) dX0_cheapest_33 ⟨Nat.le_of_ble_eq_true rfl, Nat.le_of_ble_eq_true rfl⟩ (fun F H locs hT hz31319 => ?_)
    have yz31319 := hz31319
    have hv31317 := (yz31319 _ 0 ).trans hv31317
    have hfr : ∀ b j : Nat, (tag b ≠ 21 ∨ j ≠ 0) → (tag b ≠ 21 ∨ j ≠ 1) → fld F b j = fld Fo b j := fun b j n21_0 n21_1 => (yz31319 b j ).trans (hfr b j n21_0 n21_1)
    refine lv_aload_n hx hb dX0_cheapest_36 rfl (lv_at hl 3 rfl) ?_
    refine lv_iload_n hx hb dX0_cheapest_37 rfl (lv_at hl 4 rfl) ?_
    refine lv_iload hx hb dX0_cheapest_38 (lv_at hl 6 rfl) ?_
    refine t_cVi (n := 2) (C := RX7) (T := TX7) (N := 7) (As := [.int p3, .int z31315]) (rest := []) X hT (kt29_X7_doorOf l G tag L F hT.2.2.2 p2 p3 z31315 m2 g2) m2 g2 rfl rfl qw_1024 qw_918 qw_919 qw_22 qw_920 ⟨rfl, by decide +kernel, by decide +kernel, by decide +kernel⟩ ⟨Nat.le_of_ble_eq_true rfl, Nat.le_of_ble_eq_true rfl⟩ hl rfl rfl (Nat.le_of_ble_eq_true rfl) dX0_cheapest_40 ⟨Nat.le_of_ble_eq_true rfl, Nat.le_of_ble_eq_true rfl⟩ (fun z31320 F9 H locs hT hz31320 => ?_)
    obtain ⟨fz31320, hz31320⟩ := hz31320
    rw [fz31320] at hT
    refine lv_istore (lv' := [(7, .int z31320), (6, .int z31316), (0, .ref p0), (1, .ref p1), (2, .ref p2), (3, .int p3), (4, .int p4), (5, .int z31315)]) hx hb dX0_cheapest_43 hl (by decide) rfl (fun ls hl => ?_)
    refine lv_iload hx hb dX0_cheapest_45 (lv_at hl 0 rfl) ?_
    refine lv_if_lt (tgt := 85) hx hb dX0_cheapest_47 (by decide) (fun c31321 => ?_) (fun c31321 => ?_)
    · have w31322 := cv_lt (rfl : z31320.toInt = z31320.toInt) (by decide : (0 : Int32).toInt = 0) c31321
      exact K85 z31315 z31316 z31320 _ _ _ _ (by omega) (by omega) hT hfr  (lv_sub hl [2, 3, 4, 5, 6, 7, 1, 0] rfl)
    · have w31323 := cv_nlt (rfl : z31320.toInt = z31320.toInt) (by decide : (0 : Int32).toInt = 0) c31321
      refine lv_iload hx hb dX0_cheapest_50 (lv_at hl 0 rfl) ?_
      refine lv_aload_n hx hb dX0_cheapest_52 rfl (lv_at hl 2 rfl) ?_
      refine t_get (C := RX0) (T := TX0) (N := 2) X hT m0 g0 rfl rfl 0 (by decide) qw_88 inlX0 rfl dX0_cheapest_53 (fun v31324 hv31324 ov31324 => ?_)
      obtain rfl : v31324 = .ref b31318 := hv31324.symm.trans hv31317
      refine t_alen X hT mb31318 gb31318 rfl (by decide) dX0_cheapest_56 ?_
      refine lv_topi (fun z31325 ez31325 => ?_)
      obtain rfl : z31325 = 48 := ez31325.trans (by rfl)
      refine lv_icmp_ge (tgt := 85) hx hb dX0_cheapest_57 (by decide) (fun c31326 => ?_) (fun c31326 => ?_)
      · have w31327 := cv_le (by decide : (48 : Int32).toInt = 48) (rfl : z31320.toInt = z31320.toInt) c31326
        exact K85 z31315 z31316 z31320 _ _ _ _ (by omega) (by omega) hT hfr  (lv_sub hl [2, 3, 4, 5, 6, 7, 1, 0] rfl)
      · have w31328 := cv_nle (by decide : (48 : Int32).toInt = 48) (rfl : z31320.toInt = z31320.toInt) c31326
        refine lv_aload_n hx hb dX0_cheapest_60 rfl (lv_at hl 2 rfl) ?_
        refine t_get (C := RX0) (T := TX0) (N := 2) X hT m0 g0 rfl rfl 0 (by decide) qw_88 inlX0 rfl dX0_cheapest_61 (fun v31329 hv31329 ov31329 => ?_)
        obtain rfl : v31329 = .ref b31318 := hv31329.symm.trans hv31317
        refine lv_iload hx hb dX0_cheapest_64 (lv_at hl 0 rfl) ?_
        refine lv_aload_n hx hb dX0_cheapest_66 rfl (lv_at hl 4 rfl) ?_
        refine lv_iload_n hx hb dX0_cheapest_67 rfl (lv_at hl 5 rfl) ?_
        refine lv_iload hx hb dX0_cheapest_68 (lv_at hl 7 rfl) ?_
        refine t_cSi (n := 3) (As := [.ref p2, .int p3, .int z31315]) (rest := [.int z31320, .ref b31318]) X hT (kt53_X0_byDoor l G tag L F hT.2.2.2 p2 p3 z31315 m2 g2) qw_1025 qw_1026 qw_36 qw_1027 ⟨by decide +kernel, by decide +kernel, by decide +kernel⟩ ⟨Nat.le_of_ble_eq_true rfl, Nat.le_of_ble_eq_true rfl⟩ hl rfl rfl (Nat.le_of_ble_eq_true rfl) dX0_cheapest_70 ⟨Nat.le_of_ble_eq_true rfl, Nat.le_of_ble_eq_true rfl⟩ (fun z31330 F9 H locs hT hz31330 => ?_)
        obtain ⟨fz31330, hz31330⟩ := hz31330
        rw [fz31330] at hT
        refine lv_aload_n hx hb dX0_cheapest_73 rfl (lv_at hl 3 rfl) ?_
        refine lv_aload_n hx hb dX0_cheapest_74 rfl (lv_at hl 4 rfl) ?_
        refine lv_iload_n hx hb dX0_cheapest_75 rfl (lv_at hl 5 rfl) ?_
        refine lv_iload hx hb dX0_cheapest_76 (lv_at hl 7 rfl) ?_
        refine t_cSi (n := 4) (As := [.ref p1, .ref p2, .int p3, .int z31315]) (rest := [.int z31330, .int z31320, .ref b31318]) X hT (kt54_X0_byWall l G tag L F hT.2.2.2 p1 p2 p3 z31315 m1 g1 m2 g2) qw_1031 qw_1032 qw_36 qw_1033 ⟨by decide +kernel, by decide +kernel, by decide +kernel⟩ ⟨Nat.le_of_ble_eq_true rfl, Nat.le_of_ble_eq_true rfl⟩ hl rfl rfl (Nat.le_of_ble_eq_true rfl) dX0_cheapest_78 ⟨Nat.le_of_ble_eq_true rfl, Nat.le_of_ble_eq_true rfl⟩ (fun z31331 F9 H locs hT hz31331 => ?_)
        obtain ⟨fz31331, hz31331⟩ := hz31331
        rw [fz31331] at hT
        refine t_mmin X hl qw_1017 qw_1018 qw_850 qw_1019 (Nat.le_of_ble_eq_true rfl) (Nat.le_of_ble_eq_true rfl) (Nat.le_of_ble_eq_true rfl) (Nat.le_of_ble_eq_true rfl) dX0_cheapest_81 (fun z31332 ez31332 => ?_)
        have hz31332 := mmin_e ez31332 (rfl : z31330.toInt = z31330.toInt) (rfl : z31331.toInt = z31331.toInt)
        refine t_ist X hT mb31318 gb31318 rfl (by omega) (show (-2147483648) ≤ (z31332 : Int32).toInt ∧ (z31332 : Int32).toInt ≤ 2147483647 from (by omega)) dX0_cheapest_84 (fun F H locs hT v31333 h1v31333 h2v31333 => ?_)
        have hv31317 := (h2v31333 _ _).trans hv31317
        have hfr : ∀ b j : Nat, (tag b ≠ 21 ∨ j ≠ 0) → (tag b ≠ 21 ∨ j ≠ 1) → fld F b j = fld Fo b j := fun b j n21_0 n21_1 => (h2v31333 b j).trans (hfr b j n21_0 n21_1)
        exact K85 z31315 z31316 z31320 _ _ _ _ (by omega) (by omega) hT hfr  (lv_sub hl [2, 3, 4, 5, 6, 7, 1, 0] rfl)
  refine lv_aload_n hx hb dX0_cheapest_0 rfl (lv_at hl 2 rfl) ?_
  refine t_get (C := RX7) (T := TX7) (N := 7) X hT m2 g2 rfl rfl 2 (by decide) qw_1016 inlX7 rfl dX0_cheapest_1 (fun v31334 hv31334 ov31334 => ?_)
  obtain ⟨b31335, rfl, mb31335, gb31335⟩ := okV_r ov31334
  have gb31335 : tag b31335 = 8 := tg_of gb31335
  refine lv_iload_n hx hb dX0_cheapest_4 rfl (lv_at hl 3 rfl) ?_
  refine t_ild X hT mb31335 gb31335 rfl (by omega) dX0_cheapest_5 (fun z31336 vz31336 rz31336 => ?_)
  have rz31336 : 0 ≤ z31336.toInt ∧ z31336.toInt ≤ 6 := rz31336
  refine lv_istore (lv' := [(5, .int z31336), (0, .ref p0), (1, .ref p1), (2, .ref p2), (3, .int p3), (4, .int p4)]) hx hb dX0_cheapest_6 hl (by decide) rfl (fun ls hl => ?_)
  refine lv_iload hx hb dX0_cheapest_8 (lv_at hl 0 rfl) ?_
  refine lv_if_ne (tgt := 15) hx hb dX0_cheapest_10 (by decide) (fun c31337 => ?_) (fun c31337 => ?_)
  · have w31338 := cv_ne (rfl : z31336.toInt = z31336.toInt) (by decide : (0 : Int32).toInt = 0) c31337
    refine lv_iload hx hb dX0_cheapest_15 (lv_at hl 5 rfl) ?_
    refine lv_iconst (v := 1) hx hb dX0_cheapest_17 (by decide) ?_
    refine lv_icmp_ge (tgt := 25) hx hb dX0_cheapest_18 (by decide) (fun c31339 => ?_) (fun c31339 => ?_)
    · have w31340 := cv_le (by decide : (1 : Int32).toInt = 1) (rfl : p4.toInt = p4.toInt) c31339
      refine lv_iload hx hb dX0_cheapest_25 (lv_at hl 5 rfl) ?_
      exact K27 z31336 p4 _ _ _ _ (by omega) (by omega) hT hfr  (lv_sub hl [1, 2, 3, 4, 5, 0] rfl)
    · have w31341 := cv_nle (by decide : (1 : Int32).toInt = 1) (rfl : p4.toInt = p4.toInt) c31339
      refine lv_iconst (v := 1) hx hb dX0_cheapest_21 (by decide) ?_
      refine lv_goto (tgt := 27) hx hb dX0_cheapest_22 (by decide) ?_
      exact K27 z31336 1 _ _ _ _ (by omega) (by decide) hT hfr  (lv_sub hl [1, 2, 3, 4, 5, 0] rfl)
  · have w31342 := cv_eq (rfl : z31336.toInt = z31336.toInt) (by decide : (0 : Int32).toInt = 0) c31337
    refine lv_iconst (v := 0) hx hb dX0_cheapest_13 (by decide) ?_
    exact t_iret hQ X hT (⟨(by decide), hfr⟩) (Nat.le_of_ble_eq_true rfl) (Nat.le_of_ble_eq_true rfl) dX0_cheapest_14
set_option maxHeartbeats 4000000 in
set_option maxRecDepth 100000 in
theorem kt96_X11_answer (l : Launch) (G : KG) (tag : Nat → Nat) (L : List Nat) (Fo : Nat → va_E) (ho : okT G ttC tag L Fo) (p0 : Nat) (p1 : Int32) (m0 : p0 ∈ L) (g0 : tag p0 = 26) : TMi l yX11_answer cX11_answer 2 (some .int) { frames := 0, cells := 0, slots := 0, locals := 0 } G ttC tag L Fo [.ref p0, .int p1] (fun r F1 => ((-2147483648) ≤ r.toInt ∧ r.toInt ≤ 2147483647) ∧ (∀ b j : Nat, (tag b ≠ 26 ∨ j ≠ 13) → fld F1 b j = fld Fo b j)) := by
  refine t_bodyi (y := yX11_answer) (cd := cX11_answer) (mL := 2) (rt := (some .int)) (rm := { frames := 0, cells := 0, slots := 0, locals := 0 }) (av := [.ref p0, .int p1]) (by decide) (Nat.le_of_ble_eq_true rfl) ho ?_
  intro p e s m args below meth c ls A Q hQ X hT hl
  have hx := X.1.1
  have hb := X.1.2.1
  have hl : lv_has ls 2 [(0, .ref p0), (1, .int p1)] := hl
  have rp1 := rg_all p1
  obtain ⟨F, hFo⟩ : ∃ F : Nat → va_E, F = Fo := ⟨_, rfl⟩
  rw [← hFo] at hT
  have hfr : ∀ b j : Nat, (tag b ≠ 26 ∨ j ≠ 13) → fld F b j = fld Fo b j := by
    rw [hFo]
    intros
    rfl
  refine lv_aload_n hx hb dX11_answer_0 rfl (lv_at hl 0 rfl) ?_
  refine lv_iconst (v := 0) hx hb dX11_answer_1 (by decide) ?_
  refine t_put (C := RX11) (T := TX11) (N := 16) (v := .int 0) X hT m0 g0 rfl tyX11 tyX11_ok nmX11 rfl 13 (by decide) qw_156 inlX11 rfl (by first | rfl | decide) (by first | rfl | decide) rfl (⟨_, rfl, (by decide), (by decide)⟩) dX11_answer_2 (fun F H locs hT v31356 h1v31356 h2v31356 => ?_)
  have hfr : ∀ b j : Nat, (tag b ≠ 26 ∨ j ≠ 13) → fld F b j = fld Fo b j := fun b j n26_13 => (h1v31356 b j (fr_ne g0 n26_13)).trans (hfr b j n26_13)
  refine lv_iload_n hx hb dX11_answer_5 rfl (lv_at hl 1 rfl) ?_
  exact t_iret hQ X hT (⟨rg_all _, hfr⟩) (Nat.le_of_ble_eq_true rfl) (Nat.le_of_ble_eq_true rfl) dX11_answer_6
set_option maxHeartbeats 4000000 in
set_option maxRecDepth 100000 in
theorem kt97_X11_refuse (l : Launch) (G : KG) (tag : Nat → Nat) (L : List Nat) (Fo : Nat → va_E) (ho : okT G ttC tag L Fo) (p0 : Nat) (p1 : Int32) (m0 : p0 ∈ L) (g0 : tag p0 = 26) : TMi l yX11_refuse cX11_refuse 2 (some .int) { frames := 0, cells := 0, slots := 0, locals := 0 } G ttC tag L Fo [.ref p0, .int p1] (fun r F1 => ((-1) ≤ r.toInt ∧ r.toInt ≤ (-1)) ∧ (∀ b j : Nat, (tag b ≠ 26 ∨ j ≠ 13) → fld F1 b j = fld Fo b j)) := by
  refine t_bodyi (y := yX11_refuse) (cd := cX11_refuse) (mL := 2) (rt := (some .int)) (rm := { frames := 0, cells := 0, slots := 0, locals := 0 }) (av := [.ref p0, .int p1]) (by decide) (Nat.le_of_ble_eq_true rfl) ho ?_
  intro p e s m args below meth c ls A Q hQ X hT hl
  have hx := X.1.1
  have hb := X.1.2.1
  have hl : lv_has ls 2 [(0, .ref p0), (1, .int p1)] := hl
  have rp1 := rg_all p1
  obtain ⟨F, hFo⟩ : ∃ F : Nat → va_E, F = Fo := ⟨_, rfl⟩
  rw [← hFo] at hT
  have hfr : ∀ b j : Nat, (tag b ≠ 26 ∨ j ≠ 13) → fld F b j = fld Fo b j := by
    rw [hFo]
    intros
    rfl
  refine lv_aload_n hx hb dX11_refuse_0 rfl (lv_at hl 0 rfl) ?_
  refine lv_iload_n hx hb dX11_refuse_1 rfl (lv_at hl 1 rfl) ?_
  refine t_put (C := RX11) (T := TX11) (N := 16) (v := .int p1) X hT m0 g0 rfl tyX11 tyX11_ok nmX11 rfl 13 (by decide) qw_156 inlX11 rfl (by first | rfl | decide) (by first | rfl | decide) rfl (⟨_, rfl, (by omega), (by omega)⟩) dX11_refuse_2 (fun F H locs hT v31370 h1v31370 h2v31370 => ?_)
  have hfr : ∀ b j : Nat, (tag b ≠ 26 ∨ j ≠ 13) → fld F b j = fld Fo b j := fun b j n26_13 => (h1v31370 b j (fr_ne g0 n26_13)).trans (hfr b j n26_13)
  refine lv_iconst (v := (-1)) hx hb dX11_refuse_5 (by decide) ?_
  exact t_iret hQ X hT (⟨(by decide), hfr⟩) (Nat.le_of_ble_eq_true rfl) (Nat.le_of_ble_eq_true rfl) dX11_refuse_6
set_option maxHeartbeats 4000000 in
set_option maxRecDepth 100000 in
theorem kt98_X11_breaks (l : Launch) (G : KG) (tag : Nat → Nat) (L : List Nat) (Fo : Nat → va_E) (ho : okT G ttC tag L Fo) (p0 : Nat) (p1 : Int32) (p2 : Int32) (m0 : p0 ∈ L) (g0 : tag p0 = 26) : TMi l yX11_breaks cX11_breaks 3 (some .int) { frames := 6, cells := 0, slots := 0, locals := 149 } G ttC tag L Fo [.ref p0, .int p1, .int p2] (fun r F1 => ((-2147483648) ≤ r.toInt ∧ r.toInt ≤ 2147483647) ∧ (∀ b j : Nat, (tag b ≠ 21 ∨ j ≠ 0) → (tag b ≠ 21 ∨ j ≠ 1) → (tag b ≠ 26 ∨ j ≠ 13) → fld F1 b j = fld Fo b j)) := by
  refine t_bodyi (y := yX11_breaks) (cd := cX11_breaks) (mL := 3) (rt := (some .int)) (rm := { frames := 6, cells := 0, slots := 0, locals := 149 }) (av := [.ref p0, .int p1, .int p2]) (by decide) (Nat.le_of_ble_eq_true rfl) ho ?_
  intro p e s m args below meth c ls A Q hQ X hT hl
  have hx := X.1.1
  have hb := X.1.2.1
  have hl : lv_has ls 3 [(0, .ref p0), (1, .int p1), (2, .int p2)] := hl
  have rp1 := rg_all p1
  have rp2 := rg_all p2
  obtain ⟨F, hFo⟩ : ∃ F : Nat → va_E, F = Fo := ⟨_, rfl⟩
  rw [← hFo] at hT
  have hfr : ∀ b j : Nat, (tag b ≠ 21 ∨ j ≠ 0) → (tag b ≠ 21 ∨ j ≠ 1) → (tag b ≠ 26 ∨ j ≠ 13) → fld F b j = fld Fo b j := by
    rw [hFo]
    intros
    rfl
  refine lv_aload_n hx hb dX11_breaks_0 rfl (lv_at hl 0 rfl) ?_
  refine lv_iload_n hx hb dX11_breaks_1 rfl (lv_at hl 1 rfl) ?_
  refine lv_iload_n hx hb dX11_breaks_2 rfl (lv_at hl 2 rfl) ?_
  refine t_cVi (n := 2) (C := RX11) (T := TX11) (N := 16) (As := [.int p1, .int p2]) (rest := []) X hT (kt94_X11_isRoom l G tag L F hT.2.2.2 p0 p1 p2 m0 g0) m0 g0 rfl rfl qw_827 qw_828 qw_829 qw_2 qw_830 ⟨rfl, by decide +kernel, by decide +kernel, by decide +kernel⟩ ⟨Nat.le_of_ble_eq_true rfl, Nat.le_of_ble_eq_true rfl⟩ hl rfl rfl (Nat.le_of_ble_eq_true rfl) dX11_breaks_3 ⟨Nat.le_of_ble_eq_true rfl, Nat.le_of_ble_eq_true rfl⟩ (fun z31532 F9 H locs hT hz31532 => ?_)
  obtain ⟨fz31532, hz31532⟩ := hz31532
  rw [fz31532] at hT
  obtain ⟨hz31532, iz31532⟩ := hz31532
  refine lv_if_ne (tgt := 15) hx hb dX11_breaks_6 (by decide) (fun c31533 => ?_) (fun c31533 => ?_)
  · have w31534 := cv_ne (rfl : z31532.toInt = z31532.toInt) (by decide : (0 : Int32).toInt = 0) c31533
    have w31535 := (fun h => (iz31532 h).1) (by omega)
    have w31536 := (fun h => (iz31532 h).2) (by omega)
    refine lv_aload_n hx hb dX11_breaks_15 rfl (lv_at hl 0 rfl) ?_
    refine lv_aload_n hx hb dX11_breaks_16 rfl (lv_at hl 0 rfl) ?_
    refine t_get (C := RX11) (T := TX11) (N := 16) X hT m0 g0 rfl rfl 10 (by decide) qw_37 inlX11 rfl dX11_breaks_17 (fun v31537 hv31537 ov31537 => ?_)
    obtain ⟨b31538, rfl, mb31538, gb31538⟩ := okV_r ov31537
    have gb31538 : tag b31538 = 21 := tg_of gb31538
    refine lv_aload_n hx hb dX11_breaks_20 rfl (lv_at hl 0 rfl) ?_
    refine t_get (C := RX11) (T := TX11) (N := 16) X hT m0 g0 rfl rfl 3 (by decide) qw_18 inlX11 rfl dX11_breaks_21 (fun v31539 hv31539 ov31539 => ?_)
    obtain ⟨b31540, rfl, mb31540, gb31540⟩ := okV_r ov31539
    have gb31540 : tag b31540 = 18 := tg_of gb31540
    refine lv_aload_n hx hb dX11_breaks_24 rfl (lv_at hl 0 rfl) ?_
    refine t_get (C := RX11) (T := TX11) (N := 16) X hT m0 g0 rfl rfl 5 (by decide) qw_23 inlX11 rfl dX11_breaks_25 (fun v31541 hv31541 ov31541 => ?_)
    obtain ⟨b31542, rfl, mb31542, gb31542⟩ := okV_r ov31541
    have gb31542 : tag b31542 = 19 := tg_of gb31542
    refine lv_iload_n hx hb dX11_breaks_28 rfl (lv_at hl 1 rfl) ?_
    refine lv_iload_n hx hb dX11_breaks_29 rfl (lv_at hl 2 rfl) ?_
    refine t_cVi (n := 4) (C := RX0) (T := TX0) (N := 2) (As := [.ref b31540, .ref b31542, .int p1, .int p2]) (rest := [.ref p0]) X hT (kt95_X0_cheapest l G tag L F hT.2.2.2 b31538 b31540 b31542 p1 p2 mb31538 gb31538 mb31540 gb31540 mb31542 gb31542 (by omega)) mb31538 gb31538 rfl rfl qw_1012 qw_1013 qw_1014 qw_36 qw_1015 ⟨rfl, by decide +kernel, by decide +kernel, by decide +kernel⟩ ⟨Nat.le_of_ble_eq_true rfl, Nat.le_of_ble_eq_true rfl⟩ hl rfl rfl (Nat.le_of_ble_eq_true rfl) dX11_breaks_30 ⟨Nat.le_of_ble_eq_true rfl, Nat.le_of_ble_eq_true rfl⟩ (fun z31543 F H locs hT hz31543 => ?_)
    obtain ⟨hz31543, yz31543⟩ := hz31543
    have hv31537 := (yz31543 _ 10 (Or.inr (by decide)) (Or.inr (by decide))).trans hv31537
    have hv31539 := (yz31543 _ 3 (Or.inr (by decide)) (Or.inr (by decide))).trans hv31539
    have hv31541 := (yz31543 _ 5 (Or.inr (by decide)) (Or.inr (by decide))).trans hv31541
    have hfr : ∀ b j : Nat, (tag b ≠ 21 ∨ j ≠ 0) → (tag b ≠ 21 ∨ j ≠ 1) → (tag b ≠ 26 ∨ j ≠ 13) → fld F b j = fld Fo b j := fun b j n21_0 n21_1 n26_13 => (yz31543 b j n21_0 n21_1).trans (hfr b j n21_0 n21_1 n26_13)
    refine lv_bipush (v := 8) hx hb dX11_breaks_33 (by decide) ?_
    refine lv_irem hx hb dX11_breaks_35 (by decide) ?_
    refine lv_topi (fun z31544 ez31544 => ?_)
    have rz31544 := rg_all z31544
    refine t_cVi (n := 1) (C := RX11) (T := TX11) (N := 16) (As := [.int z31544]) (rest := []) X hT (kt96_X11_answer l G tag L F hT.2.2.2 p0 z31544 m0 g0) m0 g0 rfl rfl qw_463 qw_464 qw_465 qw_2 qw_466 ⟨rfl, by decide +kernel, by decide +kernel, by decide +kernel⟩ ⟨Nat.le_of_ble_eq_true rfl, Nat.le_of_ble_eq_true rfl⟩ hl rfl rfl (Nat.le_of_ble_eq_true rfl) dX11_breaks_36 ⟨Nat.le_of_ble_eq_true rfl, Nat.le_of_ble_eq_true rfl⟩ (fun z31545 F H locs hT hz31545 => ?_)
    obtain ⟨hz31545, yz31545⟩ := hz31545
    have hv31537 := (yz31545 _ 10 (Or.inr (by decide))).trans hv31537
    have hv31539 := (yz31545 _ 3 (Or.inr (by decide))).trans hv31539
    have hv31541 := (yz31545 _ 5 (Or.inr (by decide))).trans hv31541
    have hfr : ∀ b j : Nat, (tag b ≠ 21 ∨ j ≠ 0) → (tag b ≠ 21 ∨ j ≠ 1) → (tag b ≠ 26 ∨ j ≠ 13) → fld F b j = fld Fo b j := fun b j n21_0 n21_1 n26_13 => (yz31545 b j n26_13).trans (hfr b j n21_0 n21_1 n26_13)
    exact t_iret hQ X hT (⟨rg_all _, hfr⟩) (Nat.le_of_ble_eq_true rfl) (Nat.le_of_ble_eq_true rfl) dX11_breaks_39
  · have w31546 := cv_eq (rfl : z31532.toInt = z31532.toInt) (by decide : (0 : Int32).toInt = 0) c31533
    refine lv_aload_n hx hb dX11_breaks_9 rfl (lv_at hl 0 rfl) ?_
    refine lv_iconst (v := 1) hx hb dX11_breaks_10 (by decide) ?_
    refine t_cVi (n := 1) (C := RX11) (T := TX11) (N := 16) (As := [.int 1]) (rest := []) X hT (kt97_X11_refuse l G tag L F hT.2.2.2 p0 1 m0 g0) m0 g0 rfl rfl qw_152 qw_153 qw_154 qw_2 qw_155 ⟨rfl, by decide +kernel, by decide +kernel, by decide +kernel⟩ ⟨Nat.le_of_ble_eq_true rfl, Nat.le_of_ble_eq_true rfl⟩ hl rfl rfl (Nat.le_of_ble_eq_true rfl) dX11_breaks_11 ⟨Nat.le_of_ble_eq_true rfl, Nat.le_of_ble_eq_true rfl⟩ (fun z31547 F H locs hT hz31547 => ?_)
    obtain ⟨hz31547, yz31547⟩ := hz31547
    have hfr : ∀ b j : Nat, (tag b ≠ 21 ∨ j ≠ 0) → (tag b ≠ 21 ∨ j ≠ 1) → (tag b ≠ 26 ∨ j ≠ 13) → fld F b j = fld Fo b j := fun b j n21_0 n21_1 n26_13 => (yz31547 b j n26_13).trans (hfr b j n21_0 n21_1 n26_13)
    exact t_iret hQ X hT (⟨rg_all _, hfr⟩) (Nat.le_of_ble_eq_true rfl) (Nat.le_of_ble_eq_true rfl) dX11_breaks_14
set_option maxHeartbeats 4000000 in
set_option maxRecDepth 100000 in
theorem kt99_X11_isStone (l : Launch) (G : KG) (tag : Nat → Nat) (L : List Nat) (F : Nat → va_E) (ho : okT G ttC tag L F) (p0 : Nat) (p1 : Int32) (m0 : p0 ∈ L) (g0 : tag p0 = 26) : TMi l yX11_isStone cX11_isStone 2 (some .boolean) { frames := 0, cells := 0, slots := 0, locals := 0 } G ttC tag L F [.ref p0, .int p1] (fun r F1 => F1 = F ∧ (0 ≤ r.toInt ∧ r.toInt ≤ 1)) := by
  refine t_bodyi (y := yX11_isStone) (cd := cX11_isStone) (mL := 2) (rt := (some .boolean)) (rm := { frames := 0, cells := 0, slots := 0, locals := 0 }) (av := [.ref p0, .int p1]) (by decide) (Nat.le_of_ble_eq_true rfl) ho ?_
  intro p e s m args below meth c ls A Q hQ X hT hl
  have hx := X.1.1
  have hb := X.1.2.1
  have hl : lv_has ls 2 [(0, .ref p0), (1, .int p1)] := hl
  have rp1 := rg_all p1
  refine lv_aload_n hx hb dX11_isStone_0 rfl (lv_at hl 0 rfl) ?_
  refine t_get (C := RX11) (T := TX11) (N := 16) X hT m0 g0 rfl rfl 2 (by decide) qw_150 inlX11 rfl dX11_isStone_1 (fun v31718 hv31718 ov31718 => ?_)
  obtain ⟨z31719, rfl, rz31719⟩ := okV_i ov31718
  refine lv_if_eq (tgt := 26) hx hb dX11_isStone_4 (by decide) (fun c31720 => ?_) (fun c31720 => ?_)
  · have w31721 := cv_eq (rfl : z31719.toInt = z31719.toInt) (by decide : (0 : Int32).toInt = 0) c31720
    refine lv_iconst (v := 0) hx hb dX11_isStone_26 (by decide) ?_
    exact t_zret hQ X hT (by decide) (⟨rfl, (by decide)⟩) (Nat.le_of_ble_eq_true rfl) (Nat.le_of_ble_eq_true rfl) dX11_isStone_27
  · have w31722 := cv_ne (rfl : z31719.toInt = z31719.toInt) (by decide : (0 : Int32).toInt = 0) c31720
    refine lv_iload_n hx hb dX11_isStone_7 rfl (lv_at hl 1 rfl) ?_
    refine lv_if_lt (tgt := 26) hx hb dX11_isStone_8 (by decide) (fun c31723 => ?_) (fun c31723 => ?_)
    · have w31724 := cv_lt (rfl : p1.toInt = p1.toInt) (by decide : (0 : Int32).toInt = 0) c31723
      refine lv_iconst (v := 0) hx hb dX11_isStone_26 (by decide) ?_
      exact t_zret hQ X hT (by decide) (⟨rfl, (by decide)⟩) (Nat.le_of_ble_eq_true rfl) (Nat.le_of_ble_eq_true rfl) dX11_isStone_27
    · have w31725 := cv_nlt (rfl : p1.toInt = p1.toInt) (by decide : (0 : Int32).toInt = 0) c31723
      refine lv_iload_n hx hb dX11_isStone_11 rfl (lv_at hl 1 rfl) ?_
      refine lv_aload_n hx hb dX11_isStone_12 rfl (lv_at hl 0 rfl) ?_
      refine t_get (C := RX11) (T := TX11) (N := 16) X hT m0 g0 rfl rfl 3 (by decide) qw_18 inlX11 rfl dX11_isStone_13 (fun v31726 hv31726 ov31726 => ?_)
      obtain ⟨b31727, rfl, mb31727, gb31727⟩ := okV_r ov31726
      have gb31727 : tag b31727 = 18 := tg_of gb31727
      refine t_get (C := RX1) (T := TX1) (N := 20) X hT mb31727 gb31727 rfl rfl 8 (by decide) qw_958 inlX1 rfl dX11_isStone_16 (fun v31728 hv31728 ov31728 => ?_)
      obtain ⟨z31729, rfl, rz31729⟩ := okV_i ov31728
      refine lv_icmp_ge (tgt := 26) hx hb dX11_isStone_19 (by decide) (fun c31730 => ?_) (fun c31730 => ?_)
      · have w31731 := cv_le (rfl : z31729.toInt = z31729.toInt) (rfl : p1.toInt = p1.toInt) c31730
        refine lv_iconst (v := 0) hx hb dX11_isStone_26 (by decide) ?_
        exact t_zret hQ X hT (by decide) (⟨rfl, (by decide)⟩) (Nat.le_of_ble_eq_true rfl) (Nat.le_of_ble_eq_true rfl) dX11_isStone_27
      · have w31732 := cv_nle (rfl : z31729.toInt = z31729.toInt) (rfl : p1.toInt = p1.toInt) c31730
        refine lv_iconst (v := 1) hx hb dX11_isStone_22 (by decide) ?_
        refine lv_goto (tgt := 27) hx hb dX11_isStone_23 (by decide) ?_
        exact t_zret hQ X hT (by decide) (⟨rfl, (by decide)⟩) (Nat.le_of_ble_eq_true rfl) (Nat.le_of_ble_eq_true rfl) dX11_isStone_27
set_option maxHeartbeats 4000000 in
set_option maxRecDepth 100000 in
theorem kt100_X2_keep (l : Launch) (G : KG) (tag : Nat → Nat) (L : List Nat) (Fo : Nat → va_E) (ho : okT G ttC tag L Fo) (p0 : Nat) (p1 : Nat) (m0 : p0 ∈ L) (g0 : tag p0 = 23) (m1 : p1 ∈ L) (g1 : tag p1 = 19) : TMv l yX2_keep cX2_keep 2 { frames := 2, cells := 0, slots := 0, locals := 45 } G ttC tag L Fo [.ref p0, .ref p1] (fun F1 => ∀ b j : Nat, (tag b ≠ 19 ∨ j ≠ 0) → (tag b ≠ 19 ∨ j ≠ 1) → (tag b ≠ 23 ∨ j ≠ 2) → (tag b ≠ 23 ∨ j ≠ 3) → fld F1 b j = fld Fo b j) := by
  refine t_bodyv (y := yX2_keep) (cd := cX2_keep) (mL := 2) (rm := { frames := 2, cells := 0, slots := 0, locals := 45 }) (av := [.ref p0, .ref p1]) (by decide) (Nat.le_of_ble_eq_true rfl) ho ?_
  intro p e s m args below meth c ls A Q hQ X hT hl
  have hx := X.1.1
  have hb := X.1.2.1
  have hl : lv_has ls 2 [(0, .ref p0), (1, .ref p1)] := hl
  obtain ⟨F, hFo⟩ : ∃ F : Nat → va_E, F = Fo := ⟨_, rfl⟩
  rw [← hFo] at hT
  have hfr : ∀ b j : Nat, (tag b ≠ 19 ∨ j ≠ 0) → (tag b ≠ 19 ∨ j ≠ 1) → (tag b ≠ 23 ∨ j ≠ 2) → (tag b ≠ 23 ∨ j ≠ 3) → fld F b j = fld Fo b j := by
    rw [hFo]
    intros
    rfl
  have K32 : ∀ (z32084 : Int32) (F : Nat → va_E) (H : Heap) (locs : List Loc) (ls : Array Slot), (0 ≤ z32084.toInt ∧ z32084.toInt ≤ 9) → TH G ttC A s tag L F H locs → (∀ b j : Nat, (tag b ≠ 19 ∨ j ≠ 0) → (tag b ≠ 19 ∨ j ≠ 1) → (tag b ≠ 23 ∨ j ≠ 2) → (tag b ≠ 23 ∨ j ≠ 3) → fld F b j = fld Fo b j) → fld F p0 3 = .int z32084 → lv_has ls 2 [(0, .ref p0), (1, .ref p1)] → W p l e { frames := 2, cells := 0, slots := 0, locals := 45 } s m args below meth c H locs 0 0 Q (F0 m 32 ls []) := by
    intro z32084 F H locs ls rz32084 hT hfr qz32084 hl
    refine lv_aload_n hx hb dX2_keep_32 rfl (lv_at hl 0 rfl) ?_
    refine t_get (C := RX2) (T := TX2) (N := 5) X hT m0 g0 rfl rfl 0 (by decide) qw_103 inlX2 rfl dX2_keep_33 (fun v32085 hv32085 ov32085 => ?_)
    obtain ⟨b32086, rfl, mb32086, gb32086⟩ := okV_r ov32085
    have gb32086 : tag b32086 = 16 := tg_of gb32086
    refine lv_aload_n hx hb dX2_keep_36 rfl (lv_at hl 0 rfl) ?_
    refine t_get (C := RX2) (T := TX2) (N := 5) X hT m0 g0 rfl rfl 2 (by decide) qw_1431 inlX2 rfl dX2_keep_37 (fun v32087 hv32087 ov32087 => ?_)
    obtain ⟨z32088, rfl, rz32088⟩ := okV_i ov32087
    refine lv_aload_n hx hb dX2_keep_40 rfl (lv_at hl 0 rfl) ?_
    refine t_get (C := RX2) (T := TX2) (N := 5) X hT m0 g0 rfl rfl 3 (by decide) qw_461 inlX2 rfl dX2_keep_41 (fun v32089 hv32089 ov32089 => ?_)
    obtain rfl : v32089 = .int z32084 := hv32089.symm.trans qz32084
    refine lv_iadd hx hb dX2_keep_44 ?_
    refine lv_topi (fun z32090 ez32090 => ?_)
    have hz32090 : z32090.toInt = z32088.toInt + z32084.toInt := ar_add ez32090 (rfl : z32088.toInt = z32088.toInt) (rfl : z32084.toInt = z32084.toInt) (by omega) (by omega)
    have rz32090 : 0 ≤ z32090.toInt ∧ z32090.toInt ≤ 18 := by omega
    refine lv_bipush (v := 10) hx hb dX2_keep_45 (by decide) ?_
    refine lv_irem hx hb dX2_keep_47 (by decide) ?_
    refine lv_topi (fun z32091 ez32091 => ?_)
    have hz32091 : z32091.toInt = z32090.toInt % 10 := ar_rem ez32091 (rfl : z32090.toInt = z32090.toInt) (by decide : (10 : Int32).toInt = 10) (by omega) (by omega)
    have rz32091 : 0 ≤ z32091.toInt ∧ z32091.toInt ≤ 9 := by omega
    refine t_ald X hT mb32086 gb32086 rfl (by omega) dX2_keep_48 (fun b32092 mb32092 gb32092 => ?_)
    have gb32092 : tag b32092 = 19 := tg_of gb32092
    refine lv_aload_n hx hb dX2_keep_49 rfl (lv_at hl 1 rfl) ?_
    refine t_cVv (n := 1) (C := RX7) (T := TX7) (N := 7) (As := [.ref p1]) (rest := []) X hT (kt77_X7_copyFrom l G tag L F hT.2.2.2 b32092 p1 mb32092 gb32092 m1 g1) mb32092 gb32092 rfl rfl qw_1432 qw_450 qw_451 qw_22 qw_452 ⟨rfl, by decide +kernel, by decide +kernel, by decide +kernel⟩ ⟨Nat.le_of_ble_eq_true rfl, Nat.le_of_ble_eq_true rfl⟩ hl rfl rfl (Nat.le_of_ble_eq_true rfl) dX2_keep_50 ⟨Nat.le_of_ble_eq_true rfl, Nat.le_of_ble_eq_true rfl⟩ (fun F H locs hT hz32093 => ?_)
    have yz32093 := hz32093
    have qz32084 := (yz32093 _ 3 (Or.inr (by decide)) (Or.inr (by decide))).trans qz32084
    have hv32085 := (yz32093 _ 0 (Or.inl (by rw [g0]; decide)) (Or.inr (by decide))).trans hv32085
    have hv32087 := (yz32093 _ 2 (Or.inr (by decide)) (Or.inr (by decide))).trans hv32087
    have hfr : ∀ b j : Nat, (tag b ≠ 19 ∨ j ≠ 0) → (tag b ≠ 19 ∨ j ≠ 1) → (tag b ≠ 23 ∨ j ≠ 2) → (tag b ≠ 23 ∨ j ≠ 3) → fld F b j = fld Fo b j := fun b j n19_0 n19_1 n23_2 n23_3 => (yz32093 b j n19_0 n19_1).trans (hfr b j n19_0 n19_1 n23_2 n23_3)
    refine lv_aload_n hx hb dX2_keep_53 rfl (lv_at hl 0 rfl) ?_
    refine lv_dup hx hb dX2_keep_54 rfl ?_
    refine t_get (C := RX2) (T := TX2) (N := 5) X hT m0 g0 rfl rfl 3 (by decide) qw_461 inlX2 rfl dX2_keep_55 (fun v32094 hv32094 ov32094 => ?_)
    obtain rfl : v32094 = .int z32084 := hv32094.symm.trans qz32084
    refine lv_iconst (v := 1) hx hb dX2_keep_58 (by decide) ?_
    refine lv_iadd hx hb dX2_keep_59 ?_
    refine lv_topi (fun z32095 ez32095 => ?_)
    have hz32095 : z32095.toInt = z32084.toInt + 1 := ar_add ez32095 (rfl : z32084.toInt = z32084.toInt) (by decide : (1 : Int32).toInt = 1) (by omega) (by omega)
    have rz32095 : 1 ≤ z32095.toInt ∧ z32095.toInt ≤ 10 := by omega
    refine t_put (C := RX2) (T := TX2) (N := 5) (v := .int z32095) X hT m0 g0 rfl tyX2 tyX2_ok nmX2 rfl 3 (by decide) qw_461 inlX2 rfl (by first | rfl | decide) (by first | rfl | decide) rfl (⟨_, rfl, (by omega), (by omega)⟩) dX2_keep_60 (fun F H locs hT v32096 h1v32096 h2v32096 => ?_)
    have hv32085 := (h1v32096 _ _ (Or.inr (by decide))).trans hv32085
    have hv32087 := (h1v32096 _ _ (Or.inr (by decide))).trans hv32087
    have hfr : ∀ b j : Nat, (tag b ≠ 19 ∨ j ≠ 0) → (tag b ≠ 19 ∨ j ≠ 1) → (tag b ≠ 23 ∨ j ≠ 2) → (tag b ≠ 23 ∨ j ≠ 3) → fld F b j = fld Fo b j := fun b j n19_0 n19_1 n23_2 n23_3 => (h1v32096 b j (fr_ne g0 n23_3)).trans (hfr b j n19_0 n19_1 n23_2 n23_3)
    exact t_vret hQ X hT hfr (Nat.le_of_ble_eq_true rfl) (Nat.le_of_ble_eq_true rfl) dX2_keep_63
  refine lv_aload_n hx hb dX2_keep_0 rfl (lv_at hl 0 rfl) ?_
  refine t_get (C := RX2) (T := TX2) (N := 5) X hT m0 g0 rfl rfl 3 (by decide) qw_461 inlX2 rfl dX2_keep_1 (fun v32097 hv32097 ov32097 => ?_)
  obtain ⟨z32098, rfl, rz32098⟩ := okV_i ov32097
  refine lv_bipush (v := 10) hx hb dX2_keep_4 (by decide) ?_
  refine lv_icmp_ne (tgt := 32) hx hb dX2_keep_6 (by decide) (fun c32099 => ?_) (fun c32099 => ?_)
  · have w32100 := cv_ne (rfl : z32098.toInt = z32098.toInt) (by decide : (10 : Int32).toInt = 10) c32099
    exact K32 z32098 _ _ _ _ (by omega) hT hfr hv32097 (lv_sub hl [0, 1] rfl)
  · have w32101 := cv_eq (rfl : z32098.toInt = z32098.toInt) (by decide : (10 : Int32).toInt = 10) c32099
    refine lv_aload_n hx hb dX2_keep_9 rfl (lv_at hl 0 rfl) ?_
    refine lv_aload_n hx hb dX2_keep_10 rfl (lv_at hl 0 rfl) ?_
    refine t_get (C := RX2) (T := TX2) (N := 5) X hT m0 g0 rfl rfl 2 (by decide) qw_1431 inlX2 rfl dX2_keep_11 (fun v32102 hv32102 ov32102 => ?_)
    obtain ⟨z32103, rfl, rz32103⟩ := okV_i ov32102
    refine lv_iconst (v := 1) hx hb dX2_keep_14 (by decide) ?_
    refine lv_iadd hx hb dX2_keep_15 ?_
    refine lv_topi (fun z32104 ez32104 => ?_)
    have hz32104 : z32104.toInt = z32103.toInt + 1 := ar_add ez32104 (rfl : z32103.toInt = z32103.toInt) (by decide : (1 : Int32).toInt = 1) (by omega) (by omega)
    have rz32104 : 1 ≤ z32104.toInt ∧ z32104.toInt ≤ 10 := by omega
    refine lv_bipush (v := 10) hx hb dX2_keep_16 (by decide) ?_
    refine lv_irem hx hb dX2_keep_18 (by decide) ?_
    refine lv_topi (fun z32105 ez32105 => ?_)
    have hz32105 : z32105.toInt = z32104.toInt % 10 := ar_rem ez32105 (rfl : z32104.toInt = z32104.toInt) (by decide : (10 : Int32).toInt = 10) (by omega) (by omega)
    have rz32105 : 0 ≤ z32105.toInt ∧ z32105.toInt ≤ 9 := by omega
    refine t_put (C := RX2) (T := TX2) (N := 5) (v := .int z32105) X hT m0 g0 rfl tyX2 tyX2_ok nmX2 rfl 2 (by decide) qw_1431 inlX2 rfl (by first | rfl | decide) (by first | rfl | decide) rfl (⟨_, rfl, (by omega), (by omega)⟩) dX2_keep_19 (fun F H locs hT v32106 h1v32106 h2v32106 => ?_)
    have hv32097 := (h1v32106 _ _ (Or.inr (by decide))).trans hv32097
    have hfr : ∀ b j : Nat, (tag b ≠ 19 ∨ j ≠ 0) → (tag b ≠ 19 ∨ j ≠ 1) → (tag b ≠ 23 ∨ j ≠ 2) → (tag b ≠ 23 ∨ j ≠ 3) → fld F b j = fld Fo b j := fun b j n19_0 n19_1 n23_2 n23_3 => (h1v32106 b j (fr_ne g0 n23_2)).trans (hfr b j n19_0 n19_1 n23_2 n23_3)
    refine lv_aload_n hx hb dX2_keep_22 rfl (lv_at hl 0 rfl) ?_
    refine lv_dup hx hb dX2_keep_23 rfl ?_
    refine t_get (C := RX2) (T := TX2) (N := 5) X hT m0 g0 rfl rfl 3 (by decide) qw_461 inlX2 rfl dX2_keep_24 (fun v32107 hv32107 ov32107 => ?_)
    obtain rfl : v32107 = .int z32098 := hv32107.symm.trans hv32097
    refine lv_iconst (v := 1) hx hb dX2_keep_27 (by decide) ?_
    refine lv_isub hx hb dX2_keep_28 ?_
    refine lv_topi (fun z32108 ez32108 => ?_)
    have hz32108 : z32108.toInt = z32098.toInt - 1 := ar_sub ez32108 (rfl : z32098.toInt = z32098.toInt) (by decide : (1 : Int32).toInt = 1) (by omega) (by omega)
    have rz32108 : 9 ≤ z32108.toInt ∧ z32108.toInt ≤ 9 := by omega
    refine t_put (C := RX2) (T := TX2) (N := 5) (v := .int z32108) X hT m0 g0 rfl tyX2 tyX2_ok nmX2 rfl 3 (by decide) qw_461 inlX2 rfl (by first | rfl | decide) (by first | rfl | decide) rfl (⟨_, rfl, (by omega), (by omega)⟩) dX2_keep_29 (fun F H locs hT v32109 h1v32109 h2v32109 => ?_)
    have v32106 := (h1v32109 _ _ (Or.inr (by decide))).trans v32106
    have hfr : ∀ b j : Nat, (tag b ≠ 19 ∨ j ≠ 0) → (tag b ≠ 19 ∨ j ≠ 1) → (tag b ≠ 23 ∨ j ≠ 2) → (tag b ≠ 23 ∨ j ≠ 3) → fld F b j = fld Fo b j := fun b j n19_0 n19_1 n23_2 n23_3 => (h1v32109 b j (fr_ne g0 n23_3)).trans (hfr b j n19_0 n19_1 n23_2 n23_3)
    exact K32 z32108 _ _ _ _ (by omega) hT hfr v32109 (lv_sub hl [0, 1] rfl)
