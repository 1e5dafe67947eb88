set_option maxHeartbeats 4000000 in
set_option maxRecDepth 100000 in
theorem kt146_X3_fail (l : Launch) (G : KG) (tag : Nat → Nat) (L : List Nat) (Fo : Nat → va_E) (ho : okT G ttC tag L Fo) (p0 : Nat) (p1 : Int32) (p2 : Int32) (m0 : p0 ∈ L) (g0 : tag p0 = 25) : TMv l yX3_fail cX3_fail 3 { frames := 0, cells := 0, slots := 0, locals := 0 } G ttC tag L Fo [.ref p0, .int p1, .int p2] (fun F1 => ∀ b j : Nat, (tag b ≠ 25 ∨ j ≠ 3) → (tag b ≠ 25 ∨ j ≠ 4) → fld F1 b j = fld Fo b j) := by
  refine t_bodyv (y := yX3_fail) (cd := cX3_fail) (mL := 3) (rm := { frames := 0, cells := 0, slots := 0, locals := 0 }) (av := [.ref p0, .int p1, .int p2]) (by decide) (Nat.le_of_ble_eq_true rfl) ho ?_
  intro p e s m args below meth c ls A Q hQ X hT hl
  have hx := X.1.1
  have hb := X.1.2.1
  have hl : lv_has ls 3 [(0, .ref p0), (1, .int p1), (2, .int p2)] := hl
  have rp1 := rg_all p1
  have rp2 := rg_all p2
  obtain ⟨F, hFo⟩ : ∃ F : Nat → va_E, F = Fo := ⟨_, rfl⟩
  rw [← hFo] at hT
  have hfr : ∀ b j : Nat, (tag b ≠ 25 ∨ j ≠ 3) → (tag b ≠ 25 ∨ j ≠ 4) → fld F b j = fld Fo b j := by
    rw [hFo]
    intros
    rfl
  refine lv_aload_n hx hb dX3_fail_0 rfl (lv_at hl 0 rfl) ?_
  refine t_get (C := RX3) (T := TX3) (N := 13) X hT m0 g0 rfl rfl 3 (by decide) qw_163 inlX3 rfl dX3_fail_1 (fun v54256 hv54256 ov54256 => ?_)
  obtain ⟨z54257, rfl, rz54257⟩ := okV_i ov54256
  refine lv_if_ne (tgt := 17) hx hb dX3_fail_4 (by decide) (fun c54258 => ?_) (fun c54258 => ?_)
  · have w54259 := cv_ne (rfl : z54257.toInt = z54257.toInt) (by decide : (0 : Int32).toInt = 0) c54258
    exact t_vret hQ X hT hfr (Nat.le_of_ble_eq_true rfl) (Nat.le_of_ble_eq_true rfl) dX3_fail_17
  · have w54260 := cv_eq (rfl : z54257.toInt = z54257.toInt) (by decide : (0 : Int32).toInt = 0) c54258
    refine lv_aload_n hx hb dX3_fail_7 rfl (lv_at hl 0 rfl) ?_
    refine lv_iload_n hx hb dX3_fail_8 rfl (lv_at hl 1 rfl) ?_
    refine t_put (C := RX3) (T := TX3) (N := 13) (v := .int p1) X hT m0 g0 rfl tyX3 tyX3_ok nmX3 rfl 3 (by decide) qw_163 inlX3 rfl (by first | rfl | decide) (by first | rfl | decide) rfl (⟨_, rfl, (show (-2147483648) ≤ (p1 : Int32).toInt from (by omega)), (show (p1 : Int32).toInt ≤ 2147483647 from (by omega))⟩) dX3_fail_9 (fun F H locs hT v54261 h1v54261 h2v54261 => ?_)
    have hfr : ∀ b j : Nat, (tag b ≠ 25 ∨ j ≠ 3) → (tag b ≠ 25 ∨ j ≠ 4) → fld F b j = fld Fo b j := fun b j n25_3 n25_4 => (h1v54261 b j (fr_ne g0 n25_3)).trans (hfr b j n25_3 n25_4)
    refine lv_aload_n hx hb dX3_fail_12 rfl (lv_at hl 0 rfl) ?_
    refine lv_iload_n hx hb dX3_fail_13 rfl (lv_at hl 2 rfl) ?_
    refine t_put (C := RX3) (T := TX3) (N := 13) (v := .int p2) X hT m0 g0 rfl tyX3 tyX3_ok nmX3 rfl 4 (by decide) qw_164 inlX3 rfl (by first | rfl | decide) (by first | rfl | decide) rfl (⟨_, rfl, (show (-2147483648) ≤ (p2 : Int32).toInt from (by omega)), (show (p2 : Int32).toInt ≤ 2147483647 from (by omega))⟩) dX3_fail_14 (fun F H locs hT v54262 h1v54262 h2v54262 => ?_)
    have v54261 := (h1v54262 _ _ (Or.inr (by decide))).trans v54261
    have hfr : ∀ b j : Nat, (tag b ≠ 25 ∨ j ≠ 3) → (tag b ≠ 25 ∨ j ≠ 4) → fld F b j = fld Fo b j := fun b j n25_3 n25_4 => (h1v54262 b j (fr_ne g0 n25_4)).trans (hfr b j n25_3 n25_4)
    exact t_vret hQ X hT hfr (Nat.le_of_ble_eq_true rfl) (Nat.le_of_ble_eq_true rfl) dX3_fail_17
set_option maxHeartbeats 4000000 in
set_option maxRecDepth 100000 in
theorem kt147_X3_checkLine (l : Launch) (G : KG) (tag : Nat → Nat) (L : List Nat) (Fo : Nat → va_E) (ho : okT G ttC tag L Fo) (p0 : Nat) (p1 : Int32) (x0 : Nat) (x1 : Nat) (x2 : Nat) (x3 : Nat) (m0 : p0 ∈ L) (g0 : tag p0 = 25) (mx0 : x0 ∈ L) (gx0 : tag x0 = 24) (pf0 : fld Fo p0 0 = .ref x0) (mx1 : x1 ∈ L) (gx1 : tag x1 = 18) (pf1 : fld Fo p0 1 = .ref x1) (mx2 : x2 ∈ L) (gx2 : tag x2 = 19) (pf2 : fld Fo p0 2 = .ref x2) (mx3 : x3 ∈ L) (gx3 : tag x3 = 1) (pf3 : fld Fo x0 0 = .ref x3) : TMv l yX3_checkLine cX3_checkLine 2 { frames := 1, cells := 0, slots := 0, locals := 22 } G ttC tag L Fo [.ref p0, .int p1] (fun F1 => ∀ b j : Nat, (tag b ≠ 25 ∨ j ≠ 3) → (tag b ≠ 25 ∨ j ≠ 4) → fld F1 b j = fld Fo b j) := by
  refine t_bodyv (y := yX3_checkLine) (cd := cX3_checkLine) (mL := 2) (rm := { frames := 1, cells := 0, slots := 0, locals := 22 }) (av := [.ref p0, .int p1]) (by decide) (Nat.le_of_ble_eq_true rfl) ho ?_
  intro p e s m args below meth c ls A Q hQ X hT hl
  have hx := X.1.1
  have hb := X.1.2.1
  have hl : lv_has ls 2 [(0, .ref p0), (1, .int p1)] := hl
  have rp1 := rg_all p1
  obtain ⟨F, hFo⟩ : ∃ F : Nat → va_E, F = Fo := ⟨_, rfl⟩
  rw [← hFo] at hT pf0 pf1 pf2 pf3
  have hfr : ∀ b j : Nat, (tag b ≠ 25 ∨ j ≠ 3) → (tag b ≠ 25 ∨ j ≠ 4) → fld F b j = fld Fo b j := by
    rw [hFo]
    intros
    rfl
  have K72 : ∀  (F : Nat → va_E) (H : Heap) (locs : List Loc) (ls : Array Slot), TH G ttC A s tag L F H locs → (∀ b j : Nat, (tag b ≠ 25 ∨ j ≠ 3) → (tag b ≠ 25 ∨ j ≠ 4) → fld F b j = fld Fo b j) → fld F p0 0 = .ref x0 → fld F p0 1 = .ref x1 → fld F p0 2 = .ref x2 → fld F x0 0 = .ref x3 → lv_has ls 2 [(0, .ref p0), (1, .int p1)] → W p l e { frames := 1, cells := 0, slots := 0, locals := 22 } s m args below meth c H locs 0 0 Q (F0 m 72 ls []) := by
    intro F H locs ls hT hfr pf0 pf1 pf2 pf3 hl
    refine lv_aload_n hx hb dX3_checkLine_72 rfl (lv_at hl 0 rfl) ?_
    refine lv_bipush (v := 6) hx hb dX3_checkLine_73 (by decide) ?_
    refine lv_aload_n hx hb dX3_checkLine_75 rfl (lv_at hl 0 rfl) ?_
    refine t_get (C := RX3) (T := TX3) (N := 13) X hT m0 g0 rfl rfl 0 (by decide) qw_73 inlX3 rfl dX3_checkLine_76 (fun v54785 hv54785 ov54785 => ?_)
    obtain rfl : v54785 = .ref x0 := hv54785.symm.trans pf0
    refine t_get (C := RX8) (T := TX8) (N := 8) X hT mx0 gx0 rfl rfl 4 (by decide) qw_227 inlX8 rfl dX3_checkLine_79 (fun v54786 hv54786 ov54786 => ?_)
    obtain ⟨z54787, rfl, rz54787⟩ := okV_i ov54786
    refine t_cVv (n := 2) (C := RX3) (T := TX3) (N := 13) (As := [.int 6, .int z54787]) (rest := []) X hT (kt146_X3_fail l G tag L F hT.2.2.2 p0 6 z54787 m0 g0) m0 g0 rfl rfl qw_287 qw_288 qw_289 qw_28 qw_290 ⟨rfl, by decide +kernel, by decide +kernel, by decide +kernel⟩ ⟨Nat.le_of_ble_eq_true rfl, Nat.le_of_ble_eq_true rfl⟩ hl rfl rfl (Nat.le_of_ble_eq_true rfl) dX3_checkLine_82 ⟨Nat.le_of_ble_eq_true rfl, Nat.le_of_ble_eq_true rfl⟩ (fun F H locs hT hz54788 => ?_)
    have yz54788 := hz54788
    have pf0 := (yz54788 _ 0 (Or.inr (by decide)) (Or.inr (by decide))).trans pf0
    have pf1 := (yz54788 _ 1 (Or.inr (by decide)) (Or.inr (by decide))).trans pf1
    have pf2 := (yz54788 _ 2 (Or.inr (by decide)) (Or.inr (by decide))).trans pf2
    have pf3 := (yz54788 _ 0 (Or.inr (by decide)) (Or.inr (by decide))).trans pf3
    have hv54786 := (yz54788 _ 4 (Or.inr (by decide)) (Or.inl (by rw [gx0]; decide))).trans hv54786
    have hfr : ∀ b j : Nat, (tag b ≠ 25 ∨ j ≠ 3) → (tag b ≠ 25 ∨ j ≠ 4) → fld F b j = fld Fo b j := fun b j n25_3 n25_4 => (yz54788 b j n25_3 n25_4).trans (hfr b j n25_3 n25_4)
    exact t_vret hQ X hT hfr (Nat.le_of_ble_eq_true rfl) (Nat.le_of_ble_eq_true rfl) dX3_checkLine_85
  have K57 : ∀  (F : Nat → va_E) (H : Heap) (locs : List Loc) (ls : Array Slot), TH G ttC A s tag L F H locs → (∀ b j : Nat, (tag b ≠ 25 ∨ j ≠ 3) → (tag b ≠ 25 ∨ j ≠ 4) → fld F b j = fld Fo b j) → fld F p0 0 = .ref x0 → fld F p0 1 = .ref x1 → fld F p0 2 = .ref x2 → fld F x0 0 = .ref x3 → lv_has ls 2 [(0, .ref p0), (1, .int p1)] → W p l e { frames := 1, cells := 0, slots := 0, locals := 22 } s m args below meth c H locs 0 0 Q (F0 m 57 ls []) := by
    intro F H locs ls hT hfr pf0 pf1 pf2 pf3 hl
    refine lv_iload_n hx hb dX3_checkLine_57 rfl (lv_at hl 1 rfl) ?_
    refine lv_iconst (v := 2) hx hb dX3_checkLine_58 (by decide) ?_
    refine lv_icmp_ne (tgt := 85) hx hb dX3_checkLine_59 (by decide) (fun c54789 => ?_) (fun c54789 => ?_)
    · have w54790 := cv_ne (rfl : p1.toInt = p1.toInt) (by decide : (2 : Int32).toInt = 2) c54789
      exact t_vret hQ X hT hfr (Nat.le_of_ble_eq_true rfl) (Nat.le_of_ble_eq_true rfl) dX3_checkLine_85
    · have w54791 := cv_eq (rfl : p1.toInt = p1.toInt) (by decide : (2 : Int32).toInt = 2) c54789
      refine lv_aload_n hx hb dX3_checkLine_62 rfl (lv_at hl 0 rfl) ?_
      refine t_get (C := RX3) (T := TX3) (N := 13) X hT m0 g0 rfl rfl 1 (by decide) qw_161 inlX3 rfl dX3_checkLine_63 (fun v54792 hv54792 ov54792 => ?_)
      obtain rfl : v54792 = .ref x1 := hv54792.symm.trans pf1
      refine t_get (C := RX1) (T := TX1) (N := 20) X hT mx1 gx1 rfl rfl 10 (by decide) qw_172 inlX1 rfl dX3_checkLine_66 (fun v54793 hv54793 ov54793 => ?_)
      obtain ⟨z54794, rfl, rz54794⟩ := okV_i ov54793
      refine lv_if_le (tgt := 85) hx hb dX3_checkLine_69 (by decide) (fun c54795 => ?_) (fun c54795 => ?_)
      · have w54796 := cv_le (rfl : z54794.toInt = z54794.toInt) (by decide : (0 : Int32).toInt = 0) c54795
        exact t_vret hQ X hT hfr (Nat.le_of_ble_eq_true rfl) (Nat.le_of_ble_eq_true rfl) dX3_checkLine_85
      · have w54797 := cv_nle (rfl : z54794.toInt = z54794.toInt) (by decide : (0 : Int32).toInt = 0) c54795
        exact K72  _ _ _ _  hT hfr pf0 pf1 pf2 pf3 (lv_sub hl [0, 1] rfl)
  refine lv_aload_n hx hb dX3_checkLine_0 rfl (lv_at hl 0 rfl) ?_
  refine lv_iload_n hx hb dX3_checkLine_1 rfl (lv_at hl 1 rfl) ?_
  refine t_cVi (n := 1) (C := RX3) (T := TX3) (N := 13) (As := [.int p1]) (rest := []) X hT (kt144_X3_isLineAgain l G tag L F hT.2.2.2 p0 p1 m0 g0) m0 g0 rfl rfl qw_295 qw_296 qw_297 qw_28 qw_298 ⟨rfl, by decide +kernel, by decide +kernel, by decide +kernel⟩ ⟨Nat.le_of_ble_eq_true rfl, Nat.le_of_ble_eq_true rfl⟩ hl rfl rfl (Nat.le_of_ble_eq_true rfl) dX3_checkLine_2 ⟨Nat.le_of_ble_eq_true rfl, Nat.le_of_ble_eq_true rfl⟩ (fun z54798 F9 H locs hT hz54798 => ?_)
  obtain ⟨fz54798, hz54798⟩ := hz54798
  rw [fz54798] at hT
  refine lv_if_eq (tgt := 23) hx hb dX3_checkLine_5 (by decide) (fun c54799 => ?_) (fun c54799 => ?_)
  · have w54800 := cv_eq (rfl : z54798.toInt = z54798.toInt) (by decide : (0 : Int32).toInt = 0) c54799
    refine lv_aload_n hx hb dX3_checkLine_23 rfl (lv_at hl 0 rfl) ?_
    refine lv_iload_n hx hb dX3_checkLine_24 rfl (lv_at hl 1 rfl) ?_
    refine t_cVi (n := 1) (C := RX3) (T := TX3) (N := 13) (As := [.int p1]) (rest := []) X hT (kt145_X3_isLineTooMany l G tag L F hT.2.2.2 p0 p1 x0 x1 x2 x3 m0 g0 mx0 gx0 pf0 mx1 gx1 pf1 mx2 gx2 pf2 mx3 gx3 pf3) m0 g0 rfl rfl qw_299 qw_300 qw_301 qw_28 qw_302 ⟨rfl, by decide +kernel, by decide +kernel, by decide +kernel⟩ ⟨Nat.le_of_ble_eq_true rfl, Nat.le_of_ble_eq_true rfl⟩ hl rfl rfl (Nat.le_of_ble_eq_true rfl) dX3_checkLine_25 ⟨Nat.le_of_ble_eq_true rfl, Nat.le_of_ble_eq_true rfl⟩ (fun z54801 F9 H locs hT hz54801 => ?_)
    obtain ⟨fz54801, hz54801⟩ := hz54801
    rw [fz54801] at hT
    refine lv_if_eq (tgt := 46) hx hb dX3_checkLine_28 (by decide) (fun c54802 => ?_) (fun c54802 => ?_)
    · have w54803 := cv_eq (rfl : z54801.toInt = z54801.toInt) (by decide : (0 : Int32).toInt = 0) c54802
      refine lv_iload_n hx hb dX3_checkLine_46 rfl (lv_at hl 1 rfl) ?_
      refine lv_if_eq (tgt := 57) hx hb dX3_checkLine_47 (by decide) (fun c54804 => ?_) (fun c54804 => ?_)
      · have w54805 := cv_eq (rfl : p1.toInt = p1.toInt) (by decide : (0 : Int32).toInt = 0) c54804
        exact K57  _ _ _ _  hT hfr pf0 pf1 pf2 pf3 (lv_sub hl [0, 1] rfl)
      · have w54806 := cv_ne (rfl : p1.toInt = p1.toInt) (by decide : (0 : Int32).toInt = 0) c54804
        refine lv_aload_n hx hb dX3_checkLine_50 rfl (lv_at hl 0 rfl) ?_
        refine t_get (C := RX3) (T := TX3) (N := 13) X hT m0 g0 rfl rfl 5 (by decide) qw_165 inlX3 rfl dX3_checkLine_51 (fun v54807 hv54807 ov54807 => ?_)
        obtain ⟨z54808, rfl, rz54808⟩ := okV_i ov54807
        refine lv_if_eq (tgt := 72) hx hb dX3_checkLine_54 (by decide) (fun c54809 => ?_) (fun c54809 => ?_)
        · have w54810 := cv_eq (rfl : z54808.toInt = z54808.toInt) (by decide : (0 : Int32).toInt = 0) c54809
          exact K72  _ _ _ _  hT hfr pf0 pf1 pf2 pf3 (lv_sub hl [0, 1] rfl)
        · have w54811 := cv_ne (rfl : z54808.toInt = z54808.toInt) (by decide : (0 : Int32).toInt = 0) c54809
          exact K57  _ _ _ _  hT hfr pf0 pf1 pf2 pf3 (lv_sub hl [0, 1] rfl)
    · have w54812 := cv_ne (rfl : z54801.toInt = z54801.toInt) (by decide : (0 : Int32).toInt = 0) c54802
      refine lv_aload_n hx hb dX3_checkLine_31 rfl (lv_at hl 0 rfl) ?_
      refine lv_iconst (v := 5) hx hb dX3_checkLine_32 (by decide) ?_
      refine lv_aload_n hx hb dX3_checkLine_33 rfl (lv_at hl 0 rfl) ?_
      refine t_get (C := RX3) (T := TX3) (N := 13) X hT m0 g0 rfl rfl 0 (by decide) qw_73 inlX3 rfl dX3_checkLine_34 (fun v54813 hv54813 ov54813 => ?_)
      obtain rfl : v54813 = .ref x0 := hv54813.symm.trans pf0
      refine t_get (C := RX8) (T := TX8) (N := 8) X hT mx0 gx0 rfl rfl 4 (by decide) qw_227 inlX8 rfl dX3_checkLine_37 (fun v54814 hv54814 ov54814 => ?_)
      obtain ⟨z54815, rfl, rz54815⟩ := okV_i ov54814
      refine t_cVv (n := 2) (C := RX3) (T := TX3) (N := 13) (As := [.int 5, .int z54815]) (rest := []) X hT (kt146_X3_fail l G tag L F hT.2.2.2 p0 5 z54815 m0 g0) m0 g0 rfl rfl qw_287 qw_288 qw_289 qw_28 qw_290 ⟨rfl, by decide +kernel, by decide +kernel, by decide +kernel⟩ ⟨Nat.le_of_ble_eq_true rfl, Nat.le_of_ble_eq_true rfl⟩ hl rfl rfl (Nat.le_of_ble_eq_true rfl) dX3_checkLine_40 ⟨Nat.le_of_ble_eq_true rfl, Nat.le_of_ble_eq_true rfl⟩ (fun F H locs hT hz54816 => ?_)
      have yz54816 := hz54816
      have pf0 := (yz54816 _ 0 (Or.inr (by decide)) (Or.inr (by decide))).trans pf0
      have pf1 := (yz54816 _ 1 (Or.inr (by decide)) (Or.inr (by decide))).trans pf1
      have pf2 := (yz54816 _ 2 (Or.inr (by decide)) (Or.inr (by decide))).trans pf2
      have pf3 := (yz54816 _ 0 (Or.inr (by decide)) (Or.inr (by decide))).trans pf3
      have hv54814 := (yz54816 _ 4 (Or.inr (by decide)) (Or.inl (by rw [gx0]; decide))).trans hv54814
      have hfr : ∀ b j : Nat, (tag b ≠ 25 ∨ j ≠ 3) → (tag b ≠ 25 ∨ j ≠ 4) → fld F b j = fld Fo b j := fun b j n25_3 n25_4 => (yz54816 b j n25_3 n25_4).trans (hfr b j n25_3 n25_4)
      refine lv_goto (tgt := 85) hx hb dX3_checkLine_43 (by decide) ?_
      exact t_vret hQ X hT hfr (Nat.le_of_ble_eq_true rfl) (Nat.le_of_ble_eq_true rfl) dX3_checkLine_85
  · have w54817 := cv_ne (rfl : z54798.toInt = z54798.toInt) (by decide : (0 : Int32).toInt = 0) c54799
    refine lv_aload_n hx hb dX3_checkLine_8 rfl (lv_at hl 0 rfl) ?_
    refine lv_iconst (v := 3) hx hb dX3_checkLine_9 (by decide) ?_
    refine lv_aload_n hx hb dX3_checkLine_10 rfl (lv_at hl 0 rfl) ?_
    refine t_get (C := RX3) (T := TX3) (N := 13) X hT m0 g0 rfl rfl 0 (by decide) qw_73 inlX3 rfl dX3_checkLine_11 (fun v54818 hv54818 ov54818 => ?_)
    obtain rfl : v54818 = .ref x0 := hv54818.symm.trans pf0
    refine t_get (C := RX8) (T := TX8) (N := 8) X hT mx0 gx0 rfl rfl 4 (by decide) qw_227 inlX8 rfl dX3_checkLine_14 (fun v54819 hv54819 ov54819 => ?_)
    obtain ⟨z54820, rfl, rz54820⟩ := okV_i ov54819
    refine t_cVv (n := 2) (C := RX3) (T := TX3) (N := 13) (As := [.int 3, .int z54820]) (rest := []) X hT (kt146_X3_fail l G tag L F hT.2.2.2 p0 3 z54820 m0 g0) m0 g0 rfl rfl qw_287 qw_288 qw_289 qw_28 qw_290 ⟨rfl, by decide +kernel, by decide +kernel, by decide +kernel⟩ ⟨Nat.le_of_ble_eq_true rfl, Nat.le_of_ble_eq_true rfl⟩ hl rfl rfl (Nat.le_of_ble_eq_true rfl) dX3_checkLine_17 ⟨Nat.le_of_ble_eq_true rfl, Nat.le_of_ble_eq_true rfl⟩ (fun F H locs hT hz54821 => ?_)
    have yz54821 := hz54821
    have pf0 := (yz54821 _ 0 (Or.inr (by decide)) (Or.inr (by decide))).trans pf0
    have pf1 := (yz54821 _ 1 (Or.inr (by decide)) (Or.inr (by decide))).trans pf1
    have pf2 := (yz54821 _ 2 (Or.inr (by decide)) (Or.inr (by decide))).trans pf2
    have pf3 := (yz54821 _ 0 (Or.inr (by decide)) (Or.inr (by decide))).trans pf3
    have hv54819 := (yz54821 _ 4 (Or.inr (by decide)) (Or.inl (by rw [gx0]; decide))).trans hv54819
    have hfr : ∀ b j : Nat, (tag b ≠ 25 ∨ j ≠ 3) → (tag b ≠ 25 ∨ j ≠ 4) → fld F b j = fld Fo b j := fun b j n25_3 n25_4 => (yz54821 b j n25_3 n25_4).trans (hfr b j n25_3 n25_4)
    refine lv_goto (tgt := 85) hx hb dX3_checkLine_20 (by decide) ?_
    exact t_vret hQ X hT hfr (Nat.le_of_ble_eq_true rfl) (Nat.le_of_ble_eq_true rfl) dX3_checkLine_85
set_option maxHeartbeats 4000000 in
set_option maxRecDepth 100000 in
theorem kt148_X3_findName (l : Launch) (G : KG) (tag : Nat → Nat) (L : List Nat) (F : Nat → va_E) (ho : okT G ttC tag L F) (p0 : Nat) (x0 : Nat) (x1 : Nat) (x2 : Nat) (x3 : Nat) (m0 : p0 ∈ L) (g0 : tag p0 = 25) (mx0 : x0 ∈ L) (gx0 : tag x0 = 24) (pf0 : fld F p0 0 = .ref x0) (mx1 : x1 ∈ L) (gx1 : tag x1 = 18) (pf1 : fld F p0 1 = .ref x1) (mx2 : x2 ∈ L) (gx2 : tag x2 = 19) (pf2 : fld F p0 2 = .ref x2) (mx3 : x3 ∈ L) (gx3 : tag x3 = 1) (pf3 : fld F x0 0 = .ref x3) : TMi l yX3_findName cX3_findName 2 (some .int) { frames := 0, cells := 0, slots := 0, locals := 0 } G ttC tag L F [.ref p0] (fun r F1 => F1 = F ∧ ((-1) ≤ r.toInt ∧ r.toInt ≤ 19)) := by
  refine t_bodyi (y := yX3_findName) (cd := cX3_findName) (mL := 2) (rt := (some .int)) (rm := { frames := 0, cells := 0, slots := 0, locals := 0 }) (av := [.ref p0]) (by decide) (Nat.le_of_ble_eq_true rfl) ho ?_
  intro p e s m args below meth c ls A Q hQ X hT hl
  have hx := X.1.1
  have hb := X.1.2.1
  have hl : lv_has ls 2 [(0, .ref p0)] := hl
  have K2 : ∀ (n : Nat) (z55627 : Int32) (H : Heap) (locs : List Loc) (ls : Array Slot), (20 - z55627.toInt < (n : Int)) → (0 ≤ z55627.toInt ∧ z55627.toInt ≤ 20) → TH G ttC A s tag L F H locs → lv_has ls 2 [(0, .ref p0), (1, .int z55627)] → W p l e { frames := 0, cells := 0, slots := 0, locals := 0 } s m args below meth c H locs 0 0 Q (F0 m 2 ls []) := by
    intro n
    induction n with
    | zero =>
      intro z55627 H locs ls hn rz55627 hT hl
      exfalso
      omega
    | succ n ih2 =>
      intro z55627 H locs ls hn rz55627 hT hl
      have K40 : ∀ (z55629 : Int32) (H : Heap) (locs : List Loc) (ls : Array Slot), (1 ≤ z55629.toInt ∧ z55629.toInt ≤ 20) → (0 ≤ z55627.toInt ∧ z55627.toInt ≤ 19) → TH G ttC A s tag L F H locs → fld F p0 12 = .int z55629 → lv_has ls 2 [(0, .ref p0), (1, .int z55627)] → W p l e { frames := 0, cells := 0, slots := 0, locals := 0 } s m args below meth c H locs 0 0 Q (F0 m 40 ls []) := by
        intro z55629 H locs ls rz55629 r9s55628 hT qz55629 hl
        obtain ⟨z55630, ez55630⟩ : ∃ y : Int32, y = z55627 + 1 := ⟨_, rfl⟩
        have hz55630 : z55630.toInt = z55627.toInt + 1 := ar_add ez55630 rfl (by decide : (1 : Int32).toInt = 1) (by omega) (by omega)
        refine lv_iinc (v := z55630) (lv' := [(1, .int z55630), (0, .ref p0)]) hx hb dX3_findName_40 hl (k := 1) rfl (by rw [ez55630]; rfl) (by decide) rfl (fun ls hl => ?_)
        refine lv_goto (tgt := 2) hx hb dX3_findName_43 (by decide) ?_
        exact ih2 z55630 _ _ _ (by omega) (by omega) hT  (lv_sub hl [1, 0] rfl)
      refine lv_iload_n hx hb dX3_findName_2 rfl (lv_at hl 1 rfl) ?_
      refine lv_aload_n hx hb dX3_findName_3 rfl (lv_at hl 0 rfl) ?_
      refine t_get (C := RX3) (T := TX3) (N := 13) X hT m0 g0 rfl rfl 12 (by decide) qw_169 inlX3 rfl dX3_findName_4 (fun v55631 hv55631 ov55631 => ?_)
      obtain ⟨z55632, rfl, rz55632⟩ := okV_i ov55631
      refine lv_icmp_ge (tgt := 46) hx hb dX3_findName_7 (by decide) (fun c55633 => ?_) (fun c55633 => ?_)
      · have w55634 := cv_le (rfl : z55632.toInt = z55632.toInt) (rfl : z55627.toInt = z55627.toInt) c55633
        refine lv_iconst (v := (-1)) hx hb dX3_findName_46 (by decide) ?_
        exact t_iret hQ X hT (⟨rfl, (by decide)⟩) (Nat.le_of_ble_eq_true rfl) (Nat.le_of_ble_eq_true rfl) dX3_findName_47
      · have w55635 := cv_nle (rfl : z55632.toInt = z55632.toInt) (rfl : z55627.toInt = z55627.toInt) c55633
        refine lv_aload_n hx hb dX3_findName_10 rfl (lv_at hl 0 rfl) ?_
        refine t_get (C := RX3) (T := TX3) (N := 13) X hT m0 g0 rfl rfl 0 (by decide) qw_73 inlX3 rfl dX3_findName_11 (fun v55636 hv55636 ov55636 => ?_)
        obtain rfl : v55636 = .ref x0 := hv55636.symm.trans pf0
        refine t_get (C := RX8) (T := TX8) (N := 8) X hT mx0 gx0 rfl rfl 3 (by decide) qw_170 inlX8 rfl dX3_findName_14 (fun v55637 hv55637 ov55637 => ?_)
        obtain ⟨z55638, rfl, rz55638⟩ := okV_i ov55637
        refine lv_iconst (v := 1) hx hb dX3_findName_17 (by decide) ?_
        refine lv_icmp_ne (tgt := 40) hx hb dX3_findName_18 (by decide) (fun c55639 => ?_) (fun c55639 => ?_)
        · have w55640 := cv_ne (rfl : z55638.toInt = z55638.toInt) (by decide : (1 : Int32).toInt = 1) c55639
          exact K40 z55632 _ _ _ (by omega) (by omega) hT hv55631 (lv_sub hl [0, 1] rfl)
        · have w55641 := cv_eq (rfl : z55638.toInt = z55638.toInt) (by decide : (1 : Int32).toInt = 1) c55639
          refine lv_aload_n hx hb dX3_findName_21 rfl (lv_at hl 0 rfl) ?_
          refine t_get (C := RX3) (T := TX3) (N := 13) X hT m0 g0 rfl rfl 9 (by decide) qw_74 inlX3 rfl dX3_findName_22 (fun v55642 hv55642 ov55642 => ?_)
          obtain ⟨b55643, rfl, mb55643, gb55643⟩ := okV_r ov55642
          have gb55643 : tag b55643 = 13 := tg_of gb55643
          refine lv_iload_n hx hb dX3_findName_25 rfl (lv_at hl 1 rfl) ?_
          refine t_lld X hT mb55643 gb55643 rfl (by omega) dX3_findName_26 (fun z55644 => ?_)
          refine lv_aload_n hx hb dX3_findName_27 rfl (lv_at hl 0 rfl) ?_
          refine t_get (C := RX3) (T := TX3) (N := 13) X hT m0 g0 rfl rfl 0 (by decide) qw_73 inlX3 rfl dX3_findName_28 (fun v55645 hv55645 ov55645 => ?_)
          obtain rfl : v55645 = .ref x0 := hv55645.symm.trans pf0
          refine t_get (C := RX8) (T := TX8) (N := 8) X hT mx0 gx0 rfl rfl 7 (by decide) qw_360 inlX8 rfl dX3_findName_31 (fun v55646 hv55646 ov55646 => ?_)
          obtain ⟨z55647, rfl⟩ := ov55646
          refine m_lcmp X dX3_findName_34 (fun z55648 rz55648 => ?_)
          refine lv_if_ne (tgt := 40) hx hb dX3_findName_35 (by decide) (fun c55649 => ?_) (fun c55649 => ?_)
          · have w55650 := cv_ne (rfl : z55648.toInt = z55648.toInt) (by decide : (0 : Int32).toInt = 0) c55649
            exact K40 z55632 _ _ _ (by omega) (by omega) hT hv55631 (lv_sub hl [0, 1] rfl)
          · have w55651 := cv_eq (rfl : z55648.toInt = z55648.toInt) (by decide : (0 : Int32).toInt = 0) c55649
            refine lv_iload_n hx hb dX3_findName_38 rfl (lv_at hl 1 rfl) ?_
            exact t_iret hQ X hT (⟨rfl, (by omega)⟩) (Nat.le_of_ble_eq_true rfl) (Nat.le_of_ble_eq_true rfl) dX3_findName_39
  refine lv_iconst (v := 0) hx hb dX3_findName_0 (by decide) ?_
  refine lv_istore_n (lv' := [(1, .int 0), (0, .ref p0)]) hx hb dX3_findName_1 rfl hl (by decide) rfl (fun ls hl => ?_)
  have kk55652 : (0 : Int32).toInt = 0 := by decide
  exact K2 21 0 _ _ _ (by omega) (by decide) hT  (lv_sub hl [1, 0] rfl)
set_option maxHeartbeats 4000000 in
set_option maxRecDepth 100000 in
theorem kt149_X3_whole (l : Launch) (G : KG) (tag : Nat → Nat) (L : List Nat) (Fo : Nat → va_E) (ho : okT G ttC tag L Fo) (p0 : Nat) (p1 : Int32) (p2 : Int32) (x0 : Nat) (x1 : Nat) (x2 : Nat) (x3 : Nat) (m0 : p0 ∈ L) (g0 : tag p0 = 25) (mx0 : x0 ∈ L) (gx0 : tag x0 = 24) (pf0 : fld Fo p0 0 = .ref x0) (mx1 : x1 ∈ L) (gx1 : tag x1 = 18) (pf1 : fld Fo p0 1 = .ref x1) (mx2 : x2 ∈ L) (gx2 : tag x2 = 19) (pf2 : fld Fo p0 2 = .ref x2) (mx3 : x3 ∈ L) (gx3 : tag x3 = 1) (pf3 : fld Fo x0 0 = .ref x3) : TMi l yX3_whole cX3_whole 4 (some .int) { frames := 3, cells := 0, slots := 0, locals := 62 } G ttC tag L Fo [.ref p0, .int p1, .int p2] (fun r F1 => ((-2147483648) ≤ r.toInt ∧ r.toInt ≤ 2147483647) ∧ (∀ b j : Nat, (tag b ≠ 24 ∨ j ≠ 2) → (tag b ≠ 24 ∨ j ≠ 3) → (tag b ≠ 24 ∨ j ≠ 4) → (tag b ≠ 24 ∨ j ≠ 5) → (tag b ≠ 24 ∨ j ≠ 6) → (tag b ≠ 24 ∨ j ≠ 7) → (tag b ≠ 25 ∨ j ≠ 3) → (tag b ≠ 25 ∨ j ≠ 4) → fld F1 b j = fld Fo b j)) := by
  refine t_bodyi (y := yX3_whole) (cd := cX3_whole) (mL := 4) (rt := (some .int)) (rm := { frames := 3, cells := 0, slots := 0, locals := 62 }) (av := [.ref p0, .int p1, .int p2]) (by decide) (Nat.le_of_ble_eq_true rfl) ho ?_
  intro p e s m args below meth c ls A Q hQ X hT hl
  have hx := X.1.1
  have hb := X.1.2.1
  have hl : lv_has ls 4 [(0, .ref p0), (1, .int p1), (2, .int p2)] := hl
  have rp1 := rg_all p1
  have rp2 := rg_all p2
  obtain ⟨F, hFo⟩ : ∃ F : Nat → va_E, F = Fo := ⟨_, rfl⟩
  rw [← hFo] at hT pf0 pf1 pf2 pf3
  have hfr : ∀ b j : Nat, (tag b ≠ 24 ∨ j ≠ 2) → (tag b ≠ 24 ∨ j ≠ 3) → (tag b ≠ 24 ∨ j ≠ 4) → (tag b ≠ 24 ∨ j ≠ 5) → (tag b ≠ 24 ∨ j ≠ 6) → (tag b ≠ 24 ∨ j ≠ 7) → (tag b ≠ 25 ∨ j ≠ 3) → (tag b ≠ 25 ∨ j ≠ 4) → fld F b j = fld Fo b j := by
    rw [hFo]
    intros
    rfl
  have K60 : ∀  (F : Nat → va_E) (H : Heap) (locs : List Loc) (ls : Array Slot), TH G ttC A s tag L F H locs → (∀ b j : Nat, (tag b ≠ 24 ∨ j ≠ 2) → (tag b ≠ 24 ∨ j ≠ 3) → (tag b ≠ 24 ∨ j ≠ 4) → (tag b ≠ 24 ∨ j ≠ 5) → (tag b ≠ 24 ∨ j ≠ 6) → (tag b ≠ 24 ∨ j ≠ 7) → (tag b ≠ 25 ∨ j ≠ 3) → (tag b ≠ 25 ∨ j ≠ 4) → fld F b j = fld Fo b j) → fld F p0 0 = .ref x0 → fld F p0 1 = .ref x1 → fld F p0 2 = .ref x2 → fld F x0 0 = .ref x3 → lv_has ls 4 [(0, .ref p0), (1, .int p1), (2, .int p2)] → W p l e { frames := 3, cells := 0, slots := 0, locals := 62 } s m args below meth c H locs 0 0 Q (F0 m 60 ls []) := by
    intro F H locs ls hT hfr pf0 pf1 pf2 pf3 hl
    refine lv_aload_n hx hb dX3_whole_60 rfl (lv_at hl 0 rfl) ?_
    refine t_get (C := RX3) (T := TX3) (N := 13) X hT m0 g0 rfl rfl 3 (by decide) qw_163 inlX3 rfl dX3_whole_61 (fun v56222 hv56222 ov56222 => ?_)
    obtain ⟨z56223, rfl, rz56223⟩ := okV_i ov56222
    refine lv_if_eq (tgt := 69) hx hb dX3_whole_64 (by decide) (fun c56224 => ?_) (fun c56224 => ?_)
    · have w56225 := cv_eq (rfl : z56223.toInt = z56223.toInt) (by decide : (0 : Int32).toInt = 0) c56224
      refine lv_aload_n hx hb dX3_whole_69 rfl (lv_at hl 0 rfl) ?_
      refine t_get (C := RX3) (T := TX3) (N := 13) X hT m0 g0 rfl rfl 0 (by decide) qw_73 inlX3 rfl dX3_whole_70 (fun v56226 hv56226 ov56226 => ?_)
      obtain rfl : v56226 = .ref x0 := hv56226.symm.trans pf0
      refine t_get (C := RX8) (T := TX8) (N := 8) X hT mx0 gx0 rfl rfl 6 (by decide) qw_322 inlX8 rfl dX3_whole_73 (fun v56227 hv56227 ov56227 => ?_)
      obtain ⟨z56228, rfl, rz56228⟩ := okV_i ov56227
      refine lv_istore_n (lv' := [(3, .int z56228), (0, .ref p0), (1, .int p1), (2, .int p2)]) hx hb dX3_whole_76 rfl hl (by decide) rfl (fun ls hl => ?_)
      refine lv_aload_n hx hb dX3_whole_77 rfl (lv_at hl 1 rfl) ?_
      refine t_get (C := RX3) (T := TX3) (N := 13) X hT m0 g0 rfl rfl 0 (by decide) qw_73 inlX3 rfl dX3_whole_78 (fun v56229 hv56229 ov56229 => ?_)
      obtain rfl : v56229 = .ref x0 := hv56229.symm.trans pf0
      refine t_cVv (n := 0) (C := RX8) (T := TX8) (N := 8) (As := []) (rest := []) X hT (kt98_X8_advance l G tag L F hT.2.2.2 x0 x3 mx0 gx0 mx3 gx3 pf3) mx0 gx0 rfl rfl qw_305 qw_197 qw_198 qw_72 qw_199 ⟨rfl, by decide +kernel, by decide +kernel, by decide +kernel⟩ ⟨Nat.le_of_ble_eq_true rfl, Nat.le_of_ble_eq_true rfl⟩ hl rfl rfl (Nat.le_of_ble_eq_true rfl) dX3_whole_81 ⟨Nat.le_of_ble_eq_true rfl, Nat.le_of_ble_eq_true rfl⟩ (fun F H locs hT hz56230 => ?_)
      have yz56230 := hz56230
      have pf0 := (yz56230 _ 0 (Or.inr (by decide)) (Or.inr (by decide)) (Or.inr (by decide)) (Or.inr (by decide)) (Or.inr (by decide)) (Or.inr (by decide))).trans pf0
      have pf1 := (yz56230 _ 1 (Or.inr (by decide)) (Or.inr (by decide)) (Or.inr (by decide)) (Or.inr (by decide)) (Or.inr (by decide)) (Or.inr (by decide))).trans pf1
      have pf2 := (yz56230 _ 2 (Or.inl (by rw [g0]; decide)) (Or.inr (by decide)) (Or.inr (by decide)) (Or.inr (by decide)) (Or.inr (by decide)) (Or.inr (by decide))).trans pf2
      have pf3 := (yz56230 _ 0 (Or.inr (by decide)) (Or.inr (by decide)) (Or.inr (by decide)) (Or.inr (by decide)) (Or.inr (by decide)) (Or.inr (by decide))).trans pf3
      have hv56222 := (yz56230 _ 3 (Or.inr (by decide)) (Or.inl (by rw [g0]; decide)) (Or.inr (by decide)) (Or.inr (by decide)) (Or.inr (by decide)) (Or.inr (by decide))).trans hv56222
      have hfr : ∀ b j : Nat, (tag b ≠ 24 ∨ j ≠ 2) → (tag b ≠ 24 ∨ j ≠ 3) → (tag b ≠ 24 ∨ j ≠ 4) → (tag b ≠ 24 ∨ j ≠ 5) → (tag b ≠ 24 ∨ j ≠ 6) → (tag b ≠ 24 ∨ j ≠ 7) → (tag b ≠ 25 ∨ j ≠ 3) → (tag b ≠ 25 ∨ j ≠ 4) → fld F b j = fld Fo b j := fun b j n24_2 n24_3 n24_4 n24_5 n24_6 n24_7 n25_3 n25_4 => (yz56230 b j n24_2 n24_3 n24_4 n24_5 n24_6 n24_7).trans (hfr b j n24_2 n24_3 n24_4 n24_5 n24_6 n24_7 n25_3 n25_4)
      refine lv_iload_n hx hb dX3_whole_84 rfl (lv_at hl 0 rfl) ?_
      exact t_iret hQ X hT (⟨rg_all _, hfr⟩) (Nat.le_of_ble_eq_true rfl) (Nat.le_of_ble_eq_true rfl) dX3_whole_85
    · have w56231 := cv_ne (rfl : z56223.toInt = z56223.toInt) (by decide : (0 : Int32).toInt = 0) c56224
      refine lv_iload_n hx hb dX3_whole_67 rfl (lv_at hl 1 rfl) ?_
      exact t_iret hQ X hT (⟨rg_all _, hfr⟩) (Nat.le_of_ble_eq_true rfl) (Nat.le_of_ble_eq_true rfl) dX3_whole_68
  have K48 : ∀  (F : Nat → va_E) (H : Heap) (locs : List Loc) (ls : Array Slot), TH G ttC A s tag L F H locs → (∀ b j : Nat, (tag b ≠ 24 ∨ j ≠ 2) → (tag b ≠ 24 ∨ j ≠ 3) → (tag b ≠ 24 ∨ j ≠ 4) → (tag b ≠ 24 ∨ j ≠ 5) → (tag b ≠ 24 ∨ j ≠ 6) → (tag b ≠ 24 ∨ j ≠ 7) → (tag b ≠ 25 ∨ j ≠ 3) → (tag b ≠ 25 ∨ j ≠ 4) → fld F b j = fld Fo b j) → fld F p0 0 = .ref x0 → fld F p0 1 = .ref x1 → fld F p0 2 = .ref x2 → fld F x0 0 = .ref x3 → lv_has ls 4 [(0, .ref p0), (1, .int p1), (2, .int p2)] → W p l e { frames := 3, cells := 0, slots := 0, locals := 62 } s m args below meth c H locs 0 0 Q (F0 m 48 ls []) := by
    intro F H locs ls hT hfr pf0 pf1 pf2 pf3 hl
    refine lv_aload_n hx hb dX3_whole_48 rfl (lv_at hl 0 rfl) ?_
    refine lv_iconst (v := 4) hx hb dX3_whole_49 (by decide) ?_
    refine lv_aload_n hx hb dX3_whole_50 rfl (lv_at hl 0 rfl) ?_
    refine t_get (C := RX3) (T := TX3) (N := 13) X hT m0 g0 rfl rfl 0 (by decide) qw_73 inlX3 rfl dX3_whole_51 (fun v56232 hv56232 ov56232 => ?_)
    obtain rfl : v56232 = .ref x0 := hv56232.symm.trans pf0
    refine t_get (C := RX8) (T := TX8) (N := 8) X hT mx0 gx0 rfl rfl 4 (by decide) qw_227 inlX8 rfl dX3_whole_54 (fun v56233 hv56233 ov56233 => ?_)
    obtain ⟨z56234, rfl, rz56234⟩ := okV_i ov56233
    refine t_cVv (n := 2) (C := RX3) (T := TX3) (N := 13) (As := [.int 4, .int z56234]) (rest := []) X hT (kt146_X3_fail l G tag L F hT.2.2.2 p0 4 z56234 m0 g0) m0 g0 rfl rfl qw_287 qw_288 qw_289 qw_28 qw_290 ⟨rfl, by decide +kernel, by decide +kernel, by decide +kernel⟩ ⟨Nat.le_of_ble_eq_true rfl, Nat.le_of_ble_eq_true rfl⟩ hl rfl rfl (Nat.le_of_ble_eq_true rfl) dX3_whole_57 ⟨Nat.le_of_ble_eq_true rfl, Nat.le_of_ble_eq_true rfl⟩ (fun F H locs hT hz56235 => ?_)
    have yz56235 := hz56235
    have pf0 := (yz56235 _ 0 (Or.inr (by decide)) (Or.inr (by decide))).trans pf0
    have pf1 := (yz56235 _ 1 (Or.inr (by decide)) (Or.inr (by decide))).trans pf1
    have pf2 := (yz56235 _ 2 (Or.inr (by decide)) (Or.inr (by decide))).trans pf2
    have pf3 := (yz56235 _ 0 (Or.inr (by decide)) (Or.inr (by decide))).trans pf3
    have hv56233 := (yz56235 _ 4 (Or.inr (by decide)) (Or.inl (by rw [gx0]; decide))).trans hv56233
    have hfr : ∀ b j : Nat, (tag b ≠ 24 ∨ j ≠ 2) → (tag b ≠ 24 ∨ j ≠ 3) → (tag b ≠ 24 ∨ j ≠ 4) → (tag b ≠ 24 ∨ j ≠ 5) → (tag b ≠ 24 ∨ j ≠ 6) → (tag b ≠ 24 ∨ j ≠ 7) → (tag b ≠ 25 ∨ j ≠ 3) → (tag b ≠ 25 ∨ j ≠ 4) → fld F b j = fld Fo b j := fun b j n24_2 n24_3 n24_4 n24_5 n24_6 n24_7 n25_3 n25_4 => (yz56235 b j n25_3 n25_4).trans (hfr b j n24_2 n24_3 n24_4 n24_5 n24_6 n24_7 n25_3 n25_4)
    exact K60  _ _ _ _  hT hfr pf0 pf1 pf2 pf3 (lv_sub hl [0, 1, 2] rfl)
  refine lv_aload_n hx hb dX3_whole_0 rfl (lv_at hl 0 rfl) ?_
  refine t_get (C := RX3) (T := TX3) (N := 13) X hT m0 g0 rfl rfl 0 (by decide) qw_73 inlX3 rfl dX3_whole_1 (fun v56236 hv56236 ov56236 => ?_)
  obtain rfl : v56236 = .ref x0 := hv56236.symm.trans pf0
  refine t_get (C := RX8) (T := TX8) (N := 8) X hT mx0 gx0 rfl rfl 3 (by decide) qw_170 inlX8 rfl dX3_whole_4 (fun v56237 hv56237 ov56237 => ?_)
  obtain ⟨z56238, rfl, rz56238⟩ := okV_i ov56237
  refine lv_iconst (v := 2) hx hb dX3_whole_7 (by decide) ?_
  refine lv_icmp_eq (tgt := 26) hx hb dX3_whole_8 (by decide) (fun c56239 => ?_) (fun c56239 => ?_)
  · have w56240 := cv_eq (rfl : z56238.toInt = z56238.toInt) (by decide : (2 : Int32).toInt = 2) c56239
    refine lv_aload_n hx hb dX3_whole_26 rfl (lv_at hl 0 rfl) ?_
    refine t_get (C := RX3) (T := TX3) (N := 13) X hT m0 g0 rfl rfl 0 (by decide) qw_73 inlX3 rfl dX3_whole_27 (fun v56241 hv56241 ov56241 => ?_)
    obtain rfl : v56241 = .ref x0 := hv56241.symm.trans pf0
    refine t_get (C := RX8) (T := TX8) (N := 8) X hT mx0 gx0 rfl rfl 6 (by decide) qw_322 inlX8 rfl dX3_whole_30 (fun v56242 hv56242 ov56242 => ?_)
    obtain ⟨z56243, rfl, rz56243⟩ := okV_i ov56242
    refine lv_iload_n hx hb dX3_whole_33 rfl (lv_at hl 1 rfl) ?_
    refine lv_icmp_lt (tgt := 48) hx hb dX3_whole_34 (by decide) (fun c56244 => ?_) (fun c56244 => ?_)
    · have w56245 := cv_lt (rfl : z56243.toInt = z56243.toInt) (rfl : p1.toInt = p1.toInt) c56244
      exact K48  _ _ _ _  hT hfr pf0 pf1 pf2 pf3 (lv_sub hl [0, 1, 2] rfl)
    · have w56246 := cv_nlt (rfl : z56243.toInt = z56243.toInt) (rfl : p1.toInt = p1.toInt) c56244
      refine lv_aload_n hx hb dX3_whole_37 rfl (lv_at hl 0 rfl) ?_
      refine t_get (C := RX3) (T := TX3) (N := 13) X hT m0 g0 rfl rfl 0 (by decide) qw_73 inlX3 rfl dX3_whole_38 (fun v56247 hv56247 ov56247 => ?_)
      obtain rfl : v56247 = .ref x0 := hv56247.symm.trans pf0
      refine t_get (C := RX8) (T := TX8) (N := 8) X hT mx0 gx0 rfl rfl 6 (by decide) qw_322 inlX8 rfl dX3_whole_41 (fun v56248 hv56248 ov56248 => ?_)
      obtain rfl : v56248 = .int z56243 := hv56248.symm.trans hv56242
      refine lv_iload_n hx hb dX3_whole_44 rfl (lv_at hl 2 rfl) ?_
      refine lv_icmp_le (tgt := 60) hx hb dX3_whole_45 (by decide) (fun c56249 => ?_) (fun c56249 => ?_)
      · have w56250 := cv_le (rfl : z56243.toInt = z56243.toInt) (rfl : p2.toInt = p2.toInt) c56249
        exact K60  _ _ _ _  hT hfr pf0 pf1 pf2 pf3 (lv_sub hl [0, 1, 2] rfl)
      · have w56251 := cv_nle (rfl : z56243.toInt = z56243.toInt) (rfl : p2.toInt = p2.toInt) c56249
        exact K48  _ _ _ _  hT hfr pf0 pf1 pf2 pf3 (lv_sub hl [0, 1, 2] rfl)
  · have w56252 := cv_ne (rfl : z56238.toInt = z56238.toInt) (by decide : (2 : Int32).toInt = 2) c56239
    refine lv_aload_n hx hb dX3_whole_11 rfl (lv_at hl 0 rfl) ?_
    refine lv_iconst (v := 1) hx hb dX3_whole_12 (by decide) ?_
    refine lv_aload_n hx hb dX3_whole_13 rfl (lv_at hl 0 rfl) ?_
    refine t_get (C := RX3) (T := TX3) (N := 13) X hT m0 g0 rfl rfl 0 (by decide) qw_73 inlX3 rfl dX3_whole_14 (fun v56253 hv56253 ov56253 => ?_)
    obtain rfl : v56253 = .ref x0 := hv56253.symm.trans pf0
    refine t_get (C := RX8) (T := TX8) (N := 8) X hT mx0 gx0 rfl rfl 4 (by decide) qw_227 inlX8 rfl dX3_whole_17 (fun v56254 hv56254 ov56254 => ?_)
    obtain ⟨z56255, rfl, rz56255⟩ := okV_i ov56254
    refine t_cVv (n := 2) (C := RX3) (T := TX3) (N := 13) (As := [.int 1, .int z56255]) (rest := []) X hT (kt146_X3_fail l G tag L F hT.2.2.2 p0 1 z56255 m0 g0) m0 g0 rfl rfl qw_287 qw_288 qw_289 qw_28 qw_290 ⟨rfl, by decide +kernel, by decide +kernel, by decide +kernel⟩ ⟨Nat.le_of_ble_eq_true rfl, Nat.le_of_ble_eq_true rfl⟩ hl rfl rfl (Nat.le_of_ble_eq_true rfl) dX3_whole_20 ⟨Nat.le_of_ble_eq_true rfl, Nat.le_of_ble_eq_true rfl⟩ (fun F H locs hT hz56256 => ?_)
    have yz56256 := hz56256
    have pf0 := (yz56256 _ 0 (Or.inr (by decide)) (Or.inr (by decide))).trans pf0
    have pf1 := (yz56256 _ 1 (Or.inr (by decide)) (Or.inr (by decide))).trans pf1
    have pf2 := (yz56256 _ 2 (Or.inr (by decide)) (Or.inr (by decide))).trans pf2
    have pf3 := (yz56256 _ 0 (Or.inr (by decide)) (Or.inr (by decide))).trans pf3
    have hv56237 := (yz56256 _ 3 (Or.inl (by rw [gx0]; decide)) (Or.inr (by decide))).trans hv56237
    have hv56254 := (yz56256 _ 4 (Or.inr (by decide)) (Or.inl (by rw [gx0]; decide))).trans hv56254
    have hfr : ∀ b j : Nat, (tag b ≠ 24 ∨ j ≠ 2) → (tag b ≠ 24 ∨ j ≠ 3) → (tag b ≠ 24 ∨ j ≠ 4) → (tag b ≠ 24 ∨ j ≠ 5) → (tag b ≠ 24 ∨ j ≠ 6) → (tag b ≠ 24 ∨ j ≠ 7) → (tag b ≠ 25 ∨ j ≠ 3) → (tag b ≠ 25 ∨ j ≠ 4) → fld F b j = fld Fo b j := fun b j n24_2 n24_3 n24_4 n24_5 n24_6 n24_7 n25_3 n25_4 => (yz56256 b j n25_3 n25_4).trans (hfr b j n24_2 n24_3 n24_4 n24_5 n24_6 n24_7 n25_3 n25_4)
    refine lv_goto (tgt := 60) hx hb dX3_whole_23 (by decide) ?_
    exact K60  _ _ _ _  hT hfr pf0 pf1 pf2 pf3 (lv_sub hl [0, 1, 2] rfl)
set_option maxHeartbeats 4000000 in
set_option maxRecDepth 100000 in
theorem kt150_X3_sign (l : Launch) (G : KG) (tag : Nat → Nat) (L : List Nat) (Fo : Nat → va_E) (ho : okT G ttC tag L Fo) (p0 : Nat) (p1 : Int32) (x0 : Nat) (x1 : Nat) (x2 : Nat) (x3 : Nat) (m0 : p0 ∈ L) (g0 : tag p0 = 25) (mx0 : x0 ∈ L) (gx0 : tag x0 = 24) (pf0 : fld Fo p0 0 = .ref x0) (mx1 : x1 ∈ L) (gx1 : tag x1 = 18) (pf1 : fld Fo p0 1 = .ref x1) (mx2 : x2 ∈ L) (gx2 : tag x2 = 19) (pf2 : fld Fo p0 2 = .ref x2) (mx3 : x3 ∈ L) (gx3 : tag x3 = 1) (pf3 : fld Fo x0 0 = .ref x3) : TMv l yX3_sign cX3_sign 2 { frames := 3, cells := 0, slots := 0, locals := 62 } G ttC tag L Fo [.ref p0, .int p1] (fun F1 => ∀ b j : Nat, (tag b ≠ 24 ∨ j ≠ 2) → (tag b ≠ 24 ∨ j ≠ 3) → (tag b ≠ 24 ∨ j ≠ 4) → (tag b ≠ 24 ∨ j ≠ 5) → (tag b ≠ 24 ∨ j ≠ 6) → (tag b ≠ 24 ∨ j ≠ 7) → (tag b ≠ 25 ∨ j ≠ 3) → (tag b ≠ 25 ∨ j ≠ 4) → fld F1 b j = fld Fo b j) := by
  refine t_bodyv (y := yX3_sign) (cd := cX3_sign) (mL := 2) (rm := { frames := 3, cells := 0, slots := 0, locals := 62 }) (av := [.ref p0, .int p1]) (by decide) (Nat.le_of_ble_eq_true rfl) ho ?_
  intro p e s m args below meth c ls A Q hQ X hT hl
  have hx := X.1.1
  have hb := X.1.2.1
  have hl : lv_has ls 2 [(0, .ref p0), (1, .int p1)] := hl
  have rp1 := rg_all p1
  obtain ⟨F, hFo⟩ : ∃ F : Nat → va_E, F = Fo := ⟨_, rfl⟩
  rw [← hFo] at hT pf0 pf1 pf2 pf3
  have hfr : ∀ b j : Nat, (tag b ≠ 24 ∨ j ≠ 2) → (tag b ≠ 24 ∨ j ≠ 3) → (tag b ≠ 24 ∨ j ≠ 4) → (tag b ≠ 24 ∨ j ≠ 5) → (tag b ≠ 24 ∨ j ≠ 6) → (tag b ≠ 24 ∨ j ≠ 7) → (tag b ≠ 25 ∨ j ≠ 3) → (tag b ≠ 25 ∨ j ≠ 4) → fld F b j = fld Fo b j := by
    rw [hFo]
    intros
    rfl
  have K40 : ∀ (z56566 : Int32) (F : Nat → va_E) (H : Heap) (locs : List Loc) (ls : Array Slot), (0 ≤ z56566.toInt ∧ z56566.toInt ≤ 0) → TH G ttC A s tag L F H locs → (∀ b j : Nat, (tag b ≠ 24 ∨ j ≠ 2) → (tag b ≠ 24 ∨ j ≠ 3) → (tag b ≠ 24 ∨ j ≠ 4) → (tag b ≠ 24 ∨ j ≠ 5) → (tag b ≠ 24 ∨ j ≠ 6) → (tag b ≠ 24 ∨ j ≠ 7) → (tag b ≠ 25 ∨ j ≠ 3) → (tag b ≠ 25 ∨ j ≠ 4) → fld F b j = fld Fo b j) → fld F p0 0 = .ref x0 → fld F p0 1 = .ref x1 → fld F p0 2 = .ref x2 → fld F x0 0 = .ref x3 → fld F p0 3 = .int z56566 → lv_has ls 2 [(0, .ref p0), (1, .int p1)] → W p l e { frames := 3, cells := 0, slots := 0, locals := 62 } s m args below meth c H locs 0 0 Q (F0 m 40 ls []) := by
    intro z56566 F H locs ls rz56566 hT hfr pf0 pf1 pf2 pf3 qz56566 hl
    refine lv_aload_n hx hb dX3_sign_40 rfl (lv_at hl 0 rfl) ?_
    refine lv_iconst (v := 1) hx hb dX3_sign_41 (by decide) ?_
    refine lv_aload_n hx hb dX3_sign_42 rfl (lv_at hl 0 rfl) ?_
    refine t_get (C := RX3) (T := TX3) (N := 13) X hT m0 g0 rfl rfl 0 (by decide) qw_73 inlX3 rfl dX3_sign_43 (fun v56567 hv56567 ov56567 => ?_)
    obtain rfl : v56567 = .ref x0 := hv56567.symm.trans pf0
    refine t_get (C := RX8) (T := TX8) (N := 8) X hT mx0 gx0 rfl rfl 4 (by decide) qw_227 inlX8 rfl dX3_sign_46 (fun v56568 hv56568 ov56568 => ?_)
    obtain ⟨z56569, rfl, rz56569⟩ := okV_i ov56568
    refine t_cVv (n := 2) (C := RX3) (T := TX3) (N := 13) (As := [.int 1, .int z56569]) (rest := []) X hT (kt146_X3_fail l G tag L F hT.2.2.2 p0 1 z56569 m0 g0) m0 g0 rfl rfl qw_287 qw_288 qw_289 qw_28 qw_290 ⟨rfl, by decide +kernel, by decide +kernel, by decide +kernel⟩ ⟨Nat.le_of_ble_eq_true rfl, Nat.le_of_ble_eq_true rfl⟩ hl rfl rfl (Nat.le_of_ble_eq_true rfl) dX3_sign_49 ⟨Nat.le_of_ble_eq_true rfl, Nat.le_of_ble_eq_true rfl⟩ (fun F H locs hT hz56570 => ?_)
    have yz56570 := hz56570
    have pf0 := (yz56570 _ 0 (Or.inr (by decide)) (Or.inr (by decide))).trans pf0
    have pf1 := (yz56570 _ 1 (Or.inr (by decide)) (Or.inr (by decide))).trans pf1
    have pf2 := (yz56570 _ 2 (Or.inr (by decide)) (Or.inr (by decide))).trans pf2
    have pf3 := (yz56570 _ 0 (Or.inr (by decide)) (Or.inr (by decide))).trans pf3
    have hv56568 := (yz56570 _ 4 (Or.inr (by decide)) (Or.inl (by rw [gx0]; decide))).trans hv56568
    have hfr : ∀ b j : Nat, (tag b ≠ 24 ∨ j ≠ 2) → (tag b ≠ 24 ∨ j ≠ 3) → (tag b ≠ 24 ∨ j ≠ 4) → (tag b ≠ 24 ∨ j ≠ 5) → (tag b ≠ 24 ∨ j ≠ 6) → (tag b ≠ 24 ∨ j ≠ 7) → (tag b ≠ 25 ∨ j ≠ 3) → (tag b ≠ 25 ∨ j ≠ 4) → fld F b j = fld Fo b j := fun b j n24_2 n24_3 n24_4 n24_5 n24_6 n24_7 n25_3 n25_4 => (yz56570 b j n25_3 n25_4).trans (hfr b j n24_2 n24_3 n24_4 n24_5 n24_6 n24_7 n25_3 n25_4)
    exact t_vret hQ X hT hfr (Nat.le_of_ble_eq_true rfl) (Nat.le_of_ble_eq_true rfl) dX3_sign_52
  refine lv_aload_n hx hb dX3_sign_0 rfl (lv_at hl 0 rfl) ?_
  refine t_get (C := RX3) (T := TX3) (N := 13) X hT m0 g0 rfl rfl 3 (by decide) qw_163 inlX3 rfl dX3_sign_1 (fun v56571 hv56571 ov56571 => ?_)
  obtain ⟨z56572, rfl, rz56572⟩ := okV_i ov56571
  refine lv_if_eq (tgt := 8) hx hb dX3_sign_4 (by decide) (fun c56573 => ?_) (fun c56573 => ?_)
  · have w56574 := cv_eq (rfl : z56572.toInt = z56572.toInt) (by decide : (0 : Int32).toInt = 0) c56573
    refine lv_aload_n hx hb dX3_sign_8 rfl (lv_at hl 0 rfl) ?_
    refine t_get (C := RX3) (T := TX3) (N := 13) X hT m0 g0 rfl rfl 0 (by decide) qw_73 inlX3 rfl dX3_sign_9 (fun v56575 hv56575 ov56575 => ?_)
    obtain rfl : v56575 = .ref x0 := hv56575.symm.trans pf0
    refine t_get (C := RX8) (T := TX8) (N := 8) X hT mx0 gx0 rfl rfl 3 (by decide) qw_170 inlX8 rfl dX3_sign_12 (fun v56576 hv56576 ov56576 => ?_)
    obtain ⟨z56577, rfl, rz56577⟩ := okV_i ov56576
    refine lv_iconst (v := 3) hx hb dX3_sign_15 (by decide) ?_
    refine lv_icmp_ne (tgt := 40) hx hb dX3_sign_16 (by decide) (fun c56578 => ?_) (fun c56578 => ?_)
    · have w56579 := cv_ne (rfl : z56577.toInt = z56577.toInt) (by decide : (3 : Int32).toInt = 3) c56578
      exact K40 z56572 _ _ _ _ (by omega) hT hfr pf0 pf1 pf2 pf3 hv56571 (lv_sub hl [0, 1] rfl)
    · have w56580 := cv_eq (rfl : z56577.toInt = z56577.toInt) (by decide : (3 : Int32).toInt = 3) c56578
      refine lv_aload_n hx hb dX3_sign_19 rfl (lv_at hl 0 rfl) ?_
      refine t_get (C := RX3) (T := TX3) (N := 13) X hT m0 g0 rfl rfl 0 (by decide) qw_73 inlX3 rfl dX3_sign_20 (fun v56581 hv56581 ov56581 => ?_)
      obtain rfl : v56581 = .ref x0 := hv56581.symm.trans pf0
      refine t_get (C := RX8) (T := TX8) (N := 8) X hT mx0 gx0 rfl rfl 6 (by decide) qw_322 inlX8 rfl dX3_sign_23 (fun v56582 hv56582 ov56582 => ?_)
      obtain ⟨z56583, rfl, rz56583⟩ := okV_i ov56582
      refine lv_iload_n hx hb dX3_sign_26 rfl (lv_at hl 1 rfl) ?_
      refine lv_icmp_ne (tgt := 40) hx hb dX3_sign_27 (by decide) (fun c56584 => ?_) (fun c56584 => ?_)
      · have w56585 := cv_ne (rfl : z56583.toInt = z56583.toInt) (rfl : p1.toInt = p1.toInt) c56584
        exact K40 z56572 _ _ _ _ (by omega) hT hfr pf0 pf1 pf2 pf3 hv56571 (lv_sub hl [0, 1] rfl)
      · have w56586 := cv_eq (rfl : z56583.toInt = z56583.toInt) (rfl : p1.toInt = p1.toInt) c56584
        refine lv_aload_n hx hb dX3_sign_30 rfl (lv_at hl 0 rfl) ?_
        refine t_get (C := RX3) (T := TX3) (N := 13) X hT m0 g0 rfl rfl 0 (by decide) qw_73 inlX3 rfl dX3_sign_31 (fun v56587 hv56587 ov56587 => ?_)
        obtain rfl : v56587 = .ref x0 := hv56587.symm.trans pf0
        refine t_cVv (n := 0) (C := RX8) (T := TX8) (N := 8) (As := []) (rest := []) X hT (kt98_X8_advance l G tag L F hT.2.2.2 x0 x3 mx0 gx0 mx3 gx3 pf3) mx0 gx0 rfl rfl qw_305 qw_197 qw_198 qw_72 qw_199 ⟨rfl, by decide +kernel, by decide +kernel, by decide +kernel⟩ ⟨Nat.le_of_ble_eq_true rfl, Nat.le_of_ble_eq_true rfl⟩ hl rfl rfl (Nat.le_of_ble_eq_true rfl) dX3_sign_34 ⟨Nat.le_of_ble_eq_true rfl, Nat.le_of_ble_eq_true rfl⟩ (fun F H locs hT hz56588 => ?_)
        have yz56588 := hz56588
        have pf0 := (yz56588 _ 0 (Or.inr (by decide)) (Or.inr (by decide)) (Or.inr (by decide)) (Or.inr (by decide)) (Or.inr (by decide)) (Or.inr (by decide))).trans pf0
        have pf1 := (yz56588 _ 1 (Or.inr (by decide)) (Or.inr (by decide)) (Or.inr (by decide)) (Or.inr (by decide)) (Or.inr (by decide)) (Or.inr (by decide))).trans pf1
        have pf2 := (yz56588 _ 2 (Or.inl (by rw [g0]; decide)) (Or.inr (by decide)) (Or.inr (by decide)) (Or.inr (by decide)) (Or.inr (by decide)) (Or.inr (by decide))).trans pf2
        have pf3 := (yz56588 _ 0 (Or.inr (by decide)) (Or.inr (by decide)) (Or.inr (by decide)) (Or.inr (by decide)) (Or.inr (by decide)) (Or.inr (by decide))).trans pf3
        have hv56571 := (yz56588 _ 3 (Or.inr (by decide)) (Or.inl (by rw [g0]; decide)) (Or.inr (by decide)) (Or.inr (by decide)) (Or.inr (by decide)) (Or.inr (by decide))).trans hv56571
        have hfr : ∀ b j : Nat, (tag b ≠ 24 ∨ j ≠ 2) → (tag b ≠ 24 ∨ j ≠ 3) → (tag b ≠ 24 ∨ j ≠ 4) → (tag b ≠ 24 ∨ j ≠ 5) → (tag b ≠ 24 ∨ j ≠ 6) → (tag b ≠ 24 ∨ j ≠ 7) → (tag b ≠ 25 ∨ j ≠ 3) → (tag b ≠ 25 ∨ j ≠ 4) → fld F b j = fld Fo b j := fun b j n24_2 n24_3 n24_4 n24_5 n24_6 n24_7 n25_3 n25_4 => (yz56588 b j n24_2 n24_3 n24_4 n24_5 n24_6 n24_7).trans (hfr b j n24_2 n24_3 n24_4 n24_5 n24_6 n24_7 n25_3 n25_4)
        refine lv_goto (tgt := 52) hx hb dX3_sign_37 (by decide) ?_
        exact t_vret hQ X hT hfr (Nat.le_of_ble_eq_true rfl) (Nat.le_of_ble_eq_true rfl) dX3_sign_52
  · have w56589 := cv_ne (rfl : z56572.toInt = z56572.toInt) (by decide : (0 : Int32).toInt = 0) c56573
    exact t_vret hQ X hT hfr (Nat.le_of_ble_eq_true rfl) (Nat.le_of_ble_eq_true rfl) dX3_sign_7
set_option maxHeartbeats 4000000 in
set_option maxRecDepth 100000 in
theorem kt151_X3_readWater (l : Launch) (G : KG) (tag : Nat → Nat) (L : List Nat) (Fo : Nat → va_E) (ho : okT G ttC tag L Fo) (p0 : Nat) (x0 : Nat) (x1 : Nat) (x2 : Nat) (x3 : Nat) (m0 : p0 ∈ L) (g0 : tag p0 = 25) (mx0 : x0 ∈ L) (gx0 : tag x0 = 24) (pf0 : fld Fo p0 0 = .ref x0) (mx1 : x1 ∈ L) (gx1 : tag x1 = 18) (pf1 : fld Fo p0 1 = .ref x1) (mx2 : x2 ∈ L) (gx2 : tag x2 = 19) (pf2 : fld Fo p0 2 = .ref x2) (mx3 : x3 ∈ L) (gx3 : tag x3 = 1) (pf3 : fld Fo x0 0 = .ref x3) : TMv l yX3_readWater cX3_readWater 3 { frames := 4, cells := 0, slots := 0, locals := 85 } G ttC tag L Fo [.ref p0] (fun F1 => ∀ b j : Nat, (tag b ≠ 24 ∨ j ≠ 2) → (tag b ≠ 24 ∨ j ≠ 3) → (tag b ≠ 24 ∨ j ≠ 4) → (tag b ≠ 24 ∨ j ≠ 5) → (tag b ≠ 24 ∨ j ≠ 6) → (tag b ≠ 24 ∨ j ≠ 7) → (tag b ≠ 25 ∨ j ≠ 3) → (tag b ≠ 25 ∨ j ≠ 4) → (tag b ≠ 25 ∨ j ≠ 7) → fld F1 b j = fld Fo b j) := by
  refine t_bodyv (y := yX3_readWater) (cd := cX3_readWater) (mL := 3) (rm := { frames := 4, cells := 0, slots := 0, locals := 85 }) (av := [.ref p0]) (by decide) (Nat.le_of_ble_eq_true rfl) ho ?_
  intro p e s m args below meth c ls A Q hQ X hT hl
  have hx := X.1.1
  have hb := X.1.2.1
  have hl : lv_has ls 3 [(0, .ref p0)] := hl
  obtain ⟨F, hFo⟩ : ∃ F : Nat → va_E, F = Fo := ⟨_, rfl⟩
  rw [← hFo] at hT pf0 pf1 pf2 pf3
  have hfr : ∀ b j : Nat, (tag b ≠ 24 ∨ j ≠ 2) → (tag b ≠ 24 ∨ j ≠ 3) → (tag b ≠ 24 ∨ j ≠ 4) → (tag b ≠ 24 ∨ j ≠ 5) → (tag b ≠ 24 ∨ j ≠ 6) → (tag b ≠ 24 ∨ j ≠ 7) → (tag b ≠ 25 ∨ j ≠ 3) → (tag b ≠ 25 ∨ j ≠ 4) → (tag b ≠ 25 ∨ j ≠ 7) → fld F b j = fld Fo b j := by
    rw [hFo]
    intros
    rfl
  have K60 : ∀ (z56926 : Int32) (z56927 : Int32) (F : Nat → va_E) (H : Heap) (locs : List Loc) (ls : Array Slot), TH G ttC A s tag L F H locs → (∀ b j : Nat, (tag b ≠ 24 ∨ j ≠ 2) → (tag b ≠ 24 ∨ j ≠ 3) → (tag b ≠ 24 ∨ j ≠ 4) → (tag b ≠ 24 ∨ j ≠ 5) → (tag b ≠ 24 ∨ j ≠ 6) → (tag b ≠ 24 ∨ j ≠ 7) → (tag b ≠ 25 ∨ j ≠ 3) → (tag b ≠ 25 ∨ j ≠ 4) → (tag b ≠ 25 ∨ j ≠ 7) → fld F b j = fld Fo b j) → fld F p0 0 = .ref x0 → fld F p0 1 = .ref x1 → fld F p0 2 = .ref x2 → fld F x0 0 = .ref x3 → lv_has ls 3 [(0, .ref p0), (1, .int z56926), (2, .int z56927)] → W p l e { frames := 4, cells := 0, slots := 0, locals := 85 } s m args below meth c H locs 0 0 Q (F0 m 60 ls []) := by
    intro z56926 z56927 F H locs ls hT hfr pf0 pf1 pf2 pf3 hl
    have rz56926 := rg_all z56926
    have rz56927 := rg_all z56927
    refine lv_aload_n hx hb dX3_readWater_60 rfl (lv_at hl 0 rfl) ?_
    refine t_get (C := RX3) (T := TX3) (N := 13) X hT m0 g0 rfl rfl 1 (by decide) qw_161 inlX3 rfl dX3_readWater_61 (fun v56928 hv56928 ov56928 => ?_)
    obtain rfl : v56928 = .ref x1 := hv56928.symm.trans pf1
    refine lv_iload_n hx hb dX3_readWater_64 rfl (lv_at hl 1 rfl) ?_
    refine lv_iload_n hx hb dX3_readWater_65 rfl (lv_at hl 2 rfl) ?_
    refine t_cVv (n := 2) (C := RX1) (T := TX1) (N := 20) (As := [.int z56926, .int z56927]) (rest := []) X hT (kt8_X1_addWater l G tag L F hT.2.2.2 x1 z56926 z56927 mx1 gx1) mx1 gx1 rfl rfl qw_348 qw_349 qw_350 qw_17 qw_351 ⟨rfl, by decide +kernel, by decide +kernel, by decide +kernel⟩ ⟨Nat.le_of_ble_eq_true rfl, Nat.le_of_ble_eq_true rfl⟩ hl rfl rfl (Nat.le_of_ble_eq_true rfl) dX3_readWater_66 ⟨Nat.le_of_ble_eq_true rfl, Nat.le_of_ble_eq_true rfl⟩ (fun F H locs hT hz56929 => ?_)
    have yz56929 := hz56929
    have pf0 := (yz56929 _ 0 ).trans pf0
    have pf1 := (yz56929 _ 1 ).trans pf1
    have pf2 := (yz56929 _ 2 ).trans pf2
    have pf3 := (yz56929 _ 0 ).trans pf3
    have hfr : ∀ b j : Nat, (tag b ≠ 24 ∨ j ≠ 2) → (tag b ≠ 24 ∨ j ≠ 3) → (tag b ≠ 24 ∨ j ≠ 4) → (tag b ≠ 24 ∨ j ≠ 5) → (tag b ≠ 24 ∨ j ≠ 6) → (tag b ≠ 24 ∨ j ≠ 7) → (tag b ≠ 25 ∨ j ≠ 3) → (tag b ≠ 25 ∨ j ≠ 4) → (tag b ≠ 25 ∨ j ≠ 7) → fld F b j = fld Fo b j := fun b j n24_2 n24_3 n24_4 n24_5 n24_6 n24_7 n25_3 n25_4 n25_7 => (yz56929 b j ).trans (hfr b j n24_2 n24_3 n24_4 n24_5 n24_6 n24_7 n25_3 n25_4 n25_7)
    refine lv_aload_n hx hb dX3_readWater_69 rfl (lv_at hl 0 rfl) ?_
    refine lv_dup hx hb dX3_readWater_70 rfl ?_
    refine t_get (C := RX3) (T := TX3) (N := 13) X hT m0 g0 rfl rfl 7 (by decide) qw_167 inlX3 rfl dX3_readWater_71 (fun v56930 hv56930 ov56930 => ?_)
    obtain ⟨z56931, rfl, rz56931⟩ := okV_i ov56930
    refine lv_iconst (v := 1) hx hb dX3_readWater_74 (by decide) ?_
    refine lv_iadd hx hb dX3_readWater_75 ?_
    refine lv_topi (fun z56932 ez56932 => ?_)
    have rz56932 := rg_all z56932
    refine t_put (C := RX3) (T := TX3) (N := 13) (v := .int z56932) X hT m0 g0 rfl tyX3 tyX3_ok nmX3 rfl 7 (by decide) qw_167 inlX3 rfl (by first | rfl | decide) (by first | rfl | decide) rfl (⟨_, rfl, (show (-2147483648) ≤ (z56932 : Int32).toInt from (by omega)), (show (z56932 : Int32).toInt ≤ 2147483647 from (by omega))⟩) dX3_readWater_76 (fun F H locs hT v56933 h1v56933 h2v56933 => ?_)
    have pf0 := (h1v56933 _ _ (Or.inr (by decide))).trans pf0
    have pf1 := (h1v56933 _ _ (Or.inr (by decide))).trans pf1
    have pf2 := (h1v56933 _ _ (Or.inr (by decide))).trans pf2
    have pf3 := (h1v56933 _ _ (Or.inr (by decide))).trans pf3
    have hfr : ∀ b j : Nat, (tag b ≠ 24 ∨ j ≠ 2) → (tag b ≠ 24 ∨ j ≠ 3) → (tag b ≠ 24 ∨ j ≠ 4) → (tag b ≠ 24 ∨ j ≠ 5) → (tag b ≠ 24 ∨ j ≠ 6) → (tag b ≠ 24 ∨ j ≠ 7) → (tag b ≠ 25 ∨ j ≠ 3) → (tag b ≠ 25 ∨ j ≠ 4) → (tag b ≠ 25 ∨ j ≠ 7) → fld F b j = fld Fo b j := fun b j n24_2 n24_3 n24_4 n24_5 n24_6 n24_7 n25_3 n25_4 n25_7 => (h1v56933 b j (fr_ne g0 n25_7)).trans (hfr b j n24_2 n24_3 n24_4 n24_5 n24_6 n24_7 n25_3 n25_4 n25_7)
    exact t_vret hQ X hT hfr (Nat.le_of_ble_eq_true rfl) (Nat.le_of_ble_eq_true rfl) dX3_readWater_79
  refine lv_aload_n hx hb dX3_readWater_0 rfl (lv_at hl 0 rfl) ?_
  refine lv_iconst (v := 0) hx hb dX3_readWater_1 (by decide) ?_
  refine lv_aload_n hx hb dX3_readWater_2 rfl (lv_at hl 0 rfl) ?_
  refine t_get (C := RX3) (T := TX3) (N := 13) X hT m0 g0 rfl rfl 1 (by decide) qw_161 inlX3 rfl dX3_readWater_3 (fun v56934 hv56934 ov56934 => ?_)
  obtain rfl : v56934 = .ref x1 := hv56934.symm.trans pf1
  refine t_get (C := RX1) (T := TX1) (N := 20) X hT mx1 gx1 rfl rfl 0 (by decide) qw_310 inlX1 rfl dX3_readWater_6 (fun v56935 hv56935 ov56935 => ?_)
  obtain ⟨z56936, rfl, rz56936⟩ := okV_i ov56935
  refine lv_iconst (v := 1) hx hb dX3_readWater_9 (by decide) ?_
  refine lv_isub hx hb dX3_readWater_10 ?_
  refine lv_topi (fun z56937 ez56937 => ?_)
  have hz56937 : z56937.toInt = z56936.toInt - 1 := ar_sub ez56937 (rfl : z56936.toInt = z56936.toInt) (by decide : (1 : Int32).toInt = 1) (by omega) (by omega)
  have rz56937 : (-1) ≤ z56937.toInt ∧ z56937.toInt ≤ 11 := by omega
  refine t_cVi (n := 2) (C := RX3) (T := TX3) (N := 13) (As := [.int 0, .int z56937]) (rest := []) X hT (kt149_X3_whole l G tag L F hT.2.2.2 p0 0 z56937 x0 x1 x2 x3 m0 g0 mx0 gx0 pf0 mx1 gx1 pf1 mx2 gx2 pf2 mx3 gx3 pf3) m0 g0 rfl rfl qw_318 qw_319 qw_320 qw_28 qw_321 ⟨rfl, by decide +kernel, by decide +kernel, by decide +kernel⟩ ⟨Nat.le_of_ble_eq_true rfl, Nat.le_of_ble_eq_true rfl⟩ hl rfl rfl (Nat.le_of_ble_eq_true rfl) dX3_readWater_11 ⟨Nat.le_of_ble_eq_true rfl, Nat.le_of_ble_eq_true rfl⟩ (fun z56938 F H locs hT hz56938 => ?_)
  obtain ⟨hz56938, yz56938⟩ := hz56938
  have pf0 := (yz56938 _ 0 (Or.inr (by decide)) (Or.inr (by decide)) (Or.inr (by decide)) (Or.inr (by decide)) (Or.inr (by decide)) (Or.inr (by decide)) (Or.inr (by decide)) (Or.inr (by decide))).trans pf0
  have pf1 := (yz56938 _ 1 (Or.inr (by decide)) (Or.inr (by decide)) (Or.inr (by decide)) (Or.inr (by decide)) (Or.inr (by decide)) (Or.inr (by decide)) (Or.inr (by decide)) (Or.inr (by decide))).trans pf1
  have pf2 := (yz56938 _ 2 (Or.inl (by rw [g0]; decide)) (Or.inr (by decide)) (Or.inr (by decide)) (Or.inr (by decide)) (Or.inr (by decide)) (Or.inr (by decide)) (Or.inr (by decide)) (Or.inr (by decide))).trans pf2
  have pf3 := (yz56938 _ 0 (Or.inr (by decide)) (Or.inr (by decide)) (Or.inr (by decide)) (Or.inr (by decide)) (Or.inr (by decide)) (Or.inr (by decide)) (Or.inr (by decide)) (Or.inr (by decide))).trans pf3
  have hv56935 := (yz56938 _ 0 (Or.inr (by decide)) (Or.inr (by decide)) (Or.inr (by decide)) (Or.inr (by decide)) (Or.inr (by decide)) (Or.inr (by decide)) (Or.inr (by decide)) (Or.inr (by decide))).trans hv56935
  have hfr : ∀ b j : Nat, (tag b ≠ 24 ∨ j ≠ 2) → (tag b ≠ 24 ∨ j ≠ 3) → (tag b ≠ 24 ∨ j ≠ 4) → (tag b ≠ 24 ∨ j ≠ 5) → (tag b ≠ 24 ∨ j ≠ 6) → (tag b ≠ 24 ∨ j ≠ 7) → (tag b ≠ 25 ∨ j ≠ 3) → (tag b ≠ 25 ∨ j ≠ 4) → (tag b ≠ 25 ∨ j ≠ 7) → fld F b j = fld Fo b j := fun b j n24_2 n24_3 n24_4 n24_5 n24_6 n24_7 n25_3 n25_4 n25_7 => (yz56938 b j n24_2 n24_3 n24_4 n24_5 n24_6 n24_7 n25_3 n25_4).trans (hfr b j n24_2 n24_3 n24_4 n24_5 n24_6 n24_7 n25_3 n25_4 n25_7)
  refine lv_istore_n (lv' := [(1, .int z56938), (0, .ref p0)]) hx hb dX3_readWater_14 rfl hl (by decide) rfl (fun ls hl => ?_)
  refine lv_aload_n hx hb dX3_readWater_15 rfl (lv_at hl 1 rfl) ?_
  refine lv_bipush (v := 44) hx hb dX3_readWater_16 (by decide) ?_
  refine t_cVv (n := 1) (C := RX3) (T := TX3) (N := 13) (As := [.int 44]) (rest := []) X hT (kt150_X3_sign l G tag L F hT.2.2.2 p0 44 x0 x1 x2 x3 m0 g0 mx0 gx0 pf0 mx1 gx1 pf1 mx2 gx2 pf2 mx3 gx3 pf3) m0 g0 rfl rfl qw_340 qw_341 qw_342 qw_28 qw_343 ⟨rfl, by decide +kernel, by decide +kernel, by decide +kernel⟩ ⟨Nat.le_of_ble_eq_true rfl, Nat.le_of_ble_eq_true rfl⟩ hl rfl rfl (Nat.le_of_ble_eq_true rfl) dX3_readWater_18 ⟨Nat.le_of_ble_eq_true rfl, Nat.le_of_ble_eq_true rfl⟩ (fun F H locs hT hz56939 => ?_)
  have yz56939 := hz56939
  have pf0 := (yz56939 _ 0 (Or.inr (by decide)) (Or.inr (by decide)) (Or.inr (by decide)) (Or.inr (by decide)) (Or.inr (by decide)) (Or.inr (by decide)) (Or.inr (by decide)) (Or.inr (by decide))).trans pf0
  have pf1 := (yz56939 _ 1 (Or.inr (by decide)) (Or.inr (by decide)) (Or.inr (by decide)) (Or.inr (by decide)) (Or.inr (by decide)) (Or.inr (by decide)) (Or.inr (by decide)) (Or.inr (by decide))).trans pf1
  have pf2 := (yz56939 _ 2 (Or.inl (by rw [g0]; decide)) (Or.inr (by decide)) (Or.inr (by decide)) (Or.inr (by decide)) (Or.inr (by decide)) (Or.inr (by decide)) (Or.inr (by decide)) (Or.inr (by decide))).trans pf2
  have pf3 := (yz56939 _ 0 (Or.inr (by decide)) (Or.inr (by decide)) (Or.inr (by decide)) (Or.inr (by decide)) (Or.inr (by decide)) (Or.inr (by decide)) (Or.inr (by decide)) (Or.inr (by decide))).trans pf3
  have hv56935 := (yz56939 _ 0 (Or.inr (by decide)) (Or.inr (by decide)) (Or.inr (by decide)) (Or.inr (by decide)) (Or.inr (by decide)) (Or.inr (by decide)) (Or.inr (by decide)) (Or.inr (by decide))).trans hv56935
  have hfr : ∀ b j : Nat, (tag b ≠ 24 ∨ j ≠ 2) → (tag b ≠ 24 ∨ j ≠ 3) → (tag b ≠ 24 ∨ j ≠ 4) → (tag b ≠ 24 ∨ j ≠ 5) → (tag b ≠ 24 ∨ j ≠ 6) → (tag b ≠ 24 ∨ j ≠ 7) → (tag b ≠ 25 ∨ j ≠ 3) → (tag b ≠ 25 ∨ j ≠ 4) → (tag b ≠ 25 ∨ j ≠ 7) → fld F b j = fld Fo b j := fun b j n24_2 n24_3 n24_4 n24_5 n24_6 n24_7 n25_3 n25_4 n25_7 => (yz56939 b j n24_2 n24_3 n24_4 n24_5 n24_6 n24_7 n25_3 n25_4).trans (hfr b j n24_2 n24_3 n24_4 n24_5 n24_6 n24_7 n25_3 n25_4 n25_7)
  refine lv_aload_n hx hb dX3_readWater_21 rfl (lv_at hl 1 rfl) ?_
  refine lv_iconst (v := 0) hx hb dX3_readWater_22 (by decide) ?_
  refine lv_aload_n hx hb dX3_readWater_23 rfl (lv_at hl 1 rfl) ?_
  refine t_get (C := RX3) (T := TX3) (N := 13) X hT m0 g0 rfl rfl 1 (by decide) qw_161 inlX3 rfl dX3_readWater_24 (fun v56940 hv56940 ov56940 => ?_)
  obtain rfl : v56940 = .ref x1 := hv56940.symm.trans pf1
  refine t_get (C := RX1) (T := TX1) (N := 20) X hT mx1 gx1 rfl rfl 1 (by decide) qw_311 inlX1 rfl dX3_readWater_27 (fun v56941 hv56941 ov56941 => ?_)
  obtain ⟨z56942, rfl, rz56942⟩ := okV_i ov56941
  refine lv_iconst (v := 1) hx hb dX3_readWater_30 (by decide) ?_
  refine lv_isub hx hb dX3_readWater_31 ?_
  refine lv_topi (fun z56943 ez56943 => ?_)
  have hz56943 : z56943.toInt = z56942.toInt - 1 := ar_sub ez56943 (rfl : z56942.toInt = z56942.toInt) (by decide : (1 : Int32).toInt = 1) (by omega) (by omega)
  have rz56943 : (-1) ≤ z56943.toInt ∧ z56943.toInt ≤ 11 := by omega
  refine t_cVi (n := 2) (C := RX3) (T := TX3) (N := 13) (As := [.int 0, .int z56943]) (rest := []) X hT (kt149_X3_whole l G tag L F hT.2.2.2 p0 0 z56943 x0 x1 x2 x3 m0 g0 mx0 gx0 pf0 mx1 gx1 pf1 mx2 gx2 pf2 mx3 gx3 pf3) m0 g0 rfl rfl qw_318 qw_319 qw_320 qw_28 qw_321 ⟨rfl, by decide +kernel, by decide +kernel, by decide +kernel⟩ ⟨Nat.le_of_ble_eq_true rfl, Nat.le_of_ble_eq_true rfl⟩ hl rfl rfl (Nat.le_of_ble_eq_true rfl) dX3_readWater_32 ⟨Nat.le_of_ble_eq_true rfl, Nat.le_of_ble_eq_true rfl⟩ (fun z56944 F H locs hT hz56944 => ?_)
  obtain ⟨hz56944, yz56944⟩ := hz56944
  have pf0 := (yz56944 _ 0 (Or.inr (by decide)) (Or.inr (by decide)) (Or.inr (by decide)) (Or.inr (by decide)) (Or.inr (by decide)) (Or.inr (by decide)) (Or.inr (by decide)) (Or.inr (by decide))).trans pf0
  have pf1 := (yz56944 _ 1 (Or.inr (by decide)) (Or.inr (by decide)) (Or.inr (by decide)) (Or.inr (by decide)) (Or.inr (by decide)) (Or.inr (by decide)) (Or.inr (by decide)) (Or.inr (by decide))).trans pf1
  have pf2 := (yz56944 _ 2 (Or.inl (by rw [g0]; decide)) (Or.inr (by decide)) (Or.inr (by decide)) (Or.inr (by decide)) (Or.inr (by decide)) (Or.inr (by decide)) (Or.inr (by decide)) (Or.inr (by decide))).trans pf2
  have pf3 := (yz56944 _ 0 (Or.inr (by decide)) (Or.inr (by decide)) (Or.inr (by decide)) (Or.inr (by decide)) (Or.inr (by decide)) (Or.inr (by decide)) (Or.inr (by decide)) (Or.inr (by decide))).trans pf3
  have hv56935 := (yz56944 _ 0 (Or.inr (by decide)) (Or.inr (by decide)) (Or.inr (by decide)) (Or.inr (by decide)) (Or.inr (by decide)) (Or.inr (by decide)) (Or.inr (by decide)) (Or.inr (by decide))).trans hv56935
  have hv56941 := (yz56944 _ 1 (Or.inr (by decide)) (Or.inr (by decide)) (Or.inr (by decide)) (Or.inr (by decide)) (Or.inr (by decide)) (Or.inr (by decide)) (Or.inr (by decide)) (Or.inr (by decide))).trans hv56941
  have hfr : ∀ b j : Nat, (tag b ≠ 24 ∨ j ≠ 2) → (tag b ≠ 24 ∨ j ≠ 3) → (tag b ≠ 24 ∨ j ≠ 4) → (tag b ≠ 24 ∨ j ≠ 5) → (tag b ≠ 24 ∨ j ≠ 6) → (tag b ≠ 24 ∨ j ≠ 7) → (tag b ≠ 25 ∨ j ≠ 3) → (tag b ≠ 25 ∨ j ≠ 4) → (tag b ≠ 25 ∨ j ≠ 7) → fld F b j = fld Fo b j := fun b j n24_2 n24_3 n24_4 n24_5 n24_6 n24_7 n25_3 n25_4 n25_7 => (yz56944 b j n24_2 n24_3 n24_4 n24_5 n24_6 n24_7 n25_3 n25_4).trans (hfr b j n24_2 n24_3 n24_4 n24_5 n24_6 n24_7 n25_3 n25_4 n25_7)
  refine lv_istore_n (lv' := [(2, .int z56944), (1, .int z56938), (0, .ref p0)]) hx hb dX3_readWater_35 rfl hl (by decide) rfl (fun ls hl => ?_)
  refine lv_aload_n hx hb dX3_readWater_36 rfl (lv_at hl 2 rfl) ?_
  refine t_get (C := RX3) (T := TX3) (N := 13) X hT m0 g0 rfl rfl 1 (by decide) qw_161 inlX3 rfl dX3_readWater_37 (fun v56945 hv56945 ov56945 => ?_)
  obtain rfl : v56945 = .ref x1 := hv56945.symm.trans pf1
  refine lv_iload_n hx hb dX3_readWater_40 rfl (lv_at hl 1 rfl) ?_
  refine lv_iload_n hx hb dX3_readWater_41 rfl (lv_at hl 0 rfl) ?_
  refine t_cVi (n := 2) (C := RX1) (T := TX1) (N := 20) (As := [.int z56938, .int z56944]) (rest := []) X hT (kt7_X1_isWet l G tag L F hT.2.2.2 x1 z56938 z56944 mx1 gx1) mx1 gx1 rfl rfl qw_344 qw_345 qw_346 qw_17 qw_347 ⟨rfl, by decide +kernel, by decide +kernel, by decide +kernel⟩ ⟨Nat.le_of_ble_eq_true rfl, Nat.le_of_ble_eq_true rfl⟩ hl rfl rfl (Nat.le_of_ble_eq_true rfl) dX3_readWater_42 ⟨Nat.le_of_ble_eq_true rfl, Nat.le_of_ble_eq_true rfl⟩ (fun z56946 F9 H locs hT hz56946 => ?_)
  obtain ⟨fz56946, hz56946⟩ := hz56946
  rw [fz56946] at hT
  refine lv_if_eq (tgt := 60) hx hb dX3_readWater_45 (by decide) (fun c56947 => ?_) (fun c56947 => ?_)
  · have w56948 := cv_eq (rfl : z56946.toInt = z56946.toInt) (by decide : (0 : Int32).toInt = 0) c56947
    exact K60 z56938 z56944 _ _ _ _  hT hfr pf0 pf1 pf2 pf3 (lv_sub hl [2, 1, 0] rfl)
  · have w56949 := cv_ne (rfl : z56946.toInt = z56946.toInt) (by decide : (0 : Int32).toInt = 0) c56947
    refine lv_aload_n hx hb dX3_readWater_48 rfl (lv_at hl 2 rfl) ?_
    refine lv_iconst (v := 3) hx hb dX3_readWater_49 (by decide) ?_
    refine lv_aload_n hx hb dX3_readWater_50 rfl (lv_at hl 2 rfl) ?_
    refine t_get (C := RX3) (T := TX3) (N := 13) X hT m0 g0 rfl rfl 0 (by decide) qw_73 inlX3 rfl dX3_readWater_51 (fun v56950 hv56950 ov56950 => ?_)
    obtain rfl : v56950 = .ref x0 := hv56950.symm.trans pf0
    refine t_get (C := RX8) (T := TX8) (N := 8) X hT mx0 gx0 rfl rfl 5 (by decide) qw_339 inlX8 rfl dX3_readWater_54 (fun v56951 hv56951 ov56951 => ?_)
    obtain ⟨z56952, rfl, rz56952⟩ := okV_i ov56951
    refine t_cVv (n := 2) (C := RX3) (T := TX3) (N := 13) (As := [.int 3, .int z56952]) (rest := []) X hT (kt146_X3_fail l G tag L F hT.2.2.2 p0 3 z56952 m0 g0) m0 g0 rfl rfl qw_287 qw_288 qw_289 qw_28 qw_290 ⟨rfl, by decide +kernel, by decide +kernel, by decide +kernel⟩ ⟨Nat.le_of_ble_eq_true rfl, Nat.le_of_ble_eq_true rfl⟩ hl rfl rfl (Nat.le_of_ble_eq_true rfl) dX3_readWater_57 ⟨Nat.le_of_ble_eq_true rfl, Nat.le_of_ble_eq_true rfl⟩ (fun F H locs hT hz56953 => ?_)
    have yz56953 := hz56953
    have pf0 := (yz56953 _ 0 (Or.inr (by decide)) (Or.inr (by decide))).trans pf0
    have pf1 := (yz56953 _ 1 (Or.inr (by decide)) (Or.inr (by decide))).trans pf1
    have pf2 := (yz56953 _ 2 (Or.inr (by decide)) (Or.inr (by decide))).trans pf2
    have pf3 := (yz56953 _ 0 (Or.inr (by decide)) (Or.inr (by decide))).trans pf3
    have hv56935 := (yz56953 _ 0 (Or.inr (by decide)) (Or.inr (by decide))).trans hv56935
    have hv56941 := (yz56953 _ 1 (Or.inr (by decide)) (Or.inr (by decide))).trans hv56941
    have hv56951 := (yz56953 _ 5 (Or.inr (by decide)) (Or.inr (by decide))).trans hv56951
    have hfr : ∀ b j : Nat, (tag b ≠ 24 ∨ j ≠ 2) → (tag b ≠ 24 ∨ j ≠ 3) → (tag b ≠ 24 ∨ j ≠ 4) → (tag b ≠ 24 ∨ j ≠ 5) → (tag b ≠ 24 ∨ j ≠ 6) → (tag b ≠ 24 ∨ j ≠ 7) → (tag b ≠ 25 ∨ j ≠ 3) → (tag b ≠ 25 ∨ j ≠ 4) → (tag b ≠ 25 ∨ j ≠ 7) → fld F b j = fld Fo b j := fun b j n24_2 n24_3 n24_4 n24_5 n24_6 n24_7 n25_3 n25_4 n25_7 => (yz56953 b j n25_3 n25_4).trans (hfr b j n24_2 n24_3 n24_4 n24_5 n24_6 n24_7 n25_3 n25_4 n25_7)
    exact K60 z56938 z56944 _ _ _ _  hT hfr pf0 pf1 pf2 pf3 (lv_sub hl [2, 1, 0] rfl)
