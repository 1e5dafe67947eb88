set_option maxHeartbeats 4000000 in
set_option maxRecDepth 100000 in
theorem kt149_X2_forget (l : Launch) (G : KG) (tag : Nat → Nat) (L : List Nat) (Fo : Nat → va_E) (ho : okT G ttC tag L Fo) (p0 : Nat) (m0 : p0 ∈ L) (g0 : tag p0 = 23) : TMv l yX2_forget cX2_forget 1 { frames := 0, cells := 0, slots := 0, locals := 0 } G ttC tag L Fo [.ref p0] (fun F1 => ((∀ b j : Nat, (tag b ≠ 23 ∨ j ≠ 3) → (tag b ≠ 23 ∨ j ≠ 4) → fld F1 b j = fld Fo b j) ∧ EF tag F1 Fo)) := by
  refine t_bodyv (y := yX2_forget) (cd := cX2_forget) (mL := 1) (rm := { frames := 0, cells := 0, slots := 0, locals := 0 }) (av := [.ref p0]) (by decide) (Nat.le_of_ble_eq_true rfl) ho ?_
  intro p e s m args below meth c ls A Q hQ X hT hl
  have hx := X.1.1
  have hb := X.1.2.1
  have hl : lv_has ls 1 [(0, .ref p0)] := hl
  obtain ⟨F, hFo⟩ : ∃ F : Nat → va_E, F = Fo := ⟨_, rfl⟩
  rw [← hFo] at hT
  have hfr : (∀ b j : Nat, (tag b ≠ 23 ∨ j ≠ 3) → (tag b ≠ 23 ∨ j ≠ 4) → fld F b j = fld Fo b j) ∧ EF tag F Fo := by
    rw [hFo]
    exact ⟨by intros; rfl, fun _ _ _ => rfl⟩
  refine lv_aload_n hx hb dX2_forget_0 rfl (lv_at hl 0 rfl) ?_
  refine lv_iconst (v := 0) hx hb dX2_forget_1 (by decide) ?_
  refine t_put (C := RX2) (T := TX2) (N := 5) (v := .int 0) X hT m0 g0 rfl tyX2 tyX2_ok nmX2 rfl 3 (by decide) qw_461 inlX2 rfl (by first | rfl | decide) (by first | rfl | decide) rfl (⟨_, rfl, (show 0 ≤ (0 : Int32).toInt from (by decide)), (show (0 : Int32).toInt ≤ 10 from (by decide))⟩) dX2_forget_2 (fun F H locs hT v63809 h1v63809 h2v63809 => ?_)
  have hfr : (∀ b j : Nat, (tag b ≠ 23 ∨ j ≠ 3) → (tag b ≠ 23 ∨ j ≠ 4) → fld F b j = fld Fo b j) ∧ EF tag F Fo := ⟨fun b j n23_3 n23_4 => (h1v63809 b j (fr_ne g0 n23_3)).trans (hfr.1 b j n23_3 n23_4), fun b j hb => (h2v63809 b j).trans (hfr.2 b j hb)⟩
  refine lv_aload_n hx hb dX2_forget_5 rfl (lv_at hl 0 rfl) ?_
  refine lv_iconst (v := 0) hx hb dX2_forget_6 (by decide) ?_
  refine t_put (C := RX2) (T := TX2) (N := 5) (v := .int 0) X hT m0 g0 rfl tyX2 tyX2_ok nmX2 rfl 4 (by decide) qw_462 inlX2 rfl (by first | rfl | decide) (by first | rfl | decide) rfl (⟨_, rfl, (show 0 ≤ (0 : Int32).toInt from (by decide)), (show (0 : Int32).toInt ≤ 3 from (by decide))⟩) dX2_forget_7 (fun F H locs hT v63810 h1v63810 h2v63810 => ?_)
  have v63809 := (h1v63810 _ _ (Or.inr (by decide))).trans v63809
  have hfr : (∀ b j : Nat, (tag b ≠ 23 ∨ j ≠ 3) → (tag b ≠ 23 ∨ j ≠ 4) → fld F b j = fld Fo b j) ∧ EF tag F Fo := ⟨fun b j n23_3 n23_4 => (h1v63810 b j (fr_ne g0 n23_4)).trans (hfr.1 b j n23_3 n23_4), fun b j hb => (h2v63810 b j).trans (hfr.2 b j hb)⟩
  exact t_vret hQ X hT hfr (Nat.le_of_ble_eq_true rfl) (Nat.le_of_ble_eq_true rfl) dX2_forget_10
set_option maxHeartbeats 4000000 in
set_option maxRecDepth 100000 in
theorem kt150_X11_land (l : Launch) (G : KG) (tag : Nat → Nat) (L : List Nat) (Fo : Nat → va_E) (ho : okT G ttC tag L Fo) (p0 : Nat) (p1 : Int32) (x0 : Nat) (x1 : Nat) (x2 : Nat) (m0 : p0 ∈ L) (g0 : tag p0 = 26) (mx0 : x0 ∈ L) (gx0 : tag x0 = 25) (pf0 : fld Fo p0 8 = .ref x0) (mx1 : x1 ∈ L) (gx1 : tag x1 = 14) (pf1 : fld Fo x0 10 = .ref x1) (mx2 : x2 ∈ L) (gx2 : tag x2 = 15) (pf2 : fld Fo x0 11 = .ref x2) (hrel : NSR Fo x1 x2) : TMi l yX11_land cX11_land 3 (some .int) { frames := 10, cells := 0, slots := 0, locals := 222 } G ttC tag L Fo [.ref p0, .int p1] (fun r F1 => ((-2147483648) ≤ r.toInt ∧ r.toInt ≤ 2147483647) ∧ (∀ b j : Nat, (tag b ≠ 18 ∨ j ≠ 0) → (tag b ≠ 18 ∨ j ≠ 1) → (tag b ≠ 18 ∨ j ≠ 2) → (tag b ≠ 18 ∨ j ≠ 3) → (tag b ≠ 18 ∨ j ≠ 4) → (tag b ≠ 18 ∨ j ≠ 5) → (tag b ≠ 18 ∨ j ≠ 6) → (tag b ≠ 18 ∨ j ≠ 8) → (tag b ≠ 18 ∨ j ≠ 10) → (tag b ≠ 18 ∨ j ≠ 14) → (tag b ≠ 18 ∨ j ≠ 16) → (tag b ≠ 19 ∨ j ≠ 0) → (tag b ≠ 19 ∨ j ≠ 1) → (tag b ≠ 23 ∨ j ≠ 3) → (tag b ≠ 23 ∨ j ≠ 4) → (tag b ≠ 24 ∨ j ≠ 0) → (tag b ≠ 24 ∨ j ≠ 1) → (tag b ≠ 24 ∨ j ≠ 2) → (tag b ≠ 24 ∨ j ≠ 3) → (tag b ≠ 24 ∨ j ≠ 4) → (tag b ≠ 24 ∨ j ≠ 5) → (tag b ≠ 24 ∨ j ≠ 6) → (tag b ≠ 24 ∨ j ≠ 7) → (tag b ≠ 25 ∨ j ≠ 1) → (tag b ≠ 25 ∨ j ≠ 2) → (tag b ≠ 25 ∨ j ≠ 3) → (tag b ≠ 25 ∨ j ≠ 4) → (tag b ≠ 25 ∨ j ≠ 5) → (tag b ≠ 25 ∨ j ≠ 6) → (tag b ≠ 25 ∨ j ≠ 7) → (tag b ≠ 25 ∨ j ≠ 8) → (tag b ≠ 25 ∨ j ≠ 12) → (tag b ≠ 26 ∨ j ≠ 1) → (tag b ≠ 26 ∨ j ≠ 2) → (tag b ≠ 26 ∨ j ≠ 3) → (tag b ≠ 26 ∨ j ≠ 4) → (tag b ≠ 26 ∨ j ≠ 13) → (tag b ≠ 26 ∨ j ≠ 14) → (tag b ≠ 26 ∨ j ≠ 15) → fld F1 b j = fld Fo b j) ∧ (NSR F1 x1 x2)) := by
  refine t_bodyi (y := yX11_land) (cd := cX11_land) (mL := 3) (rt := (some .int)) (rm := { frames := 10, cells := 0, slots := 0, locals := 222 }) (av := [.ref p0, .int p1]) (by decide) (Nat.le_of_ble_eq_true rfl) ho ?_
  intro p e s m args below meth c ls A Q hQ X hT hl
  have hx := X.1.1
  have hb := X.1.2.1
  have hl : lv_has ls 3 [(0, .ref p0), (1, .int p1)] := hl
  have rp1 := rg_all p1
  obtain ⟨F, hFo⟩ : ∃ F : Nat → va_E, F = Fo := ⟨_, rfl⟩
  rw [← hFo] at hT pf0 pf1 pf2 hrel
  have hfr : ∀ b j : Nat, (tag b ≠ 18 ∨ j ≠ 0) → (tag b ≠ 18 ∨ j ≠ 1) → (tag b ≠ 18 ∨ j ≠ 2) → (tag b ≠ 18 ∨ j ≠ 3) → (tag b ≠ 18 ∨ j ≠ 4) → (tag b ≠ 18 ∨ j ≠ 5) → (tag b ≠ 18 ∨ j ≠ 6) → (tag b ≠ 18 ∨ j ≠ 8) → (tag b ≠ 18 ∨ j ≠ 10) → (tag b ≠ 18 ∨ j ≠ 14) → (tag b ≠ 18 ∨ j ≠ 16) → (tag b ≠ 19 ∨ j ≠ 0) → (tag b ≠ 19 ∨ j ≠ 1) → (tag b ≠ 23 ∨ j ≠ 3) → (tag b ≠ 23 ∨ j ≠ 4) → (tag b ≠ 24 ∨ j ≠ 0) → (tag b ≠ 24 ∨ j ≠ 1) → (tag b ≠ 24 ∨ j ≠ 2) → (tag b ≠ 24 ∨ j ≠ 3) → (tag b ≠ 24 ∨ j ≠ 4) → (tag b ≠ 24 ∨ j ≠ 5) → (tag b ≠ 24 ∨ j ≠ 6) → (tag b ≠ 24 ∨ j ≠ 7) → (tag b ≠ 25 ∨ j ≠ 1) → (tag b ≠ 25 ∨ j ≠ 2) → (tag b ≠ 25 ∨ j ≠ 3) → (tag b ≠ 25 ∨ j ≠ 4) → (tag b ≠ 25 ∨ j ≠ 5) → (tag b ≠ 25 ∨ j ≠ 6) → (tag b ≠ 25 ∨ j ≠ 7) → (tag b ≠ 25 ∨ j ≠ 8) → (tag b ≠ 25 ∨ j ≠ 12) → (tag b ≠ 26 ∨ j ≠ 1) → (tag b ≠ 26 ∨ j ≠ 2) → (tag b ≠ 26 ∨ j ≠ 3) → (tag b ≠ 26 ∨ j ≠ 4) → (tag b ≠ 26 ∨ j ≠ 13) → (tag b ≠ 26 ∨ j ≠ 14) → (tag b ≠ 26 ∨ j ≠ 15) → fld F b j = fld Fo b j := by
    rw [hFo]
    intros
    rfl
  have K12 : ∀  (F : Nat → va_E) (H : Heap) (locs : List Loc) (ls : Array Slot), TH G ttC A s tag L F H locs → (∀ b j : Nat, (tag b ≠ 18 ∨ j ≠ 0) → (tag b ≠ 18 ∨ j ≠ 1) → (tag b ≠ 18 ∨ j ≠ 2) → (tag b ≠ 18 ∨ j ≠ 3) → (tag b ≠ 18 ∨ j ≠ 4) → (tag b ≠ 18 ∨ j ≠ 5) → (tag b ≠ 18 ∨ j ≠ 6) → (tag b ≠ 18 ∨ j ≠ 8) → (tag b ≠ 18 ∨ j ≠ 10) → (tag b ≠ 18 ∨ j ≠ 14) → (tag b ≠ 18 ∨ j ≠ 16) → (tag b ≠ 19 ∨ j ≠ 0) → (tag b ≠ 19 ∨ j ≠ 1) → (tag b ≠ 23 ∨ j ≠ 3) → (tag b ≠ 23 ∨ j ≠ 4) → (tag b ≠ 24 ∨ j ≠ 0) → (tag b ≠ 24 ∨ j ≠ 1) → (tag b ≠ 24 ∨ j ≠ 2) → (tag b ≠ 24 ∨ j ≠ 3) → (tag b ≠ 24 ∨ j ≠ 4) → (tag b ≠ 24 ∨ j ≠ 5) → (tag b ≠ 24 ∨ j ≠ 6) → (tag b ≠ 24 ∨ j ≠ 7) → (tag b ≠ 25 ∨ j ≠ 1) → (tag b ≠ 25 ∨ j ≠ 2) → (tag b ≠ 25 ∨ j ≠ 3) → (tag b ≠ 25 ∨ j ≠ 4) → (tag b ≠ 25 ∨ j ≠ 5) → (tag b ≠ 25 ∨ j ≠ 6) → (tag b ≠ 25 ∨ j ≠ 7) → (tag b ≠ 25 ∨ j ≠ 8) → (tag b ≠ 25 ∨ j ≠ 12) → (tag b ≠ 26 ∨ j ≠ 1) → (tag b ≠ 26 ∨ j ≠ 2) → (tag b ≠ 26 ∨ j ≠ 3) → (tag b ≠ 26 ∨ j ≠ 4) → (tag b ≠ 26 ∨ j ≠ 13) → (tag b ≠ 26 ∨ j ≠ 14) → (tag b ≠ 26 ∨ j ≠ 15) → fld F b j = fld Fo b j) → NSR F x1 x2 → fld F p0 8 = .ref x0 → fld F x0 10 = .ref x1 → fld F x0 11 = .ref x2 → lv_has ls 3 [(0, .ref p0), (1, .int p1)] → W p l e { frames := 10, cells := 0, slots := 0, locals := 222 } s m args below meth c H locs 0 0 Q (F0 m 12 ls []) := by
    intro F H locs ls hT hfr hrel pf0 pf1 pf2 hl
    refine lv_aload_n hx hb dX11_land_12 rfl (lv_at hl 0 rfl) ?_
    refine lv_iconst (v := 2) hx hb dX11_land_13 (by decide) ?_
    refine t_cVi (n := 1) (C := RX11) (T := TX11) (N := 16) (As := [.int 2]) (rest := []) X hT (kt63_X11_refuse l G tag L F hT.2.2.2 p0 2 m0 g0) m0 g0 rfl rfl qw_152 qw_153 qw_154 qw_2 qw_155 ⟨rfl, by decide +kernel, by decide +kernel, by decide +kernel⟩ ⟨Nat.le_of_ble_eq_true rfl, Nat.le_of_ble_eq_true rfl⟩ hl rfl rfl (Nat.le_of_ble_eq_true rfl) dX11_land_14 ⟨Nat.le_of_ble_eq_true rfl, Nat.le_of_ble_eq_true rfl⟩ (fun z64345 F H locs hT hz64345 => ?_)
    obtain ⟨hz64345, yz64345⟩ := hz64345
    have pf0 := (yz64345.1 _ 8 (Or.inr (by decide))).trans pf0
    have pf1 := (yz64345.1 _ 10 (Or.inr (by decide))).trans pf1
    have pf2 := (yz64345.1 _ 11 (Or.inr (by decide))).trans pf2
    have hfr : ∀ b j : Nat, (tag b ≠ 18 ∨ j ≠ 0) → (tag b ≠ 18 ∨ j ≠ 1) → (tag b ≠ 18 ∨ j ≠ 2) → (tag b ≠ 18 ∨ j ≠ 3) → (tag b ≠ 18 ∨ j ≠ 4) → (tag b ≠ 18 ∨ j ≠ 5) → (tag b ≠ 18 ∨ j ≠ 6) → (tag b ≠ 18 ∨ j ≠ 8) → (tag b ≠ 18 ∨ j ≠ 10) → (tag b ≠ 18 ∨ j ≠ 14) → (tag b ≠ 18 ∨ j ≠ 16) → (tag b ≠ 19 ∨ j ≠ 0) → (tag b ≠ 19 ∨ j ≠ 1) → (tag b ≠ 23 ∨ j ≠ 3) → (tag b ≠ 23 ∨ j ≠ 4) → (tag b ≠ 24 ∨ j ≠ 0) → (tag b ≠ 24 ∨ j ≠ 1) → (tag b ≠ 24 ∨ j ≠ 2) → (tag b ≠ 24 ∨ j ≠ 3) → (tag b ≠ 24 ∨ j ≠ 4) → (tag b ≠ 24 ∨ j ≠ 5) → (tag b ≠ 24 ∨ j ≠ 6) → (tag b ≠ 24 ∨ j ≠ 7) → (tag b ≠ 25 ∨ j ≠ 1) → (tag b ≠ 25 ∨ j ≠ 2) → (tag b ≠ 25 ∨ j ≠ 3) → (tag b ≠ 25 ∨ j ≠ 4) → (tag b ≠ 25 ∨ j ≠ 5) → (tag b ≠ 25 ∨ j ≠ 6) → (tag b ≠ 25 ∨ j ≠ 7) → (tag b ≠ 25 ∨ j ≠ 8) → (tag b ≠ 25 ∨ j ≠ 12) → (tag b ≠ 26 ∨ j ≠ 1) → (tag b ≠ 26 ∨ j ≠ 2) → (tag b ≠ 26 ∨ j ≠ 3) → (tag b ≠ 26 ∨ j ≠ 4) → (tag b ≠ 26 ∨ j ≠ 13) → (tag b ≠ 26 ∨ j ≠ 14) → (tag b ≠ 26 ∨ j ≠ 15) → fld F b j = fld Fo b j := fun b j n18_0 n18_1 n18_2 n18_3 n18_4 n18_5 n18_6 n18_8 n18_10 n18_14 n18_16 n19_0 n19_1 n23_3 n23_4 n24_0 n24_1 n24_2 n24_3 n24_4 n24_5 n24_6 n24_7 n25_1 n25_2 n25_3 n25_4 n25_5 n25_6 n25_7 n25_8 n25_12 n26_1 n26_2 n26_3 n26_4 n26_13 n26_14 n26_15 => (yz64345.1 b j n26_13).trans (hfr b j n18_0 n18_1 n18_2 n18_3 n18_4 n18_5 n18_6 n18_8 n18_10 n18_14 n18_16 n19_0 n19_1 n23_3 n23_4 n24_0 n24_1 n24_2 n24_3 n24_4 n24_5 n24_6 n24_7 n25_1 n25_2 n25_3 n25_4 n25_5 n25_6 n25_7 n25_8 n25_12 n26_1 n26_2 n26_3 n26_4 n26_13 n26_14 n26_15)
    have hrel := nsr_of (fun j => yz64345.2 _ j (Or.inl gx1)) (fun j => yz64345.2 _ j (Or.inr gx2)) hrel
    exact t_iret hQ X hT (⟨rg_all _, hfr, hrel⟩) (Nat.le_of_ble_eq_true rfl) (Nat.le_of_ble_eq_true rfl) dX11_land_17
  refine lv_iload_n hx hb dX11_land_0 rfl (lv_at hl 1 rfl) ?_
  refine lv_if_lt (tgt := 12) hx hb dX11_land_1 (by decide) (fun c64346 => ?_) (fun c64346 => ?_)
  · have w64347 := cv_lt (rfl : p1.toInt = p1.toInt) (by decide : (0 : Int32).toInt = 0) c64346
    exact K12  _ _ _ _  hT hfr hrel pf0 pf1 pf2 (lv_sub hl [0, 1] rfl)
  · have w64348 := cv_nlt (rfl : p1.toInt = p1.toInt) (by decide : (0 : Int32).toInt = 0) c64346
    refine lv_iload_n hx hb dX11_land_4 rfl (lv_at hl 1 rfl) ?_
    refine lv_aload_n hx hb dX11_land_5 rfl (lv_at hl 0 rfl) ?_
    refine t_get (C := RX11) (T := TX11) (N := 16) X hT m0 g0 rfl rfl 1 (by decide) qw_131 inlX11 rfl dX11_land_6 (fun v64349 hv64349 ov64349 => ?_)
    obtain ⟨z64350, rfl, rz64350⟩ := okV_i ov64349
    refine lv_icmp_le (tgt := 18) hx hb dX11_land_9 (by decide) (fun c64351 => ?_) (fun c64351 => ?_)
    · have w64352 := cv_le (rfl : p1.toInt = p1.toInt) (rfl : z64350.toInt = z64350.toInt) c64351
      refine lv_aload_n hx hb dX11_land_18 rfl (lv_at hl 0 rfl) ?_
      refine lv_iconst (v := 0) hx hb dX11_land_19 (by decide) ?_
      refine t_put (C := RX11) (T := TX11) (N := 16) (v := .int 0) X hT m0 g0 rfl tyX11 tyX11_ok nmX11 rfl 1 (by decide) qw_131 inlX11 rfl (by first | rfl | decide) (by first | rfl | decide) rfl (⟨_, rfl, (show 0 ≤ (0 : Int32).toInt from (by decide)), (show (0 : Int32).toInt ≤ 1000 from (by decide))⟩) dX11_land_20 (fun F H locs hT v64353 h1v64353 h2v64353 => ?_)
      have pf0 := (h1v64353 _ _ (Or.inr (by decide))).trans pf0
      have pf1 := (h1v64353 _ _ (Or.inr (by decide))).trans pf1
      have pf2 := (h1v64353 _ _ (Or.inr (by decide))).trans pf2
      have hfr : ∀ b j : Nat, (tag b ≠ 18 ∨ j ≠ 0) → (tag b ≠ 18 ∨ j ≠ 1) → (tag b ≠ 18 ∨ j ≠ 2) → (tag b ≠ 18 ∨ j ≠ 3) → (tag b ≠ 18 ∨ j ≠ 4) → (tag b ≠ 18 ∨ j ≠ 5) → (tag b ≠ 18 ∨ j ≠ 6) → (tag b ≠ 18 ∨ j ≠ 8) → (tag b ≠ 18 ∨ j ≠ 10) → (tag b ≠ 18 ∨ j ≠ 14) → (tag b ≠ 18 ∨ j ≠ 16) → (tag b ≠ 19 ∨ j ≠ 0) → (tag b ≠ 19 ∨ j ≠ 1) → (tag b ≠ 23 ∨ j ≠ 3) → (tag b ≠ 23 ∨ j ≠ 4) → (tag b ≠ 24 ∨ j ≠ 0) → (tag b ≠ 24 ∨ j ≠ 1) → (tag b ≠ 24 ∨ j ≠ 2) → (tag b ≠ 24 ∨ j ≠ 3) → (tag b ≠ 24 ∨ j ≠ 4) → (tag b ≠ 24 ∨ j ≠ 5) → (tag b ≠ 24 ∨ j ≠ 6) → (tag b ≠ 24 ∨ j ≠ 7) → (tag b ≠ 25 ∨ j ≠ 1) → (tag b ≠ 25 ∨ j ≠ 2) → (tag b ≠ 25 ∨ j ≠ 3) → (tag b ≠ 25 ∨ j ≠ 4) → (tag b ≠ 25 ∨ j ≠ 5) → (tag b ≠ 25 ∨ j ≠ 6) → (tag b ≠ 25 ∨ j ≠ 7) → (tag b ≠ 25 ∨ j ≠ 8) → (tag b ≠ 25 ∨ j ≠ 12) → (tag b ≠ 26 ∨ j ≠ 1) → (tag b ≠ 26 ∨ j ≠ 2) → (tag b ≠ 26 ∨ j ≠ 3) → (tag b ≠ 26 ∨ j ≠ 4) → (tag b ≠ 26 ∨ j ≠ 13) → (tag b ≠ 26 ∨ j ≠ 14) → (tag b ≠ 26 ∨ j ≠ 15) → fld F b j = fld Fo b j := fun b j n18_0 n18_1 n18_2 n18_3 n18_4 n18_5 n18_6 n18_8 n18_10 n18_14 n18_16 n19_0 n19_1 n23_3 n23_4 n24_0 n24_1 n24_2 n24_3 n24_4 n24_5 n24_6 n24_7 n25_1 n25_2 n25_3 n25_4 n25_5 n25_6 n25_7 n25_8 n25_12 n26_1 n26_2 n26_3 n26_4 n26_13 n26_14 n26_15 => (h1v64353 b j (fr_ne g0 n26_1)).trans (hfr b j n18_0 n18_1 n18_2 n18_3 n18_4 n18_5 n18_6 n18_8 n18_10 n18_14 n18_16 n19_0 n19_1 n23_3 n23_4 n24_0 n24_1 n24_2 n24_3 n24_4 n24_5 n24_6 n24_7 n25_1 n25_2 n25_3 n25_4 n25_5 n25_6 n25_7 n25_8 n25_12 n26_1 n26_2 n26_3 n26_4 n26_13 n26_14 n26_15)
      have hrel := nsr_of (fun j => h2v64353 _ j) (fun j => h2v64353 _ j) hrel
      refine lv_aload_n hx hb dX11_land_23 rfl (lv_at hl 0 rfl) ?_
      refine t_get (C := RX11) (T := TX11) (N := 16) X hT m0 g0 rfl rfl 8 (by decide) qw_29 inlX11 rfl dX11_land_24 (fun v64354 hv64354 ov64354 => ?_)
      obtain rfl : v64354 = .ref x0 := hv64354.symm.trans pf0
      refine lv_aload_n hx hb dX11_land_27 rfl (lv_at hl 0 rfl) ?_
      refine t_get (C := RX11) (T := TX11) (N := 16) X hT m0 g0 rfl rfl 0 (by decide) qw_14 inlX11 rfl dX11_land_28 (fun v64355 hv64355 ov64355 => ?_)
      obtain ⟨b64356, rfl, mb64356, gb64356⟩ := okV_r ov64355
      have gb64356 : tag b64356 = 1 := tg_of gb64356
      refine lv_iload_n hx hb dX11_land_31 rfl (lv_at hl 1 rfl) ?_
      refine lv_aload_n hx hb dX11_land_32 rfl (lv_at hl 0 rfl) ?_
      refine t_get (C := RX11) (T := TX11) (N := 16) X hT m0 g0 rfl rfl 4 (by decide) qw_19 inlX11 rfl dX11_land_33 (fun v64357 hv64357 ov64357 => ?_)
      obtain ⟨b64358, rfl, mb64358, gb64358⟩ := okV_r ov64357
      have gb64358 : tag b64358 = 18 := tg_of gb64358
      refine lv_aload_n hx hb dX11_land_36 rfl (lv_at hl 0 rfl) ?_
      refine t_get (C := RX11) (T := TX11) (N := 16) X hT m0 g0 rfl rfl 6 (by decide) qw_24 inlX11 rfl dX11_land_37 (fun v64359 hv64359 ov64359 => ?_)
      obtain ⟨b64360, rfl, mb64360, gb64360⟩ := okV_r ov64359
      have gb64360 : tag b64360 = 19 := tg_of gb64360
      refine t_cVv (n := 4) (C := RX3) (T := TX3) (N := 13) (As := [.ref b64356, .int p1, .ref b64358, .ref b64360]) (rest := []) X hT (kt148_X3_readAll l G tag L F hT.2.2.2 x0 b64356 p1 b64358 b64360 x1 x2 mx0 gx0 mb64356 gb64356 (by omega) mb64358 gb64358 mb64360 gb64360 mx1 gx1 pf1 mx2 gx2 pf2 hrel) mx0 gx0 rfl rfl qw_157 qw_158 qw_159 qw_28 qw_160 ⟨rfl, by decide +kernel, by decide +kernel, by decide +kernel⟩ ⟨Nat.le_of_ble_eq_true rfl, Nat.le_of_ble_eq_true rfl⟩ hl rfl rfl (Nat.le_of_ble_eq_true rfl) dX11_land_40 ⟨Nat.le_of_ble_eq_true rfl, Nat.le_of_ble_eq_true rfl⟩ (fun F H locs hT hz64361 => ?_)
      obtain ⟨yz64361, hrel⟩ := hz64361
      have pf0 := (yz64361 _ 8 (Or.inr (by decide)) (Or.inr (by decide)) (Or.inr (by decide)) (Or.inr (by decide)) (Or.inr (by decide)) (Or.inr (by decide)) (Or.inr (by decide)) (Or.inl (by rw [g0]; decide)) (Or.inr (by decide)) (Or.inr (by decide)) (Or.inr (by decide)) (Or.inr (by decide)) (Or.inr (by decide)) (Or.inr (by decide)) (Or.inr (by decide)) (Or.inr (by decide)) (Or.inr (by decide)) (Or.inr (by decide)) (Or.inr (by decide)) (Or.inr (by decide)) (Or.inr (by decide)) (Or.inr (by decide)) (Or.inr (by decide)) (Or.inr (by decide)) (Or.inr (by decide)) (Or.inr (by decide)) (Or.inr (by decide)) (Or.inr (by decide)) (Or.inl (by rw [g0]; decide)) (Or.inr (by decide))).trans pf0
      have pf1 := (yz64361 _ 10 (Or.inr (by decide)) (Or.inr (by decide)) (Or.inr (by decide)) (Or.inr (by decide)) (Or.inr (by decide)) (Or.inr (by decide)) (Or.inr (by decide)) (Or.inr (by decide)) (Or.inl (by rw [gx0]; decide)) (Or.inr (by decide)) (Or.inr (by decide)) (Or.inr (by decide)) (Or.inr (by decide)) (Or.inr (by decide)) (Or.inr (by decide)) (Or.inr (by decide)) (Or.inr (by decide)) (Or.inr (by decide)) (Or.inr (by decide)) (Or.inr (by decide)) (Or.inr (by decide)) (Or.inr (by decide)) (Or.inr (by decide)) (Or.inr (by decide)) (Or.inr (by decide)) (Or.inr (by decide)) (Or.inr (by decide)) (Or.inr (by decide)) (Or.inr (by decide)) (Or.inr (by decide))).trans pf1
      have pf2 := (yz64361 _ 11 (Or.inr (by decide)) (Or.inr (by decide)) (Or.inr (by decide)) (Or.inr (by decide)) (Or.inr (by decide)) (Or.inr (by decide)) (Or.inr (by decide)) (Or.inr (by decide)) (Or.inr (by decide)) (Or.inr (by decide)) (Or.inr (by decide)) (Or.inr (by decide)) (Or.inr (by decide)) (Or.inr (by decide)) (Or.inr (by decide)) (Or.inr (by decide)) (Or.inr (by decide)) (Or.inr (by decide)) (Or.inr (by decide)) (Or.inr (by decide)) (Or.inr (by decide)) (Or.inr (by decide)) (Or.inr (by decide)) (Or.inr (by decide)) (Or.inr (by decide)) (Or.inr (by decide)) (Or.inr (by decide)) (Or.inr (by decide)) (Or.inr (by decide)) (Or.inr (by decide))).trans pf2
      have v64353 := (yz64361 _ 1 (Or.inr (by decide)) (Or.inl (by rw [g0]; decide)) (Or.inr (by decide)) (Or.inr (by decide)) (Or.inr (by decide)) (Or.inr (by decide)) (Or.inr (by decide)) (Or.inr (by decide)) (Or.inr (by decide)) (Or.inr (by decide)) (Or.inr (by decide)) (Or.inr (by decide)) (Or.inl (by rw [g0]; decide)) (Or.inr (by decide)) (Or.inl (by rw [g0]; decide)) (Or.inr (by decide)) (Or.inr (by decide)) (Or.inr (by decide)) (Or.inr (by decide)) (Or.inr (by decide)) (Or.inr (by decide)) (Or.inl (by rw [g0]; decide)) (Or.inr (by decide)) (Or.inr (by decide)) (Or.inr (by decide)) (Or.inr (by decide)) (Or.inr (by decide)) (Or.inr (by decide)) (Or.inr (by decide)) (Or.inr (by decide))).trans v64353
      have hv64355 := (yz64361 _ 0 (Or.inl (by rw [g0]; decide)) (Or.inr (by decide)) (Or.inr (by decide)) (Or.inr (by decide)) (Or.inr (by decide)) (Or.inr (by decide)) (Or.inr (by decide)) (Or.inr (by decide)) (Or.inr (by decide)) (Or.inr (by decide)) (Or.inr (by decide)) (Or.inl (by rw [g0]; decide)) (Or.inr (by decide)) (Or.inl (by rw [g0]; decide)) (Or.inr (by decide)) (Or.inr (by decide)) (Or.inr (by decide)) (Or.inr (by decide)) (Or.inr (by decide)) (Or.inr (by decide)) (Or.inr (by decide)) (Or.inr (by decide)) (Or.inr (by decide)) (Or.inr (by decide)) (Or.inr (by decide)) (Or.inr (by decide)) (Or.inr (by decide)) (Or.inr (by decide)) (Or.inr (by decide)) (Or.inr (by decide))).trans hv64355
      have hv64357 := (yz64361 _ 4 (Or.inr (by decide)) (Or.inr (by decide)) (Or.inr (by decide)) (Or.inr (by decide)) (Or.inl (by rw [g0]; decide)) (Or.inr (by decide)) (Or.inr (by decide)) (Or.inr (by decide)) (Or.inr (by decide)) (Or.inr (by decide)) (Or.inr (by decide)) (Or.inr (by decide)) (Or.inr (by decide)) (Or.inr (by decide)) (Or.inr (by decide)) (Or.inr (by decide)) (Or.inr (by decide)) (Or.inl (by rw [g0]; decide)) (Or.inr (by decide)) (Or.inr (by decide)) (Or.inr (by decide)) (Or.inr (by decide)) (Or.inr (by decide)) (Or.inr (by decide)) (Or.inl (by rw [g0]; decide)) (Or.inr (by decide)) (Or.inr (by decide)) (Or.inr (by decide)) (Or.inr (by decide)) (Or.inr (by decide))).trans hv64357
      have hv64359 := (yz64361 _ 6 (Or.inr (by decide)) (Or.inr (by decide)) (Or.inr (by decide)) (Or.inr (by decide)) (Or.inr (by decide)) (Or.inr (by decide)) (Or.inl (by rw [g0]; decide)) (Or.inr (by decide)) (Or.inr (by decide)) (Or.inr (by decide)) (Or.inr (by decide)) (Or.inr (by decide)) (Or.inr (by decide)) (Or.inr (by decide)) (Or.inr (by decide)) (Or.inr (by decide)) (Or.inr (by decide)) (Or.inr (by decide)) (Or.inr (by decide)) (Or.inl (by rw [g0]; decide)) (Or.inr (by decide)) (Or.inr (by decide)) (Or.inr (by decide)) (Or.inr (by decide)) (Or.inr (by decide)) (Or.inr (by decide)) (Or.inl (by rw [g0]; decide)) (Or.inr (by decide)) (Or.inr (by decide)) (Or.inr (by decide))).trans hv64359
      have hfr : ∀ b j : Nat, (tag b ≠ 18 ∨ j ≠ 0) → (tag b ≠ 18 ∨ j ≠ 1) → (tag b ≠ 18 ∨ j ≠ 2) → (tag b ≠ 18 ∨ j ≠ 3) → (tag b ≠ 18 ∨ j ≠ 4) → (tag b ≠ 18 ∨ j ≠ 5) → (tag b ≠ 18 ∨ j ≠ 6) → (tag b ≠ 18 ∨ j ≠ 8) → (tag b ≠ 18 ∨ j ≠ 10) → (tag b ≠ 18 ∨ j ≠ 14) → (tag b ≠ 18 ∨ j ≠ 16) → (tag b ≠ 19 ∨ j ≠ 0) → (tag b ≠ 19 ∨ j ≠ 1) → (tag b ≠ 23 ∨ j ≠ 3) → (tag b ≠ 23 ∨ j ≠ 4) → (tag b ≠ 24 ∨ j ≠ 0) → (tag b ≠ 24 ∨ j ≠ 1) → (tag b ≠ 24 ∨ j ≠ 2) → (tag b ≠ 24 ∨ j ≠ 3) → (tag b ≠ 24 ∨ j ≠ 4) → (tag b ≠ 24 ∨ j ≠ 5) → (tag b ≠ 24 ∨ j ≠ 6) → (tag b ≠ 24 ∨ j ≠ 7) → (tag b ≠ 25 ∨ j ≠ 1) → (tag b ≠ 25 ∨ j ≠ 2) → (tag b ≠ 25 ∨ j ≠ 3) → (tag b ≠ 25 ∨ j ≠ 4) → (tag b ≠ 25 ∨ j ≠ 5) → (tag b ≠ 25 ∨ j ≠ 6) → (tag b ≠ 25 ∨ j ≠ 7) → (tag b ≠ 25 ∨ j ≠ 8) → (tag b ≠ 25 ∨ j ≠ 12) → (tag b ≠ 26 ∨ j ≠ 1) → (tag b ≠ 26 ∨ j ≠ 2) → (tag b ≠ 26 ∨ j ≠ 3) → (tag b ≠ 26 ∨ j ≠ 4) → (tag b ≠ 26 ∨ j ≠ 13) → (tag b ≠ 26 ∨ j ≠ 14) → (tag b ≠ 26 ∨ j ≠ 15) → fld F b j = fld Fo b j := fun b j n18_0 n18_1 n18_2 n18_3 n18_4 n18_5 n18_6 n18_8 n18_10 n18_14 n18_16 n19_0 n19_1 n23_3 n23_4 n24_0 n24_1 n24_2 n24_3 n24_4 n24_5 n24_6 n24_7 n25_1 n25_2 n25_3 n25_4 n25_5 n25_6 n25_7 n25_8 n25_12 n26_1 n26_2 n26_3 n26_4 n26_13 n26_14 n26_15 => (yz64361 b j n18_0 n18_1 n18_2 n18_3 n18_4 n18_5 n18_6 n18_8 n18_10 n18_14 n18_16 n19_0 n19_1 n24_0 n24_1 n24_2 n24_3 n24_4 n24_5 n24_6 n24_7 n25_1 n25_2 n25_3 n25_4 n25_5 n25_6 n25_7 n25_8 n25_12).trans (hfr b j n18_0 n18_1 n18_2 n18_3 n18_4 n18_5 n18_6 n18_8 n18_10 n18_14 n18_16 n19_0 n19_1 n23_3 n23_4 n24_0 n24_1 n24_2 n24_3 n24_4 n24_5 n24_6 n24_7 n25_1 n25_2 n25_3 n25_4 n25_5 n25_6 n25_7 n25_8 n25_12 n26_1 n26_2 n26_3 n26_4 n26_13 n26_14 n26_15)
      refine lv_aload_n hx hb dX11_land_43 rfl (lv_at hl 0 rfl) ?_
      refine lv_aload_n hx hb dX11_land_44 rfl (lv_at hl 0 rfl) ?_
      refine t_get (C := RX11) (T := TX11) (N := 16) X hT m0 g0 rfl rfl 8 (by decide) qw_29 inlX11 rfl dX11_land_45 (fun v64362 hv64362 ov64362 => ?_)
      obtain rfl : v64362 = .ref x0 := hv64362.symm.trans pf0
      refine t_get (C := RX3) (T := TX3) (N := 13) X hT mx0 gx0 rfl rfl 3 (by decide) qw_146 inlX3 rfl dX11_land_48 (fun v64363 hv64363 ov64363 => ?_)
      obtain ⟨z64364, rfl, rz64364⟩ := okV_i ov64363
      refine t_put (C := RX11) (T := TX11) (N := 16) (v := .int z64364) X hT m0 g0 rfl tyX11 tyX11_ok nmX11 rfl 14 (by decide) qw_147 inlX11 rfl (by first | rfl | decide) (by first | rfl | decide) rfl (⟨_, rfl, (show (-2147483648) ≤ (z64364 : Int32).toInt from (by omega)), (show (z64364 : Int32).toInt ≤ 2147483647 from (by omega))⟩) dX11_land_51 (fun F H locs hT v64365 h1v64365 h2v64365 => ?_)
      have pf0 := (h1v64365 _ _ (Or.inr (by decide))).trans pf0
      have pf1 := (h1v64365 _ _ (Or.inr (by decide))).trans pf1
      have pf2 := (h1v64365 _ _ (Or.inr (by decide))).trans pf2
      have v64353 := (h1v64365 _ _ (Or.inr (by decide))).trans v64353
      have hv64355 := (h1v64365 _ _ (Or.inr (by decide))).trans hv64355
      have hv64357 := (h1v64365 _ _ (Or.inr (by decide))).trans hv64357
      have hv64359 := (h1v64365 _ _ (Or.inr (by decide))).trans hv64359
      have hv64363 := (h1v64365 _ _ (Or.inr (by decide))).trans hv64363
      have hfr : ∀ b j : Nat, (tag b ≠ 18 ∨ j ≠ 0) → (tag b ≠ 18 ∨ j ≠ 1) → (tag b ≠ 18 ∨ j ≠ 2) → (tag b ≠ 18 ∨ j ≠ 3) → (tag b ≠ 18 ∨ j ≠ 4) → (tag b ≠ 18 ∨ j ≠ 5) → (tag b ≠ 18 ∨ j ≠ 6) → (tag b ≠ 18 ∨ j ≠ 8) → (tag b ≠ 18 ∨ j ≠ 10) → (tag b ≠ 18 ∨ j ≠ 14) → (tag b ≠ 18 ∨ j ≠ 16) → (tag b ≠ 19 ∨ j ≠ 0) → (tag b ≠ 19 ∨ j ≠ 1) → (tag b ≠ 23 ∨ j ≠ 3) → (tag b ≠ 23 ∨ j ≠ 4) → (tag b ≠ 24 ∨ j ≠ 0) → (tag b ≠ 24 ∨ j ≠ 1) → (tag b ≠ 24 ∨ j ≠ 2) → (tag b ≠ 24 ∨ j ≠ 3) → (tag b ≠ 24 ∨ j ≠ 4) → (tag b ≠ 24 ∨ j ≠ 5) → (tag b ≠ 24 ∨ j ≠ 6) → (tag b ≠ 24 ∨ j ≠ 7) → (tag b ≠ 25 ∨ j ≠ 1) → (tag b ≠ 25 ∨ j ≠ 2) → (tag b ≠ 25 ∨ j ≠ 3) → (tag b ≠ 25 ∨ j ≠ 4) → (tag b ≠ 25 ∨ j ≠ 5) → (tag b ≠ 25 ∨ j ≠ 6) → (tag b ≠ 25 ∨ j ≠ 7) → (tag b ≠ 25 ∨ j ≠ 8) → (tag b ≠ 25 ∨ j ≠ 12) → (tag b ≠ 26 ∨ j ≠ 1) → (tag b ≠ 26 ∨ j ≠ 2) → (tag b ≠ 26 ∨ j ≠ 3) → (tag b ≠ 26 ∨ j ≠ 4) → (tag b ≠ 26 ∨ j ≠ 13) → (tag b ≠ 26 ∨ j ≠ 14) → (tag b ≠ 26 ∨ j ≠ 15) → fld F b j = fld Fo b j := fun b j n18_0 n18_1 n18_2 n18_3 n18_4 n18_5 n18_6 n18_8 n18_10 n18_14 n18_16 n19_0 n19_1 n23_3 n23_4 n24_0 n24_1 n24_2 n24_3 n24_4 n24_5 n24_6 n24_7 n25_1 n25_2 n25_3 n25_4 n25_5 n25_6 n25_7 n25_8 n25_12 n26_1 n26_2 n26_3 n26_4 n26_13 n26_14 n26_15 => (h1v64365 b j (fr_ne g0 n26_14)).trans (hfr b j n18_0 n18_1 n18_2 n18_3 n18_4 n18_5 n18_6 n18_8 n18_10 n18_14 n18_16 n19_0 n19_1 n23_3 n23_4 n24_0 n24_1 n24_2 n24_3 n24_4 n24_5 n24_6 n24_7 n25_1 n25_2 n25_3 n25_4 n25_5 n25_6 n25_7 n25_8 n25_12 n26_1 n26_2 n26_3 n26_4 n26_13 n26_14 n26_15)
      have hrel := nsr_of (fun j => h2v64365 _ j) (fun j => h2v64365 _ j) hrel
      refine lv_aload_n hx hb dX11_land_54 rfl (lv_at hl 0 rfl) ?_
      refine lv_aload_n hx hb dX11_land_55 rfl (lv_at hl 0 rfl) ?_
      refine t_get (C := RX11) (T := TX11) (N := 16) X hT m0 g0 rfl rfl 8 (by decide) qw_29 inlX11 rfl dX11_land_56 (fun v64366 hv64366 ov64366 => ?_)
      obtain rfl : v64366 = .ref x0 := hv64366.symm.trans pf0
      refine t_get (C := RX3) (T := TX3) (N := 13) X hT mx0 gx0 rfl rfl 4 (by decide) qw_148 inlX3 rfl dX11_land_59 (fun v64367 hv64367 ov64367 => ?_)
      obtain ⟨z64368, rfl, rz64368⟩ := okV_i ov64367
      refine t_put (C := RX11) (T := TX11) (N := 16) (v := .int z64368) X hT m0 g0 rfl tyX11 tyX11_ok nmX11 rfl 15 (by decide) qw_149 inlX11 rfl (by first | rfl | decide) (by first | rfl | decide) rfl (⟨_, rfl, (show (-2147483648) ≤ (z64368 : Int32).toInt from (by omega)), (show (z64368 : Int32).toInt ≤ 2147483647 from (by omega))⟩) dX11_land_62 (fun F H locs hT v64369 h1v64369 h2v64369 => ?_)
      have pf0 := (h1v64369 _ _ (Or.inr (by decide))).trans pf0
      have pf1 := (h1v64369 _ _ (Or.inr (by decide))).trans pf1
      have pf2 := (h1v64369 _ _ (Or.inr (by decide))).trans pf2
      have v64353 := (h1v64369 _ _ (Or.inr (by decide))).trans v64353
      have hv64355 := (h1v64369 _ _ (Or.inr (by decide))).trans hv64355
      have hv64357 := (h1v64369 _ _ (Or.inr (by decide))).trans hv64357
      have hv64359 := (h1v64369 _ _ (Or.inr (by decide))).trans hv64359
      have hv64363 := (h1v64369 _ _ (Or.inr (by decide))).trans hv64363
      have v64365 := (h1v64369 _ _ (Or.inr (by decide))).trans v64365
      have hv64367 := (h1v64369 _ _ (Or.inr (by decide))).trans hv64367
      have hfr : ∀ b j : Nat, (tag b ≠ 18 ∨ j ≠ 0) → (tag b ≠ 18 ∨ j ≠ 1) → (tag b ≠ 18 ∨ j ≠ 2) → (tag b ≠ 18 ∨ j ≠ 3) → (tag b ≠ 18 ∨ j ≠ 4) → (tag b ≠ 18 ∨ j ≠ 5) → (tag b ≠ 18 ∨ j ≠ 6) → (tag b ≠ 18 ∨ j ≠ 8) → (tag b ≠ 18 ∨ j ≠ 10) → (tag b ≠ 18 ∨ j ≠ 14) → (tag b ≠ 18 ∨ j ≠ 16) → (tag b ≠ 19 ∨ j ≠ 0) → (tag b ≠ 19 ∨ j ≠ 1) → (tag b ≠ 23 ∨ j ≠ 3) → (tag b ≠ 23 ∨ j ≠ 4) → (tag b ≠ 24 ∨ j ≠ 0) → (tag b ≠ 24 ∨ j ≠ 1) → (tag b ≠ 24 ∨ j ≠ 2) → (tag b ≠ 24 ∨ j ≠ 3) → (tag b ≠ 24 ∨ j ≠ 4) → (tag b ≠ 24 ∨ j ≠ 5) → (tag b ≠ 24 ∨ j ≠ 6) → (tag b ≠ 24 ∨ j ≠ 7) → (tag b ≠ 25 ∨ j ≠ 1) → (tag b ≠ 25 ∨ j ≠ 2) → (tag b ≠ 25 ∨ j ≠ 3) → (tag b ≠ 25 ∨ j ≠ 4) → (tag b ≠ 25 ∨ j ≠ 5) → (tag b ≠ 25 ∨ j ≠ 6) → (tag b ≠ 25 ∨ j ≠ 7) → (tag b ≠ 25 ∨ j ≠ 8) → (tag b ≠ 25 ∨ j ≠ 12) → (tag b ≠ 26 ∨ j ≠ 1) → (tag b ≠ 26 ∨ j ≠ 2) → (tag b ≠ 26 ∨ j ≠ 3) → (tag b ≠ 26 ∨ j ≠ 4) → (tag b ≠ 26 ∨ j ≠ 13) → (tag b ≠ 26 ∨ j ≠ 14) → (tag b ≠ 26 ∨ j ≠ 15) → fld F b j = fld Fo b j := fun b j n18_0 n18_1 n18_2 n18_3 n18_4 n18_5 n18_6 n18_8 n18_10 n18_14 n18_16 n19_0 n19_1 n23_3 n23_4 n24_0 n24_1 n24_2 n24_3 n24_4 n24_5 n24_6 n24_7 n25_1 n25_2 n25_3 n25_4 n25_5 n25_6 n25_7 n25_8 n25_12 n26_1 n26_2 n26_3 n26_4 n26_13 n26_14 n26_15 => (h1v64369 b j (fr_ne g0 n26_15)).trans (hfr b j n18_0 n18_1 n18_2 n18_3 n18_4 n18_5 n18_6 n18_8 n18_10 n18_14 n18_16 n19_0 n19_1 n23_3 n23_4 n24_0 n24_1 n24_2 n24_3 n24_4 n24_5 n24_6 n24_7 n25_1 n25_2 n25_3 n25_4 n25_5 n25_6 n25_7 n25_8 n25_12 n26_1 n26_2 n26_3 n26_4 n26_13 n26_14 n26_15)
      have hrel := nsr_of (fun j => h2v64369 _ j) (fun j => h2v64369 _ j) hrel
      refine lv_aload_n hx hb dX11_land_65 rfl (lv_at hl 0 rfl) ?_
      refine t_get (C := RX11) (T := TX11) (N := 16) X hT m0 g0 rfl rfl 14 (by decide) qw_147 inlX11 rfl dX11_land_66 (fun v64370 hv64370 ov64370 => ?_)
      obtain rfl : v64370 = .int z64364 := hv64370.symm.trans v64365
      refine lv_if_eq (tgt := 78) hx hb dX11_land_69 (by decide) (fun c64371 => ?_) (fun c64371 => ?_)
      · have w64372 := cv_eq (rfl : z64364.toInt = z64364.toInt) (by decide : (0 : Int32).toInt = 0) c64371
        refine lv_aload_n hx hb dX11_land_78 rfl (lv_at hl 0 rfl) ?_
        refine t_get (C := RX11) (T := TX11) (N := 16) X hT m0 g0 rfl rfl 3 (by decide) qw_18 inlX11 rfl dX11_land_79 (fun v64373 hv64373 ov64373 => ?_)
        obtain ⟨b64374, rfl, mb64374, gb64374⟩ := okV_r ov64373
        have gb64374 : tag b64374 = 18 := tg_of gb64374
        refine lv_astore_n (lv' := [(2, .ref b64374), (0, .ref p0), (1, .int p1)]) hx hb dX11_land_82 rfl hl (by decide) rfl (fun ls hl => ?_)
        refine lv_aload_n hx hb dX11_land_83 rfl (lv_at hl 1 rfl) ?_
        refine lv_aload_n hx hb dX11_land_84 rfl (lv_at hl 1 rfl) ?_
        refine t_get (C := RX11) (T := TX11) (N := 16) X hT m0 g0 rfl rfl 4 (by decide) qw_19 inlX11 rfl dX11_land_85 (fun v64375 hv64375 ov64375 => ?_)
        obtain rfl : v64375 = .ref b64358 := hv64375.symm.trans hv64357
        refine t_put (C := RX11) (T := TX11) (N := 16) (v := .ref b64358) X hT m0 g0 rfl tyX11 tyX11_ok nmX11 rfl 3 (by decide) qw_18 inlX11 rfl (by first | rfl | decide) (by first | rfl | decide) rfl (⟨_, rfl, mb64358, by rw [gb64358]; rfl⟩) dX11_land_88 (fun F H locs hT v64376 h1v64376 h2v64376 => ?_)
        have pf0 := (h1v64376 _ _ (Or.inr (by decide))).trans pf0
        have pf1 := (h1v64376 _ _ (Or.inr (by decide))).trans pf1
        have pf2 := (h1v64376 _ _ (Or.inr (by decide))).trans pf2
        have v64353 := (h1v64376 _ _ (Or.inr (by decide))).trans v64353
        have hv64355 := (h1v64376 _ _ (Or.inr (by decide))).trans hv64355
        have hv64357 := (h1v64376 _ _ (Or.inr (by decide))).trans hv64357
        have hv64359 := (h1v64376 _ _ (Or.inr (by decide))).trans hv64359
        have hv64363 := (h1v64376 _ _ (Or.inl (tne gx0 g0 (by decide)))).trans hv64363
        have v64365 := (h1v64376 _ _ (Or.inr (by decide))).trans v64365
        have hv64367 := (h1v64376 _ _ (Or.inr (by decide))).trans hv64367
        have v64369 := (h1v64376 _ _ (Or.inr (by decide))).trans v64369
        have hfr : ∀ b j : Nat, (tag b ≠ 18 ∨ j ≠ 0) → (tag b ≠ 18 ∨ j ≠ 1) → (tag b ≠ 18 ∨ j ≠ 2) → (tag b ≠ 18 ∨ j ≠ 3) → (tag b ≠ 18 ∨ j ≠ 4) → (tag b ≠ 18 ∨ j ≠ 5) → (tag b ≠ 18 ∨ j ≠ 6) → (tag b ≠ 18 ∨ j ≠ 8) → (tag b ≠ 18 ∨ j ≠ 10) → (tag b ≠ 18 ∨ j ≠ 14) → (tag b ≠ 18 ∨ j ≠ 16) → (tag b ≠ 19 ∨ j ≠ 0) → (tag b ≠ 19 ∨ j ≠ 1) → (tag b ≠ 23 ∨ j ≠ 3) → (tag b ≠ 23 ∨ j ≠ 4) → (tag b ≠ 24 ∨ j ≠ 0) → (tag b ≠ 24 ∨ j ≠ 1) → (tag b ≠ 24 ∨ j ≠ 2) → (tag b ≠ 24 ∨ j ≠ 3) → (tag b ≠ 24 ∨ j ≠ 4) → (tag b ≠ 24 ∨ j ≠ 5) → (tag b ≠ 24 ∨ j ≠ 6) → (tag b ≠ 24 ∨ j ≠ 7) → (tag b ≠ 25 ∨ j ≠ 1) → (tag b ≠ 25 ∨ j ≠ 2) → (tag b ≠ 25 ∨ j ≠ 3) → (tag b ≠ 25 ∨ j ≠ 4) → (tag b ≠ 25 ∨ j ≠ 5) → (tag b ≠ 25 ∨ j ≠ 6) → (tag b ≠ 25 ∨ j ≠ 7) → (tag b ≠ 25 ∨ j ≠ 8) → (tag b ≠ 25 ∨ j ≠ 12) → (tag b ≠ 26 ∨ j ≠ 1) → (tag b ≠ 26 ∨ j ≠ 2) → (tag b ≠ 26 ∨ j ≠ 3) → (tag b ≠ 26 ∨ j ≠ 4) → (tag b ≠ 26 ∨ j ≠ 13) → (tag b ≠ 26 ∨ j ≠ 14) → (tag b ≠ 26 ∨ j ≠ 15) → fld F b j = fld Fo b j := fun b j n18_0 n18_1 n18_2 n18_3 n18_4 n18_5 n18_6 n18_8 n18_10 n18_14 n18_16 n19_0 n19_1 n23_3 n23_4 n24_0 n24_1 n24_2 n24_3 n24_4 n24_5 n24_6 n24_7 n25_1 n25_2 n25_3 n25_4 n25_5 n25_6 n25_7 n25_8 n25_12 n26_1 n26_2 n26_3 n26_4 n26_13 n26_14 n26_15 => (h1v64376 b j (fr_ne g0 n26_3)).trans (hfr b j n18_0 n18_1 n18_2 n18_3 n18_4 n18_5 n18_6 n18_8 n18_10 n18_14 n18_16 n19_0 n19_1 n23_3 n23_4 n24_0 n24_1 n24_2 n24_3 n24_4 n24_5 n24_6 n24_7 n25_1 n25_2 n25_3 n25_4 n25_5 n25_6 n25_7 n25_8 n25_12 n26_1 n26_2 n26_3 n26_4 n26_13 n26_14 n26_15)
        have hrel := nsr_of (fun j => h2v64376 _ j) (fun j => h2v64376 _ j) hrel
        refine lv_aload_n hx hb dX11_land_91 rfl (lv_at hl 1 rfl) ?_
        refine lv_aload_n hx hb dX11_land_92 rfl (lv_at hl 0 rfl) ?_
        refine t_put (C := RX11) (T := TX11) (N := 16) (v := .ref b64374) X hT m0 g0 rfl tyX11 tyX11_ok nmX11 rfl 4 (by decide) qw_19 inlX11 rfl (by first | rfl | decide) (by first | rfl | decide) rfl (⟨_, rfl, mb64374, by rw [gb64374]; rfl⟩) dX11_land_93 (fun F H locs hT v64377 h1v64377 h2v64377 => ?_)
        have pf0 := (h1v64377 _ _ (Or.inr (by decide))).trans pf0
        have pf1 := (h1v64377 _ _ (Or.inr (by decide))).trans pf1
        have pf2 := (h1v64377 _ _ (Or.inr (by decide))).trans pf2
        have v64353 := (h1v64377 _ _ (Or.inr (by decide))).trans v64353
        have hv64355 := (h1v64377 _ _ (Or.inr (by decide))).trans hv64355
        have hv64359 := (h1v64377 _ _ (Or.inr (by decide))).trans hv64359
        have hv64363 := (h1v64377 _ _ (Or.inr (by decide))).trans hv64363
        have v64365 := (h1v64377 _ _ (Or.inr (by decide))).trans v64365
        have hv64367 := (h1v64377 _ _ (Or.inl (tne gx0 g0 (by decide)))).trans hv64367
        have v64369 := (h1v64377 _ _ (Or.inr (by decide))).trans v64369
        have v64376 := (h1v64377 _ _ (Or.inr (by decide))).trans v64376
        have hfr : ∀ b j : Nat, (tag b ≠ 18 ∨ j ≠ 0) → (tag b ≠ 18 ∨ j ≠ 1) → (tag b ≠ 18 ∨ j ≠ 2) → (tag b ≠ 18 ∨ j ≠ 3) → (tag b ≠ 18 ∨ j ≠ 4) → (tag b ≠ 18 ∨ j ≠ 5) → (tag b ≠ 18 ∨ j ≠ 6) → (tag b ≠ 18 ∨ j ≠ 8) → (tag b ≠ 18 ∨ j ≠ 10) → (tag b ≠ 18 ∨ j ≠ 14) → (tag b ≠ 18 ∨ j ≠ 16) → (tag b ≠ 19 ∨ j ≠ 0) → (tag b ≠ 19 ∨ j ≠ 1) → (tag b ≠ 23 ∨ j ≠ 3) → (tag b ≠ 23 ∨ j ≠ 4) → (tag b ≠ 24 ∨ j ≠ 0) → (tag b ≠ 24 ∨ j ≠ 1) → (tag b ≠ 24 ∨ j ≠ 2) → (tag b ≠ 24 ∨ j ≠ 3) → (tag b ≠ 24 ∨ j ≠ 4) → (tag b ≠ 24 ∨ j ≠ 5) → (tag b ≠ 24 ∨ j ≠ 6) → (tag b ≠ 24 ∨ j ≠ 7) → (tag b ≠ 25 ∨ j ≠ 1) → (tag b ≠ 25 ∨ j ≠ 2) → (tag b ≠ 25 ∨ j ≠ 3) → (tag b ≠ 25 ∨ j ≠ 4) → (tag b ≠ 25 ∨ j ≠ 5) → (tag b ≠ 25 ∨ j ≠ 6) → (tag b ≠ 25 ∨ j ≠ 7) → (tag b ≠ 25 ∨ j ≠ 8) → (tag b ≠ 25 ∨ j ≠ 12) → (tag b ≠ 26 ∨ j ≠ 1) → (tag b ≠ 26 ∨ j ≠ 2) → (tag b ≠ 26 ∨ j ≠ 3) → (tag b ≠ 26 ∨ j ≠ 4) → (tag b ≠ 26 ∨ j ≠ 13) → (tag b ≠ 26 ∨ j ≠ 14) → (tag b ≠ 26 ∨ j ≠ 15) → fld F b j = fld Fo b j := fun b j n18_0 n18_1 n18_2 n18_3 n18_4 n18_5 n18_6 n18_8 n18_10 n18_14 n18_16 n19_0 n19_1 n23_3 n23_4 n24_0 n24_1 n24_2 n24_3 n24_4 n24_5 n24_6 n24_7 n25_1 n25_2 n25_3 n25_4 n25_5 n25_6 n25_7 n25_8 n25_12 n26_1 n26_2 n26_3 n26_4 n26_13 n26_14 n26_15 => (h1v64377 b j (fr_ne g0 n26_4)).trans (hfr b j n18_0 n18_1 n18_2 n18_3 n18_4 n18_5 n18_6 n18_8 n18_10 n18_14 n18_16 n19_0 n19_1 n23_3 n23_4 n24_0 n24_1 n24_2 n24_3 n24_4 n24_5 n24_6 n24_7 n25_1 n25_2 n25_3 n25_4 n25_5 n25_6 n25_7 n25_8 n25_12 n26_1 n26_2 n26_3 n26_4 n26_13 n26_14 n26_15)
        have hrel := nsr_of (fun j => h2v64377 _ j) (fun j => h2v64377 _ j) hrel
        refine lv_aload_n hx hb dX11_land_96 rfl (lv_at hl 1 rfl) ?_
        refine t_get (C := RX11) (T := TX11) (N := 16) X hT m0 g0 rfl rfl 5 (by decide) qw_23 inlX11 rfl dX11_land_97 (fun v64378 hv64378 ov64378 => ?_)
        obtain ⟨b64379, rfl, mb64379, gb64379⟩ := okV_r ov64378
        have gb64379 : tag b64379 = 19 := tg_of gb64379
        refine lv_aload_n hx hb dX11_land_100 rfl (lv_at hl 1 rfl) ?_
        refine t_get (C := RX11) (T := TX11) (N := 16) X hT m0 g0 rfl rfl 6 (by decide) qw_24 inlX11 rfl dX11_land_101 (fun v64380 hv64380 ov64380 => ?_)
        obtain rfl : v64380 = .ref b64360 := hv64380.symm.trans hv64359
        refine t_cVv (n := 1) (C := RX7) (T := TX7) (N := 7) (As := [.ref b64360]) (rest := []) X hT (kt49_X7_copyFrom l G tag L F hT.2.2.2 b64379 b64360 mb64379 gb64379 mb64360 gb64360) mb64379 gb64379 rfl rfl qw_449 qw_450 qw_451 qw_22 qw_452 ⟨rfl, by decide +kernel, by decide +kernel, by decide +kernel⟩ ⟨Nat.le_of_ble_eq_true rfl, Nat.le_of_ble_eq_true rfl⟩ hl rfl rfl (Nat.le_of_ble_eq_true rfl) dX11_land_104 ⟨Nat.le_of_ble_eq_true rfl, Nat.le_of_ble_eq_true rfl⟩ (fun F H locs hT hz64381 => ?_)
        have yz64381 := hz64381
        have pf0 := (yz64381.1 _ 8 (Or.inr (by decide)) (Or.inr (by decide))).trans pf0
        have pf1 := (yz64381.1 _ 10 (Or.inr (by decide)) (Or.inr (by decide))).trans pf1
        have pf2 := (yz64381.1 _ 11 (Or.inr (by decide)) (Or.inr (by decide))).trans pf2
        have v64353 := (yz64381.1 _ 1 (Or.inr (by decide)) (Or.inl (by rw [g0]; decide))).trans v64353
        have hv64355 := (yz64381.1 _ 0 (Or.inl (by rw [g0]; decide)) (Or.inr (by decide))).trans hv64355
        have hv64359 := (yz64381.1 _ 6 (Or.inr (by decide)) (Or.inr (by decide))).trans hv64359
        have hv64363 := (yz64381.1 _ 3 (Or.inr (by decide)) (Or.inr (by decide))).trans hv64363
        have v64365 := (yz64381.1 _ 14 (Or.inr (by decide)) (Or.inr (by decide))).trans v64365
        have hv64367 := (yz64381.1 _ 4 (Or.inr (by decide)) (Or.inr (by decide))).trans hv64367
        have v64369 := (yz64381.1 _ 15 (Or.inr (by decide)) (Or.inr (by decide))).trans v64369
        have v64376 := (yz64381.1 _ 3 (Or.inr (by decide)) (Or.inr (by decide))).trans v64376
        have v64377 := (yz64381.1 _ 4 (Or.inr (by decide)) (Or.inr (by decide))).trans v64377
        have hv64378 := (yz64381.1 _ 5 (Or.inr (by decide)) (Or.inr (by decide))).trans hv64378
        have hfr : ∀ b j : Nat, (tag b ≠ 18 ∨ j ≠ 0) → (tag b ≠ 18 ∨ j ≠ 1) → (tag b ≠ 18 ∨ j ≠ 2) → (tag b ≠ 18 ∨ j ≠ 3) → (tag b ≠ 18 ∨ j ≠ 4) → (tag b ≠ 18 ∨ j ≠ 5) → (tag b ≠ 18 ∨ j ≠ 6) → (tag b ≠ 18 ∨ j ≠ 8) → (tag b ≠ 18 ∨ j ≠ 10) → (tag b ≠ 18 ∨ j ≠ 14) → (tag b ≠ 18 ∨ j ≠ 16) → (tag b ≠ 19 ∨ j ≠ 0) → (tag b ≠ 19 ∨ j ≠ 1) → (tag b ≠ 23 ∨ j ≠ 3) → (tag b ≠ 23 ∨ j ≠ 4) → (tag b ≠ 24 ∨ j ≠ 0) → (tag b ≠ 24 ∨ j ≠ 1) → (tag b ≠ 24 ∨ j ≠ 2) → (tag b ≠ 24 ∨ j ≠ 3) → (tag b ≠ 24 ∨ j ≠ 4) → (tag b ≠ 24 ∨ j ≠ 5) → (tag b ≠ 24 ∨ j ≠ 6) → (tag b ≠ 24 ∨ j ≠ 7) → (tag b ≠ 25 ∨ j ≠ 1) → (tag b ≠ 25 ∨ j ≠ 2) → (tag b ≠ 25 ∨ j ≠ 3) → (tag b ≠ 25 ∨ j ≠ 4) → (tag b ≠ 25 ∨ j ≠ 5) → (tag b ≠ 25 ∨ j ≠ 6) → (tag b ≠ 25 ∨ j ≠ 7) → (tag b ≠ 25 ∨ j ≠ 8) → (tag b ≠ 25 ∨ j ≠ 12) → (tag b ≠ 26 ∨ j ≠ 1) → (tag b ≠ 26 ∨ j ≠ 2) → (tag b ≠ 26 ∨ j ≠ 3) → (tag b ≠ 26 ∨ j ≠ 4) → (tag b ≠ 26 ∨ j ≠ 13) → (tag b ≠ 26 ∨ j ≠ 14) → (tag b ≠ 26 ∨ j ≠ 15) → fld F b j = fld Fo b j := fun b j n18_0 n18_1 n18_2 n18_3 n18_4 n18_5 n18_6 n18_8 n18_10 n18_14 n18_16 n19_0 n19_1 n23_3 n23_4 n24_0 n24_1 n24_2 n24_3 n24_4 n24_5 n24_6 n24_7 n25_1 n25_2 n25_3 n25_4 n25_5 n25_6 n25_7 n25_8 n25_12 n26_1 n26_2 n26_3 n26_4 n26_13 n26_14 n26_15 => (yz64381.1 b j n19_0 n19_1).trans (hfr b j n18_0 n18_1 n18_2 n18_3 n18_4 n18_5 n18_6 n18_8 n18_10 n18_14 n18_16 n19_0 n19_1 n23_3 n23_4 n24_0 n24_1 n24_2 n24_3 n24_4 n24_5 n24_6 n24_7 n25_1 n25_2 n25_3 n25_4 n25_5 n25_6 n25_7 n25_8 n25_12 n26_1 n26_2 n26_3 n26_4 n26_13 n26_14 n26_15)
        have hrel := nsr_of (fun j => yz64381.2 _ j (Or.inl gx1)) (fun j => yz64381.2 _ j (Or.inr gx2)) hrel
        refine lv_aload_n hx hb dX11_land_107 rfl (lv_at hl 1 rfl) ?_
        refine t_get (C := RX11) (T := TX11) (N := 16) X hT m0 g0 rfl rfl 12 (by decide) qw_45 inlX11 rfl dX11_land_108 (fun v64382 hv64382 ov64382 => ?_)
        obtain ⟨b64383, rfl, mb64383, gb64383⟩ := okV_r ov64382
        have gb64383 : tag b64383 = 23 := tg_of gb64383
        refine t_cVv (n := 0) (C := RX2) (T := TX2) (N := 5) (As := []) (rest := []) X hT (kt149_X2_forget l G tag L F hT.2.2.2 b64383 mb64383 gb64383) mb64383 gb64383 rfl rfl qw_457 qw_458 qw_459 qw_44 qw_460 ⟨rfl, by decide +kernel, by decide +kernel, by decide +kernel⟩ ⟨Nat.le_of_ble_eq_true rfl, Nat.le_of_ble_eq_true rfl⟩ hl rfl rfl (Nat.le_of_ble_eq_true rfl) dX11_land_111 ⟨Nat.le_of_ble_eq_true rfl, Nat.le_of_ble_eq_true rfl⟩ (fun F H locs hT hz64384 => ?_)
        have yz64384 := hz64384
        have pf0 := (yz64384.1 _ 8 (Or.inr (by decide)) (Or.inr (by decide))).trans pf0
        have pf1 := (yz64384.1 _ 10 (Or.inr (by decide)) (Or.inr (by decide))).trans pf1
        have pf2 := (yz64384.1 _ 11 (Or.inr (by decide)) (Or.inr (by decide))).trans pf2
        have v64353 := (yz64384.1 _ 1 (Or.inr (by decide)) (Or.inr (by decide))).trans v64353
        have hv64355 := (yz64384.1 _ 0 (Or.inr (by decide)) (Or.inr (by decide))).trans hv64355
        have hv64359 := (yz64384.1 _ 6 (Or.inr (by decide)) (Or.inr (by decide))).trans hv64359
        have hv64363 := (yz64384.1 _ 3 (Or.inl (by rw [gx0]; decide)) (Or.inr (by decide))).trans hv64363
        have v64365 := (yz64384.1 _ 14 (Or.inr (by decide)) (Or.inr (by decide))).trans v64365
        have hv64367 := (yz64384.1 _ 4 (Or.inr (by decide)) (Or.inl (by rw [gx0]; decide))).trans hv64367
        have v64369 := (yz64384.1 _ 15 (Or.inr (by decide)) (Or.inr (by decide))).trans v64369
        have v64376 := (yz64384.1 _ 3 (Or.inl (by rw [g0]; decide)) (Or.inr (by decide))).trans v64376
        have v64377 := (yz64384.1 _ 4 (Or.inr (by decide)) (Or.inl (by rw [g0]; decide))).trans v64377
        have hv64378 := (yz64384.1 _ 5 (Or.inr (by decide)) (Or.inr (by decide))).trans hv64378
        have hv64382 := (yz64384.1 _ 12 (Or.inr (by decide)) (Or.inr (by decide))).trans hv64382
        have hfr : ∀ b j : Nat, (tag b ≠ 18 ∨ j ≠ 0) → (tag b ≠ 18 ∨ j ≠ 1) → (tag b ≠ 18 ∨ j ≠ 2) → (tag b ≠ 18 ∨ j ≠ 3) → (tag b ≠ 18 ∨ j ≠ 4) → (tag b ≠ 18 ∨ j ≠ 5) → (tag b ≠ 18 ∨ j ≠ 6) → (tag b ≠ 18 ∨ j ≠ 8) → (tag b ≠ 18 ∨ j ≠ 10) → (tag b ≠ 18 ∨ j ≠ 14) → (tag b ≠ 18 ∨ j ≠ 16) → (tag b ≠ 19 ∨ j ≠ 0) → (tag b ≠ 19 ∨ j ≠ 1) → (tag b ≠ 23 ∨ j ≠ 3) → (tag b ≠ 23 ∨ j ≠ 4) → (tag b ≠ 24 ∨ j ≠ 0) → (tag b ≠ 24 ∨ j ≠ 1) → (tag b ≠ 24 ∨ j ≠ 2) → (tag b ≠ 24 ∨ j ≠ 3) → (tag b ≠ 24 ∨ j ≠ 4) → (tag b ≠ 24 ∨ j ≠ 5) → (tag b ≠ 24 ∨ j ≠ 6) → (tag b ≠ 24 ∨ j ≠ 7) → (tag b ≠ 25 ∨ j ≠ 1) → (tag b ≠ 25 ∨ j ≠ 2) → (tag b ≠ 25 ∨ j ≠ 3) → (tag b ≠ 25 ∨ j ≠ 4) → (tag b ≠ 25 ∨ j ≠ 5) → (tag b ≠ 25 ∨ j ≠ 6) → (tag b ≠ 25 ∨ j ≠ 7) → (tag b ≠ 25 ∨ j ≠ 8) → (tag b ≠ 25 ∨ j ≠ 12) → (tag b ≠ 26 ∨ j ≠ 1) → (tag b ≠ 26 ∨ j ≠ 2) → (tag b ≠ 26 ∨ j ≠ 3) → (tag b ≠ 26 ∨ j ≠ 4) → (tag b ≠ 26 ∨ j ≠ 13) → (tag b ≠ 26 ∨ j ≠ 14) → (tag b ≠ 26 ∨ j ≠ 15) → fld F b j = fld Fo b j := fun b j n18_0 n18_1 n18_2 n18_3 n18_4 n18_5 n18_6 n18_8 n18_10 n18_14 n18_16 n19_0 n19_1 n23_3 n23_4 n24_0 n24_1 n24_2 n24_3 n24_4 n24_5 n24_6 n24_7 n25_1 n25_2 n25_3 n25_4 n25_5 n25_6 n25_7 n25_8 n25_12 n26_1 n26_2 n26_3 n26_4 n26_13 n26_14 n26_15 => (yz64384.1 b j n23_3 n23_4).trans (hfr b j n18_0 n18_1 n18_2 n18_3 n18_4 n18_5 n18_6 n18_8 n18_10 n18_14 n18_16 n19_0 n19_1 n23_3 n23_4 n24_0 n24_1 n24_2 n24_3 n24_4 n24_5 n24_6 n24_7 n25_1 n25_2 n25_3 n25_4 n25_5 n25_6 n25_7 n25_8 n25_12 n26_1 n26_2 n26_3 n26_4 n26_13 n26_14 n26_15)
        have hrel := nsr_of (fun j => yz64384.2 _ j (Or.inl gx1)) (fun j => yz64384.2 _ j (Or.inr gx2)) hrel
        refine lv_aload_n hx hb dX11_land_114 rfl (lv_at hl 1 rfl) ?_
        refine lv_iconst (v := 1) hx hb dX11_land_115 (by decide) ?_
        refine t_put (C := RX11) (T := TX11) (N := 16) (v := .int 1) X hT m0 g0 rfl tyX11 tyX11_ok nmX11 rfl 2 (by decide) qw_150 inlX11 rfl (by first | rfl | decide) (by first | rfl | decide) rfl (⟨_, rfl, (show 0 ≤ (1 : Int32).toInt from (by decide)), (show (1 : Int32).toInt ≤ 1 from (by decide))⟩) dX11_land_116 (fun F H locs hT v64385 h1v64385 h2v64385 => ?_)
        have pf0 := (h1v64385 _ _ (Or.inr (by decide))).trans pf0
        have pf1 := (h1v64385 _ _ (Or.inr (by decide))).trans pf1
        have pf2 := (h1v64385 _ _ (Or.inr (by decide))).trans pf2
        have v64353 := (h1v64385 _ _ (Or.inr (by decide))).trans v64353
        have hv64355 := (h1v64385 _ _ (Or.inr (by decide))).trans hv64355
        have hv64359 := (h1v64385 _ _ (Or.inr (by decide))).trans hv64359
        have hv64363 := (h1v64385 _ _ (Or.inr (by decide))).trans hv64363
        have v64365 := (h1v64385 _ _ (Or.inr (by decide))).trans v64365
        have hv64367 := (h1v64385 _ _ (Or.inr (by decide))).trans hv64367
        have v64369 := (h1v64385 _ _ (Or.inr (by decide))).trans v64369
        have v64376 := (h1v64385 _ _ (Or.inr (by decide))).trans v64376
        have v64377 := (h1v64385 _ _ (Or.inr (by decide))).trans v64377
        have hv64378 := (h1v64385 _ _ (Or.inr (by decide))).trans hv64378
        have hv64382 := (h1v64385 _ _ (Or.inr (by decide))).trans hv64382
        have hfr : ∀ b j : Nat, (tag b ≠ 18 ∨ j ≠ 0) → (tag b ≠ 18 ∨ j ≠ 1) → (tag b ≠ 18 ∨ j ≠ 2) → (tag b ≠ 18 ∨ j ≠ 3) → (tag b ≠ 18 ∨ j ≠ 4) → (tag b ≠ 18 ∨ j ≠ 5) → (tag b ≠ 18 ∨ j ≠ 6) → (tag b ≠ 18 ∨ j ≠ 8) → (tag b ≠ 18 ∨ j ≠ 10) → (tag b ≠ 18 ∨ j ≠ 14) → (tag b ≠ 18 ∨ j ≠ 16) → (tag b ≠ 19 ∨ j ≠ 0) → (tag b ≠ 19 ∨ j ≠ 1) → (tag b ≠ 23 ∨ j ≠ 3) → (tag b ≠ 23 ∨ j ≠ 4) → (tag b ≠ 24 ∨ j ≠ 0) → (tag b ≠ 24 ∨ j ≠ 1) → (tag b ≠ 24 ∨ j ≠ 2) → (tag b ≠ 24 ∨ j ≠ 3) → (tag b ≠ 24 ∨ j ≠ 4) → (tag b ≠ 24 ∨ j ≠ 5) → (tag b ≠ 24 ∨ j ≠ 6) → (tag b ≠ 24 ∨ j ≠ 7) → (tag b ≠ 25 ∨ j ≠ 1) → (tag b ≠ 25 ∨ j ≠ 2) → (tag b ≠ 25 ∨ j ≠ 3) → (tag b ≠ 25 ∨ j ≠ 4) → (tag b ≠ 25 ∨ j ≠ 5) → (tag b ≠ 25 ∨ j ≠ 6) → (tag b ≠ 25 ∨ j ≠ 7) → (tag b ≠ 25 ∨ j ≠ 8) → (tag b ≠ 25 ∨ j ≠ 12) → (tag b ≠ 26 ∨ j ≠ 1) → (tag b ≠ 26 ∨ j ≠ 2) → (tag b ≠ 26 ∨ j ≠ 3) → (tag b ≠ 26 ∨ j ≠ 4) → (tag b ≠ 26 ∨ j ≠ 13) → (tag b ≠ 26 ∨ j ≠ 14) → (tag b ≠ 26 ∨ j ≠ 15) → fld F b j = fld Fo b j := fun b j n18_0 n18_1 n18_2 n18_3 n18_4 n18_5 n18_6 n18_8 n18_10 n18_14 n18_16 n19_0 n19_1 n23_3 n23_4 n24_0 n24_1 n24_2 n24_3 n24_4 n24_5 n24_6 n24_7 n25_1 n25_2 n25_3 n25_4 n25_5 n25_6 n25_7 n25_8 n25_12 n26_1 n26_2 n26_3 n26_4 n26_13 n26_14 n26_15 => (h1v64385 b j (fr_ne g0 n26_2)).trans (hfr b j n18_0 n18_1 n18_2 n18_3 n18_4 n18_5 n18_6 n18_8 n18_10 n18_14 n18_16 n19_0 n19_1 n23_3 n23_4 n24_0 n24_1 n24_2 n24_3 n24_4 n24_5 n24_6 n24_7 n25_1 n25_2 n25_3 n25_4 n25_5 n25_6 n25_7 n25_8 n25_12 n26_1 n26_2 n26_3 n26_4 n26_13 n26_14 n26_15)
        have hrel := nsr_of (fun j => h2v64385 _ j) (fun j => h2v64385 _ j) hrel
        refine lv_aload_n hx hb dX11_land_119 rfl (lv_at hl 1 rfl) ?_
        refine lv_aload_n hx hb dX11_land_120 rfl (lv_at hl 1 rfl) ?_
        refine t_get (C := RX11) (T := TX11) (N := 16) X hT m0 g0 rfl rfl 3 (by decide) qw_18 inlX11 rfl dX11_land_121 (fun v64386 hv64386 ov64386 => ?_)
        obtain rfl : v64386 = .ref b64358 := hv64386.symm.trans v64376
        refine t_get (C := RX1) (T := TX1) (N := 20) X hT mb64358 gb64358 rfl rfl 10 (by decide) qw_151 inlX1 rfl dX11_land_124 (fun v64387 hv64387 ov64387 => ?_)
        obtain ⟨z64388, rfl, rz64388⟩ := okV_i ov64387
        refine t_cVi (n := 1) (C := RX11) (T := TX11) (N := 16) (As := [.int z64388]) (rest := []) X hT (kt56_X11_answer l G tag L F hT.2.2.2 p0 z64388 m0 g0) m0 g0 rfl rfl qw_463 qw_464 qw_465 qw_2 qw_466 ⟨rfl, by decide +kernel, by decide +kernel, by decide +kernel⟩ ⟨Nat.le_of_ble_eq_true rfl, Nat.le_of_ble_eq_true rfl⟩ hl rfl rfl (Nat.le_of_ble_eq_true rfl) dX11_land_127 ⟨Nat.le_of_ble_eq_true rfl, Nat.le_of_ble_eq_true rfl⟩ (fun z64389 F H locs hT hz64389 => ?_)
        obtain ⟨hz64389, yz64389⟩ := hz64389
        have pf0 := (yz64389.1 _ 8 (Or.inr (by decide))).trans pf0
        have pf1 := (yz64389.1 _ 10 (Or.inr (by decide))).trans pf1
        have pf2 := (yz64389.1 _ 11 (Or.inr (by decide))).trans pf2
        have v64353 := (yz64389.1 _ 1 (Or.inr (by decide))).trans v64353
        have hv64355 := (yz64389.1 _ 0 (Or.inr (by decide))).trans hv64355
        have hv64359 := (yz64389.1 _ 6 (Or.inr (by decide))).trans hv64359
        have hv64363 := (yz64389.1 _ 3 (Or.inr (by decide))).trans hv64363
        have v64365 := (yz64389.1 _ 14 (Or.inr (by decide))).trans v64365
        have hv64367 := (yz64389.1 _ 4 (Or.inr (by decide))).trans hv64367
        have v64369 := (yz64389.1 _ 15 (Or.inr (by decide))).trans v64369
        have v64376 := (yz64389.1 _ 3 (Or.inr (by decide))).trans v64376
        have v64377 := (yz64389.1 _ 4 (Or.inr (by decide))).trans v64377
        have hv64378 := (yz64389.1 _ 5 (Or.inr (by decide))).trans hv64378
        have hv64382 := (yz64389.1 _ 12 (Or.inr (by decide))).trans hv64382
        have v64385 := (yz64389.1 _ 2 (Or.inr (by decide))).trans v64385
        have hv64387 := (yz64389.1 _ 10 (Or.inr (by decide))).trans hv64387
        have hfr : ∀ b j : Nat, (tag b ≠ 18 ∨ j ≠ 0) → (tag b ≠ 18 ∨ j ≠ 1) → (tag b ≠ 18 ∨ j ≠ 2) → (tag b ≠ 18 ∨ j ≠ 3) → (tag b ≠ 18 ∨ j ≠ 4) → (tag b ≠ 18 ∨ j ≠ 5) → (tag b ≠ 18 ∨ j ≠ 6) → (tag b ≠ 18 ∨ j ≠ 8) → (tag b ≠ 18 ∨ j ≠ 10) → (tag b ≠ 18 ∨ j ≠ 14) → (tag b ≠ 18 ∨ j ≠ 16) → (tag b ≠ 19 ∨ j ≠ 0) → (tag b ≠ 19 ∨ j ≠ 1) → (tag b ≠ 23 ∨ j ≠ 3) → (tag b ≠ 23 ∨ j ≠ 4) → (tag b ≠ 24 ∨ j ≠ 0) → (tag b ≠ 24 ∨ j ≠ 1) → (tag b ≠ 24 ∨ j ≠ 2) → (tag b ≠ 24 ∨ j ≠ 3) → (tag b ≠ 24 ∨ j ≠ 4) → (tag b ≠ 24 ∨ j ≠ 5) → (tag b ≠ 24 ∨ j ≠ 6) → (tag b ≠ 24 ∨ j ≠ 7) → (tag b ≠ 25 ∨ j ≠ 1) → (tag b ≠ 25 ∨ j ≠ 2) → (tag b ≠ 25 ∨ j ≠ 3) → (tag b ≠ 25 ∨ j ≠ 4) → (tag b ≠ 25 ∨ j ≠ 5) → (tag b ≠ 25 ∨ j ≠ 6) → (tag b ≠ 25 ∨ j ≠ 7) → (tag b ≠ 25 ∨ j ≠ 8) → (tag b ≠ 25 ∨ j ≠ 12) → (tag b ≠ 26 ∨ j ≠ 1) → (tag b ≠ 26 ∨ j ≠ 2) → (tag b ≠ 26 ∨ j ≠ 3) → (tag b ≠ 26 ∨ j ≠ 4) → (tag b ≠ 26 ∨ j ≠ 13) → (tag b ≠ 26 ∨ j ≠ 14) → (tag b ≠ 26 ∨ j ≠ 15) → fld F b j = fld Fo b j := fun b j n18_0 n18_1 n18_2 n18_3 n18_4 n18_5 n18_6 n18_8 n18_10 n18_14 n18_16 n19_0 n19_1 n23_3 n23_4 n24_0 n24_1 n24_2 n24_3 n24_4 n24_5 n24_6 n24_7 n25_1 n25_2 n25_3 n25_4 n25_5 n25_6 n25_7 n25_8 n25_12 n26_1 n26_2 n26_3 n26_4 n26_13 n26_14 n26_15 => (yz64389.1 b j n26_13).trans (hfr b j n18_0 n18_1 n18_2 n18_3 n18_4 n18_5 n18_6 n18_8 n18_10 n18_14 n18_16 n19_0 n19_1 n23_3 n23_4 n24_0 n24_1 n24_2 n24_3 n24_4 n24_5 n24_6 n24_7 n25_1 n25_2 n25_3 n25_4 n25_5 n25_6 n25_7 n25_8 n25_12 n26_1 n26_2 n26_3 n26_4 n26_13 n26_14 n26_15)
        have hrel := nsr_of (fun j => yz64389.2 _ j (Or.inl gx1)) (fun j => yz64389.2 _ j (Or.inr gx2)) hrel
        exact t_iret hQ X hT (⟨rg_all _, hfr, hrel⟩) (Nat.le_of_ble_eq_true rfl) (Nat.le_of_ble_eq_true rfl) dX11_land_130
      · have w64390 := cv_ne (rfl : z64364.toInt = z64364.toInt) (by decide : (0 : Int32).toInt = 0) c64371
        refine lv_aload_n hx hb dX11_land_72 rfl (lv_at hl 0 rfl) ?_
        refine lv_iconst (v := 4) hx hb dX11_land_73 (by decide) ?_
        refine t_cVi (n := 1) (C := RX11) (T := TX11) (N := 16) (As := [.int 4]) (rest := []) X hT (kt63_X11_refuse l G tag L F hT.2.2.2 p0 4 m0 g0) m0 g0 rfl rfl qw_152 qw_153 qw_154 qw_2 qw_155 ⟨rfl, by decide +kernel, by decide +kernel, by decide +kernel⟩ ⟨Nat.le_of_ble_eq_true rfl, Nat.le_of_ble_eq_true rfl⟩ hl rfl rfl (Nat.le_of_ble_eq_true rfl) dX11_land_74 ⟨Nat.le_of_ble_eq_true rfl, Nat.le_of_ble_eq_true rfl⟩ (fun z64391 F H locs hT hz64391 => ?_)
        obtain ⟨hz64391, yz64391⟩ := hz64391
        have pf0 := (yz64391.1 _ 8 (Or.inr (by decide))).trans pf0
        have pf1 := (yz64391.1 _ 10 (Or.inr (by decide))).trans pf1
        have pf2 := (yz64391.1 _ 11 (Or.inr (by decide))).trans pf2
        have v64353 := (yz64391.1 _ 1 (Or.inr (by decide))).trans v64353
        have hv64355 := (yz64391.1 _ 0 (Or.inr (by decide))).trans hv64355
        have hv64357 := (yz64391.1 _ 4 (Or.inr (by decide))).trans hv64357
        have hv64359 := (yz64391.1 _ 6 (Or.inr (by decide))).trans hv64359
        have hv64363 := (yz64391.1 _ 3 (Or.inr (by decide))).trans hv64363
        have v64365 := (yz64391.1 _ 14 (Or.inr (by decide))).trans v64365
        have hv64367 := (yz64391.1 _ 4 (Or.inr (by decide))).trans hv64367
        have v64369 := (yz64391.1 _ 15 (Or.inr (by decide))).trans v64369
        have hfr : ∀ b j : Nat, (tag b ≠ 18 ∨ j ≠ 0) → (tag b ≠ 18 ∨ j ≠ 1) → (tag b ≠ 18 ∨ j ≠ 2) → (tag b ≠ 18 ∨ j ≠ 3) → (tag b ≠ 18 ∨ j ≠ 4) → (tag b ≠ 18 ∨ j ≠ 5) → (tag b ≠ 18 ∨ j ≠ 6) → (tag b ≠ 18 ∨ j ≠ 8) → (tag b ≠ 18 ∨ j ≠ 10) → (tag b ≠ 18 ∨ j ≠ 14) → (tag b ≠ 18 ∨ j ≠ 16) → (tag b ≠ 19 ∨ j ≠ 0) → (tag b ≠ 19 ∨ j ≠ 1) → (tag b ≠ 23 ∨ j ≠ 3) → (tag b ≠ 23 ∨ j ≠ 4) → (tag b ≠ 24 ∨ j ≠ 0) → (tag b ≠ 24 ∨ j ≠ 1) → (tag b ≠ 24 ∨ j ≠ 2) → (tag b ≠ 24 ∨ j ≠ 3) → (tag b ≠ 24 ∨ j ≠ 4) → (tag b ≠ 24 ∨ j ≠ 5) → (tag b ≠ 24 ∨ j ≠ 6) → (tag b ≠ 24 ∨ j ≠ 7) → (tag b ≠ 25 ∨ j ≠ 1) → (tag b ≠ 25 ∨ j ≠ 2) → (tag b ≠ 25 ∨ j ≠ 3) → (tag b ≠ 25 ∨ j ≠ 4) → (tag b ≠ 25 ∨ j ≠ 5) → (tag b ≠ 25 ∨ j ≠ 6) → (tag b ≠ 25 ∨ j ≠ 7) → (tag b ≠ 25 ∨ j ≠ 8) → (tag b ≠ 25 ∨ j ≠ 12) → (tag b ≠ 26 ∨ j ≠ 1) → (tag b ≠ 26 ∨ j ≠ 2) → (tag b ≠ 26 ∨ j ≠ 3) → (tag b ≠ 26 ∨ j ≠ 4) → (tag b ≠ 26 ∨ j ≠ 13) → (tag b ≠ 26 ∨ j ≠ 14) → (tag b ≠ 26 ∨ j ≠ 15) → fld F b j = fld Fo b j := fun b j n18_0 n18_1 n18_2 n18_3 n18_4 n18_5 n18_6 n18_8 n18_10 n18_14 n18_16 n19_0 n19_1 n23_3 n23_4 n24_0 n24_1 n24_2 n24_3 n24_4 n24_5 n24_6 n24_7 n25_1 n25_2 n25_3 n25_4 n25_5 n25_6 n25_7 n25_8 n25_12 n26_1 n26_2 n26_3 n26_4 n26_13 n26_14 n26_15 => (yz64391.1 b j n26_13).trans (hfr b j n18_0 n18_1 n18_2 n18_3 n18_4 n18_5 n18_6 n18_8 n18_10 n18_14 n18_16 n19_0 n19_1 n23_3 n23_4 n24_0 n24_1 n24_2 n24_3 n24_4 n24_5 n24_6 n24_7 n25_1 n25_2 n25_3 n25_4 n25_5 n25_6 n25_7 n25_8 n25_12 n26_1 n26_2 n26_3 n26_4 n26_13 n26_14 n26_15)
        have hrel := nsr_of (fun j => yz64391.2 _ j (Or.inl gx1)) (fun j => yz64391.2 _ j (Or.inr gx2)) hrel
        exact t_iret hQ X hT (⟨rg_all _, hfr, hrel⟩) (Nat.le_of_ble_eq_true rfl) (Nat.le_of_ble_eq_true rfl) dX11_land_77
    · have w64392 := cv_nle (rfl : p1.toInt = p1.toInt) (rfl : z64350.toInt = z64350.toInt) c64351
      exact K12  _ _ _ _  hT hfr hrel pf0 pf1 pf2 (lv_sub hl [0, 1] rfl)
set_option maxHeartbeats 4000000 in
set_option maxRecDepth 100000 in
theorem kt151_X5_begin (l : Launch) (G : KG) (tag : Nat → Nat) (L : List Nat) (Fo : Nat → va_E) (ho : okT G ttC tag L Fo) (p0 : Nat) (p1 : Int32) (m0 : p0 ∈ L) (g0 : tag p0 = 11) (h1 : 0 ≤ p1.toInt ∧ p1.toInt ≤ 6) : TMv l yX5_begin cX5_begin 3 { frames := 0, cells := 0, slots := 0, locals := 0 } G ttC tag L Fo [.ref p0, .int p1] (fun F1 => ((∀ b j : Nat, fld F1 b j = fld Fo b j) ∧ EF tag F1 Fo)) := by
  refine t_bodyv (y := yX5_begin) (cd := cX5_begin) (mL := 3) (rm := { frames := 0, cells := 0, slots := 0, locals := 0 }) (av := [.ref p0, .int p1]) (by decide) (Nat.le_of_ble_eq_true rfl) ho ?_
  intro p e s m args below meth c ls A Q hQ X hT hl
  have hx := X.1.1
  have hb := X.1.2.1
  have hl : lv_has ls 3 [(0, .ref p0), (1, .int p1)] := hl
  obtain ⟨F, hFo⟩ : ∃ F : Nat → va_E, F = Fo := ⟨_, rfl⟩
  rw [← hFo] at hT
  have hfr : (∀ b j : Nat, fld F b j = fld Fo b j) ∧ EF tag F Fo := by
    rw [hFo]
    exact ⟨by intros; rfl, fun _ _ _ => rfl⟩
  have K2 : ∀ (n : Nat) (z64674 : Int32) (F : Nat → va_E) (H : Heap) (locs : List Loc) (ls : Array Slot), (6 - z64674.toInt < (n : Int)) → (0 ≤ z64674.toInt ∧ z64674.toInt ≤ 6) → TH G ttC A s tag L F H locs → ((∀ b j : Nat, fld F b j = fld Fo b j) ∧ EF tag F Fo) → lv_has ls 3 [(0, .ref p0), (1, .int p1), (2, .int z64674)] → W p l e { frames := 0, cells := 0, slots := 0, locals := 0 } s m args below meth c H locs 0 0 Q (F0 m 2 ls []) := by
    intro n
    induction n with
    | zero =>
      intro z64674 F H locs ls hn rz64674 hT hfr hl
      exfalso
      omega
    | succ n ih2 =>
      intro z64674 F H locs ls hn rz64674 hT hfr hl
      refine lv_iload_n hx hb dX5_begin_2 rfl (lv_at hl 2 rfl) ?_
      refine lv_iload_n hx hb dX5_begin_3 rfl (lv_at hl 1 rfl) ?_
      refine lv_icmp_ge (tgt := 23) hx hb dX5_begin_4 (by decide) (fun c64675 => ?_) (fun c64675 => ?_)
      · have w64676 := cv_le (rfl : p1.toInt = p1.toInt) (rfl : z64674.toInt = z64674.toInt) c64675
        exact t_vret hQ X hT hfr (Nat.le_of_ble_eq_true rfl) (Nat.le_of_ble_eq_true rfl) dX5_begin_23
      · have w64677 := cv_nle (rfl : p1.toInt = p1.toInt) (rfl : z64674.toInt = z64674.toInt) c64675
        refine lv_iload_n hx hb dX5_begin_7 rfl (lv_at hl 2 rfl) ?_
        refine lv_aload_n hx hb dX5_begin_8 rfl (lv_at hl 0 rfl) ?_
        refine t_alen X hT m0 g0 rfl (by decide) dX5_begin_9 ?_
        refine lv_topi (fun z64678 ez64678 => ?_)
        obtain rfl : z64678 = 6 := ez64678.trans (by rfl)
        refine lv_icmp_ge (tgt := 23) hx hb dX5_begin_10 (by decide) (fun c64679 => ?_) (fun c64679 => ?_)
        · have w64680 := cv_le (by decide : (6 : Int32).toInt = 6) (rfl : z64674.toInt = z64674.toInt) c64679
          exfalso
          omega
        · have w64681 := cv_nle (by decide : (6 : Int32).toInt = 6) (rfl : z64674.toInt = z64674.toInt) c64679
          refine lv_aload_n hx hb dX5_begin_13 rfl (lv_at hl 0 rfl) ?_
          refine lv_iload_n hx hb dX5_begin_14 rfl (lv_at hl 2 rfl) ?_
          refine lv_iload_n hx hb dX5_begin_15 rfl (lv_at hl 2 rfl) ?_
          refine t_ist X hT m0 g0 rfl (by omega) (show 0 ≤ (z64674 : Int32).toInt ∧ (z64674 : Int32).toInt ≤ 5 from (by omega)) dX5_begin_16 (fun F H locs hT v64682 h1v64682 h2v64682 => ?_)
          have hfr : (∀ b j : Nat, fld F b j = fld Fo b j) ∧ EF tag F Fo := ⟨fun b j  => (h2v64682 b j).trans (hfr.1 b j ), fun b j hb => (h1v64682 b j (Or.inl (ns_ne hb g0 (by decide)))).trans (hfr.2 b j hb)⟩
          obtain ⟨z64683, ez64683⟩ : ∃ y : Int32, y = z64674 + 1 := ⟨_, rfl⟩
          have hz64683 : z64683.toInt = z64674.toInt + 1 := ar_add ez64683 rfl (by decide : (1 : Int32).toInt = 1) (by omega) (by omega)
          refine lv_iinc (v := z64683) (lv' := [(2, .int z64683), (0, .ref p0), (1, .int p1)]) hx hb dX5_begin_17 hl (k := 2) rfl (by rw [ez64683]; rfl) (by decide) rfl (fun ls hl => ?_)
          refine lv_goto (tgt := 2) hx hb dX5_begin_20 (by decide) ?_
          exact ih2 z64683 _ _ _ _ (by omega) (by omega) hT hfr  (lv_sub hl [1, 2, 0] rfl)
  refine lv_iconst (v := 0) hx hb dX5_begin_0 (by decide) ?_
  refine lv_istore_n (lv' := [(2, .int 0), (0, .ref p0), (1, .int p1)]) hx hb dX5_begin_1 rfl hl (by decide) rfl (fun ls hl => ?_)
  have kk64684 : (0 : Int32).toInt = 0 := by decide
  exact K2 7 0 _ _ _ _ (by omega) (by decide) hT hfr  (lv_sub hl [1, 2, 0] rfl)
set_option maxHeartbeats 4000000 in
set_option maxRecDepth 100000 in
theorem kt152_X9_lastFor (l : Launch) (G : KG) (tag : Nat → Nat) (L : List Nat) (F : Nat → va_E) (ho : okT G ttC tag L F) (p0 : Nat) (p1 : Int32) (p2 : Int32) (m0 : p0 ∈ L) (g0 : tag p0 = 18) (h2 : 0 ≤ p2.toInt ∧ p2.toInt ≤ 5) : TMi l yX9_lastFor cX9_lastFor 4 (some .int) { frames := 1, cells := 0, slots := 0, locals := 13 } G ttC tag L F [.ref p0, .int p1, .int p2] (fun r F1 => F1 = F ∧ ((-2147483648) ≤ r.toInt ∧ r.toInt ≤ 2147483647)) := by
  refine t_bodyi (y := yX9_lastFor) (cd := cX9_lastFor) (mL := 4) (rt := (some .int)) (rm := { frames := 1, cells := 0, slots := 0, locals := 13 }) (av := [.ref p0, .int p1, .int p2]) (by decide) (Nat.le_of_ble_eq_true rfl) ho ?_
  intro p e s m args below meth c ls A Q hQ X hT hl
  have hx := X.1.1
  have hb := X.1.2.1
  have hl : lv_has ls 4 [(0, .ref p0), (1, .int p1), (2, .int p2)] := hl
  have rp1 := rg_all p1
  refine lv_iload_n hx hb dX9_lastFor_0 rfl (lv_at hl 1 rfl) ?_
  refine lv_iconst (v := 1) hx hb dX9_lastFor_1 (by decide) ?_
  refine lv_isub hx hb dX9_lastFor_2 ?_
  refine lv_topi (fun z64866 ez64866 => ?_)
  have rz64866 := rg_all z64866
  refine lv_istore_n (lv' := [(3, .int z64866), (0, .ref p0), (1, .int p1), (2, .int p2)]) hx hb dX9_lastFor_3 rfl hl (by decide) rfl (fun ls hl => ?_)
  refine lv_aload_n hx hb dX9_lastFor_4 rfl (lv_at hl 1 rfl) ?_
  refine t_get (C := RX1) (T := TX1) (N := 20) X hT m0 g0 rfl rfl 19 (by decide) qw_1350 inlX1 rfl dX9_lastFor_5 (fun v64867 hv64867 ov64867 => ?_)
  obtain ⟨b64868, rfl, mb64868, gb64868⟩ := okV_r ov64867
  have gb64868 : tag b64868 = 7 := tg_of gb64868
  refine lv_iload_n hx hb dX9_lastFor_8 rfl (lv_at hl 3 rfl) ?_
  refine t_ild X hT mb64868 gb64868 rfl (by omega) dX9_lastFor_9 (fun z64869 vz64869 rz64869 => ?_)
  have rz64869 : (-2147483648) ≤ z64869.toInt ∧ z64869.toInt ≤ 2147483647 := rz64869
  refine lv_iconst (v := (-1)) hx hb dX9_lastFor_10 (by decide) ?_
  refine lv_icmp_ne (tgt := 18) hx hb dX9_lastFor_11 (by decide) (fun c64870 => ?_) (fun c64870 => ?_)
  · have w64871 := cv_ne (rfl : z64869.toInt = z64869.toInt) (by decide : ((-1) : Int32).toInt = (-1)) c64870
    refine lv_iload_n hx hb dX9_lastFor_18 rfl (lv_at hl 0 rfl) ?_
    refine lv_aload_n hx hb dX9_lastFor_19 rfl (lv_at hl 1 rfl) ?_
    refine t_get (C := RX1) (T := TX1) (N := 20) X hT m0 g0 rfl rfl 19 (by decide) qw_1350 inlX1 rfl dX9_lastFor_20 (fun v64872 hv64872 ov64872 => ?_)
    obtain rfl : v64872 = .ref b64868 := hv64872.symm.trans hv64867
    refine lv_iload_n hx hb dX9_lastFor_23 rfl (lv_at hl 3 rfl) ?_
    refine t_ild X hT mb64868 gb64868 rfl (by omega) dX9_lastFor_24 (fun z64873 vz64873 rz64873 => ?_)
    obtain rfl : z64869 = z64873 := vz64869.symm.trans vz64873
    refine lv_iconst (v := 1) hx hb dX9_lastFor_25 (by decide) ?_
    refine lv_isub hx hb dX9_lastFor_26 ?_
    refine lv_topi (fun z64874 ez64874 => ?_)
    have rz64874 := rg_all z64874
    refine t_mmin X hl qw_1351 qw_1018 qw_850 qw_1019 (Nat.le_of_ble_eq_true rfl) (Nat.le_of_ble_eq_true rfl) (Nat.le_of_ble_eq_true rfl) (Nat.le_of_ble_eq_true rfl) dX9_lastFor_27 (fun z64875 ez64875 => ?_)
    have hz64875 := mmin_e ez64875 (rfl : z64866.toInt = z64866.toInt) (rfl : z64874.toInt = z64874.toInt)
    exact t_iret hQ X hT (⟨rfl, rg_all _⟩) (Nat.le_of_ble_eq_true rfl) (Nat.le_of_ble_eq_true rfl) dX9_lastFor_30
  · have w64876 := cv_eq (rfl : z64869.toInt = z64869.toInt) (by decide : ((-1) : Int32).toInt = (-1)) c64870
    refine lv_iload_n hx hb dX9_lastFor_14 rfl (lv_at hl 0 rfl) ?_
    refine lv_goto (tgt := 30) hx hb dX9_lastFor_15 (by decide) ?_
    exact t_iret hQ X hT (⟨rfl, rg_all _⟩) (Nat.le_of_ble_eq_true rfl) (Nat.le_of_ble_eq_true rfl) dX9_lastFor_30
