set_option maxHeartbeats 4000000 in
set_option maxRecDepth 100000 in
theorem km81_X13_eatsSign (l : Launch) (G : KG) (tag : Nat → Nat) (L : List Nat) (Fo : Nat → va_E) (ho : okT G ttC tag L Fo) (p0 : Nat) (p1 : Int32) (x0 : Nat) (x1 : Nat) (x2 : Nat) (x3 : Int32) (x4 : Int32) (x5 : Int32) (m0 : p0 ∈ L) (g0 : tag p0 = 46) (mx0 : x0 ∈ L) (gx0 : tag x0 = 44) (pf0 : fld Fo p0 4 = .ref x0) (mx1 : x1 ∈ L) (gx1 : tag x1 = 35) (pf1 : fld Fo x0 28 = .ref x1) (mx2 : x2 ∈ L) (gx2 : tag x2 = 36) (pf2 : fld Fo x0 29 = .ref x2) (hx3 : 0 ≤ x3.toInt ∧ x3.toInt ≤ 5) (pf3 : fld Fo p0 9 = .int x3) (hx4 : 0 ≤ x4.toInt ∧ x4.toInt ≤ 1000) (pf4 : fld Fo p0 8 = .int x4) (hx5 : 0 ≤ x5.toInt ∧ x5.toInt ≤ 7) (pf5 : fld Fo p0 13 = .int x5) (hkf : KF x3 x5) : TMi l yX13_eatsSign cX13_eatsSign 3 (some .boolean) { frames := 2, cells := 0, slots := 0, locals := 43 } G ttC tag L Fo [.ref p0, .int p1] (fun r F1 => (0 ≤ r.toInt ∧ r.toInt ≤ 1) ∧ ((∀ b j : Nat, (tag b ≠ 46 ∨ j ≠ 8) → (tag b ≠ 46 ∨ j ≠ 9) → (tag b ≠ 46 ∨ j ≠ 10) → (tag b ≠ 46 ∨ j ≠ 11) → (tag b ≠ 46 ∨ j ≠ 12) → (tag b ≠ 46 ∨ j ≠ 15) → fld F1 b j = fld Fo b j) ∧ (∀ b j : Nat, elm F1 b j = elm Fo b j)) ∧ (∃ so sp fa : Int32, fld F1 p0 9 = .int so ∧ fld F1 p0 8 = .int sp ∧ fld F1 p0 13 = .int fa ∧ (0 ≤ so.toInt ∧ so.toInt ≤ 5) ∧ (0 ≤ sp.toInt ∧ sp.toInt ≤ 1000) ∧ (0 ≤ fa.toInt ∧ fa.toInt ≤ 7) ∧ STK x3 so ∧ SPT x3 x4 so sp ∧ KF so fa ∧ (r.toInt ≠ 0 → x3.toInt = 4))) := by
  refine t_bodyi (y := yX13_eatsSign) (cd := cX13_eatsSign) (mL := 3) (rt := (some .boolean)) (rm := { frames := 2, cells := 0, slots := 0, locals := 43 }) (av := [.ref p0, .int p1]) (by decide) (Nat.le_of_ble_eq_true rfl) ho ?_
  intro p e s m args below meth c ls A Q hQ X hT hl
  have hx := X.1.1
  have hb := X.1.2.1
  have hl : lv_has ls 3 [(0, .ref p0), (1, .int p1)] := hl
  have rp1 := rg_all p1
  obtain ⟨F, hFo⟩ : ∃ F : Nat → va_E, F = Fo := ⟨_, rfl⟩
  rw [← hFo] at hT pf0 pf1 pf2 pf3 pf4 pf5
  have hfr : (∀ b j : Nat, (tag b ≠ 46 ∨ j ≠ 8) → (tag b ≠ 46 ∨ j ≠ 9) → (tag b ≠ 46 ∨ j ≠ 10) → (tag b ≠ 46 ∨ j ≠ 11) → (tag b ≠ 46 ∨ j ≠ 12) → (tag b ≠ 46 ∨ j ≠ 15) → fld F b j = fld Fo b j) ∧ (∀ b j : Nat, elm F b j = elm Fo b j) := by
    rw [hFo]
    exact ⟨by intros; rfl, by intros; rfl⟩
  have hstk : STK x3 x3 := STK.rf
  have hspt : SPT x3 x4 x3 x4 := SPT.rf
  refine lv_aload_n hx hb dX13_eatsSign_0 rfl (lv_at hl 0 rfl) ?_
  refine t_get (C := RX13) (T := TX13) (N := 37) X hT m0 g0 rfl rfl 9 (by decide) qw_478 inlX13 rfl dX13_eatsSign_1 (fun v27188 hv27188 ov27188 => ?_)
  obtain rfl : v27188 = .int x3 := hv27188.symm.trans pf3
  refine lv_iconst (v := 4) hx hb dX13_eatsSign_4 (by decide) ?_
  refine lv_icmp_ne (tgt := 20) hx hb dX13_eatsSign_5 (by decide) (fun c27189 => ?_) (fun c27189 => ?_)
  · have w27190 := cv_ne (rfl : x3.toInt = x3.toInt) (by decide : (4 : Int32).toInt = 4) c27189
    refine lv_iconst (v := 0) hx hb dX13_eatsSign_20 (by decide) ?_
    refine lv_istore_n (lv' := [(2, .int 0), (0, .ref p0), (1, .int p1)]) hx hb dX13_eatsSign_21 rfl hl (by decide) rfl (fun ls hl => ?_)
    refine lv_iload_n hx hb dX13_eatsSign_22 rfl (lv_at hl 0 rfl) ?_
    refine lv_if_eq (tgt := 30) hx hb dX13_eatsSign_23 (by decide) (fun _ => ?_) (fun c9 => absurd c9 (by decide))
    refine lv_iload_n hx hb dX13_eatsSign_30 rfl (lv_at hl 0 rfl) ?_
    have k27191 : (0 : Int32).toInt = 0 := by decide
    exact t_zret hQ X hT (by decide) (⟨(by decide), hfr, ⟨x3, x4, x5, pf3, pf4, pf5, (by omega), (by omega), (by omega), hstk, hspt, hkf, (by omega)⟩⟩) (Nat.le_of_ble_eq_true rfl) (Nat.le_of_ble_eq_true rfl) dX13_eatsSign_31
  · have w27192 := cv_eq (rfl : x3.toInt = x3.toInt) (by decide : (4 : Int32).toInt = 4) c27189
    refine lv_aload_n hx hb dX13_eatsSign_8 rfl (lv_at hl 0 rfl) ?_
    refine t_get (C := RX13) (T := TX13) (N := 37) X hT m0 g0 rfl rfl 11 (by decide) qw_513 inlX13 rfl dX13_eatsSign_9 (fun v27193 hv27193 ov27193 => ?_)
    obtain ⟨z27194, rfl, rz27194⟩ := okV_i ov27193
    refine lv_iload_n hx hb dX13_eatsSign_12 rfl (lv_at hl 1 rfl) ?_
    refine lv_icmp_ne (tgt := 20) hx hb dX13_eatsSign_13 (by decide) (fun c27195 => ?_) (fun c27195 => ?_)
    · have w27196 := cv_ne (rfl : z27194.toInt = z27194.toInt) (rfl : p1.toInt = p1.toInt) c27195
      refine lv_iconst (v := 0) hx hb dX13_eatsSign_20 (by decide) ?_
      refine lv_istore_n (lv' := [(2, .int 0), (0, .ref p0), (1, .int p1)]) hx hb dX13_eatsSign_21 rfl hl (by decide) rfl (fun ls hl => ?_)
      refine lv_iload_n hx hb dX13_eatsSign_22 rfl (lv_at hl 0 rfl) ?_
      refine lv_if_eq (tgt := 30) hx hb dX13_eatsSign_23 (by decide) (fun _ => ?_) (fun c9 => absurd c9 (by decide))
      refine lv_iload_n hx hb dX13_eatsSign_30 rfl (lv_at hl 0 rfl) ?_
      have k27197 : (0 : Int32).toInt = 0 := by decide
      exact t_zret hQ X hT (by decide) (⟨(by decide), hfr, ⟨x3, x4, x5, pf3, pf4, pf5, (by omega), (by omega), (by omega), hstk, hspt, hkf, (by omega)⟩⟩) (Nat.le_of_ble_eq_true rfl) (Nat.le_of_ble_eq_true rfl) dX13_eatsSign_31
    · have w27198 := cv_eq (rfl : z27194.toInt = z27194.toInt) (rfl : p1.toInt = p1.toInt) c27195
      refine lv_iconst (v := 1) hx hb dX13_eatsSign_16 (by decide) ?_
      refine lv_goto (tgt := 21) hx hb dX13_eatsSign_17 (by decide) ?_
      refine lv_istore_n (lv' := [(2, .int 1), (0, .ref p0), (1, .int p1)]) hx hb dX13_eatsSign_21 rfl hl (by decide) rfl (fun ls hl => ?_)
      refine lv_iload_n hx hb dX13_eatsSign_22 rfl (lv_at hl 0 rfl) ?_
      refine lv_if_eq (tgt := 30) hx hb dX13_eatsSign_23 (by decide) (fun c9 => absurd c9 (by decide)) (fun _ => ?_)
      refine lv_aload_n hx hb dX13_eatsSign_26 rfl (lv_at hl 1 rfl) ?_
      refine t_cVv (n := 0) (C := RX13) (T := TX13) (N := 37) (As := []) (rest := []) X hT (km14_X13_goesOn l G tag L F hT.2.2.2 p0 x0 x1 x2 x3 x4 x5 m0 g0 mx0 gx0 pf0 mx1 gx1 pf1 mx2 gx2 pf2 (by omega) pf3 (by omega) pf4 (by omega) pf5 hkf) m0 g0 rfl rfl qw_508 qw_509 qw_510 qw_5 qw_511 ⟨rfl, by decide +kernel, by decide +kernel, by decide +kernel⟩ ⟨Nat.le_of_ble_eq_true rfl, Nat.le_of_ble_eq_true rfl⟩ hl rfl rfl (Nat.le_of_ble_eq_true rfl) dX13_eatsSign_27 ⟨Nat.le_of_ble_eq_true rfl, Nat.le_of_ble_eq_true rfl⟩ (fun F H locs hT hz27199 => ?_)
      obtain ⟨yz27199, ⟨soz27199, spz27199, faz27199, qsoz27199, qspz27199, qfaz27199, rsoz27199, rspz27199, rfaz27199, stz27199, ptz27199, hkf⟩⟩ := hz27199
      have pf0 := (yz27199.1 _ 4 (Or.inr (by decide)) (Or.inr (by decide)) (Or.inr (by decide)) (Or.inr (by decide)) (Or.inr (by decide)) (Or.inr (by decide))).trans pf0
      have pf1 := (yz27199.1 _ 28 (Or.inr (by decide)) (Or.inr (by decide)) (Or.inr (by decide)) (Or.inr (by decide)) (Or.inr (by decide)) (Or.inr (by decide))).trans pf1
      have pf2 := (yz27199.1 _ 29 (Or.inr (by decide)) (Or.inr (by decide)) (Or.inr (by decide)) (Or.inr (by decide)) (Or.inr (by decide)) (Or.inr (by decide))).trans pf2
      have pf5 := (yz27199.1 _ 13 (Or.inr (by decide)) (Or.inr (by decide)) (Or.inr (by decide)) (Or.inr (by decide)) (Or.inr (by decide)) (Or.inr (by decide))).trans pf5
      have hfr : (∀ b j : Nat, (tag b ≠ 46 ∨ j ≠ 8) → (tag b ≠ 46 ∨ j ≠ 9) → (tag b ≠ 46 ∨ j ≠ 10) → (tag b ≠ 46 ∨ j ≠ 11) → (tag b ≠ 46 ∨ j ≠ 12) → (tag b ≠ 46 ∨ j ≠ 15) → fld F b j = fld Fo b j) ∧ (∀ b j : Nat, elm F b j = elm Fo b j) := ⟨fun b j n46_8 n46_9 n46_10 n46_11 n46_12 n46_15 => (yz27199.1 b j n46_8 n46_9 n46_10 n46_11 n46_12 n46_15).trans (hfr.1 b j n46_8 n46_9 n46_10 n46_11 n46_12 n46_15), fun b j  => (yz27199.2 b j ).trans (hfr.2 b j )⟩
      have hstk := STK.tr hstk stz27199
      have hspt := SPT.tr hspt ptz27199
      refine lv_iload_n hx hb dX13_eatsSign_30 rfl (lv_at hl 0 rfl) ?_
      have k27200 : (1 : Int32).toInt = 1 := by decide
      exact t_zret hQ X hT (by decide) (⟨(by decide), hfr, ⟨soz27199, spz27199, faz27199, qsoz27199, qspz27199, qfaz27199, (by omega), (by omega), (by omega), hstk, hspt, hkf, (by omega)⟩⟩) (Nat.le_of_ble_eq_true rfl) (Nat.le_of_ble_eq_true rfl) dX13_eatsSign_31
set_option maxHeartbeats 4000000 in
set_option maxRecDepth 100000 in
theorem km82_X13_readAll (l : Launch) (G : KG) (tag : Nat → Nat) (L : List Nat) (Fo : Nat → va_E) (ho : okT G ttC tag L Fo) (p0 : Nat) (x0 : Nat) (x1 : Nat) (x2 : Nat) (x3 : Int32) (x4 : Int32) (x5 : Int32) (x6 : Int32) (x7 : Int32) (x8 : Int32) (x9 : Int32) (x10 : Int32) (x11 : Int32) (m0 : p0 ∈ L) (g0 : tag p0 = 46) (mx0 : x0 ∈ L) (gx0 : tag x0 = 44) (pf0 : fld Fo p0 4 = .ref x0) (mx1 : x1 ∈ L) (gx1 : tag x1 = 35) (pf1 : fld Fo x0 28 = .ref x1) (mx2 : x2 ∈ L) (gx2 : tag x2 = 36) (pf2 : fld Fo x0 29 = .ref x2) (hx3 : 0 ≤ x3.toInt ∧ x3.toInt ≤ 5) (pf3 : fld Fo p0 9 = .int x3) (hx4 : 0 ≤ x4.toInt ∧ x4.toInt ≤ 1000) (pf4 : fld Fo p0 8 = .int x4) (hx5 : 0 ≤ x5.toInt ∧ x5.toInt ≤ 7) (pf5 : fld Fo p0 13 = .int x5) (hx6 : 0 ≤ x6.toInt ∧ x6.toInt ≤ 32) (pf6 : fld Fo x0 12 = .int x6) (hx7 : 0 ≤ x7.toInt ∧ x7.toInt ≤ 4) (pf7 : fld Fo x0 7 = .int x7) (hx8 : 0 ≤ x8.toInt ∧ x8.toInt ≤ 4) (pf8 : fld Fo x0 8 = .int x8) (hx9 : 0 ≤ x9.toInt ∧ x9.toInt ≤ 6) (pf9 : fld Fo x0 9 = .int x9) (hx10 : 0 ≤ x10.toInt ∧ x10.toInt ≤ 6) (pf10 : fld Fo x0 10 = .int x10) (hx11 : 0 ≤ x11.toInt ∧ x11.toInt ≤ 12) (pf11 : fld Fo x0 0 = .int x11) (hrel : MSR Fo x1 x2) (hkf : KF x3 x5) (hpl : PLr x6 x7 x8 x9 x10 x11) : TMv l yX13_readAll cX13_readAll 2 { frames := 11, cells := 0, slots := 0, locals := 240 } G ttC tag L Fo [.ref p0] (fun F1 => ((∀ b j : Nat, (tag b ≠ 44 ∨ j ≠ 0) → (tag b ≠ 44 ∨ j ≠ 1) → (tag b ≠ 44 ∨ j ≠ 2) → (tag b ≠ 44 ∨ j ≠ 3) → (tag b ≠ 44 ∨ j ≠ 4) → (tag b ≠ 44 ∨ j ≠ 5) → (tag b ≠ 44 ∨ j ≠ 6) → (tag b ≠ 44 ∨ j ≠ 7) → (tag b ≠ 44 ∨ j ≠ 8) → (tag b ≠ 44 ∨ j ≠ 9) → (tag b ≠ 44 ∨ j ≠ 10) → (tag b ≠ 44 ∨ j ≠ 11) → (tag b ≠ 44 ∨ j ≠ 12) → (tag b ≠ 44 ∨ j ≠ 13) → (tag b ≠ 44 ∨ j ≠ 14) → (tag b ≠ 46 ∨ j ≠ 8) → (tag b ≠ 46 ∨ j ≠ 9) → (tag b ≠ 46 ∨ j ≠ 10) → (tag b ≠ 46 ∨ j ≠ 11) → (tag b ≠ 46 ∨ j ≠ 12) → (tag b ≠ 46 ∨ j ≠ 13) → (tag b ≠ 46 ∨ j ≠ 14) → (tag b ≠ 46 ∨ j ≠ 15) → fld F1 b j = fld Fo b j) ∧ (∀ b j : Nat, tag b ≠ 28 → tag b ≠ 29 → tag b ≠ 30 → tag b ≠ 31 → tag b ≠ 32 → tag b ≠ 33 → tag b ≠ 34 → tag b ≠ 35 → tag b ≠ 36 → tag b ≠ 37 → elm F1 b j = elm Fo b j)) ∧ (MSR F1 x1 x2) ∧ (∃ so sp fa : Int32, fld F1 p0 9 = .int so ∧ fld F1 p0 8 = .int sp ∧ fld F1 p0 13 = .int fa ∧ (0 ≤ so.toInt ∧ so.toInt ≤ 5) ∧ (0 ≤ sp.toInt ∧ sp.toInt ≤ 1000) ∧ (0 ≤ fa.toInt ∧ fa.toInt ≤ 7) ∧ STK x3 so ∧ SPT x3 x4 so sp ∧ KF so fa) ∧ (∃ na st ho he wa wi : Int32, fld F1 x0 12 = .int na ∧ fld F1 x0 7 = .int st ∧ fld F1 x0 8 = .int ho ∧ fld F1 x0 9 = .int he ∧ fld F1 x0 10 = .int wa ∧ fld F1 x0 0 = .int wi ∧ (0 ≤ na.toInt ∧ na.toInt ≤ 32) ∧ (0 ≤ st.toInt ∧ st.toInt ≤ 4) ∧ (0 ≤ ho.toInt ∧ ho.toInt ≤ 4) ∧ (0 ≤ he.toInt ∧ he.toInt ≤ 6) ∧ (0 ≤ wa.toInt ∧ wa.toInt ≤ 6) ∧ (0 ≤ wi.toInt ∧ wi.toInt ≤ 12) ∧ PLr na st ho he wa wi) ∧ (∀ a9 w9 : Int32, fld F1 p0 13 = .int a9 → fld F1 x0 0 = .int w9 → a9.toInt = 0 → 1 ≤ w9.toInt)) := by
  refine t_bodyv (y := yX13_readAll) (cd := cX13_readAll) (mL := 2) (rm := { frames := 11, cells := 0, slots := 0, locals := 240 }) (av := [.ref p0]) (by decide) (Nat.le_of_ble_eq_true rfl) ho ?_
  intro p e s m args below meth c ls A Q hQ X hT hl
  have hx := X.1.1
  have hb := X.1.2.1
  have hl : lv_has ls 2 [(0, .ref p0)] := hl
  obtain ⟨F, hFo⟩ : ∃ F : Nat → va_E, F = Fo := ⟨_, rfl⟩
  rw [← hFo] at hT pf0 pf1 pf2 pf3 pf4 pf5 pf6 pf7 pf8 pf9 pf10 pf11 hrel
  have hfr : (∀ b j : Nat, (tag b ≠ 44 ∨ j ≠ 0) → (tag b ≠ 44 ∨ j ≠ 1) → (tag b ≠ 44 ∨ j ≠ 2) → (tag b ≠ 44 ∨ j ≠ 3) → (tag b ≠ 44 ∨ j ≠ 4) → (tag b ≠ 44 ∨ j ≠ 5) → (tag b ≠ 44 ∨ j ≠ 6) → (tag b ≠ 44 ∨ j ≠ 7) → (tag b ≠ 44 ∨ j ≠ 8) → (tag b ≠ 44 ∨ j ≠ 9) → (tag b ≠ 44 ∨ j ≠ 10) → (tag b ≠ 44 ∨ j ≠ 11) → (tag b ≠ 44 ∨ j ≠ 12) → (tag b ≠ 44 ∨ j ≠ 13) → (tag b ≠ 44 ∨ j ≠ 14) → (tag b ≠ 46 ∨ j ≠ 8) → (tag b ≠ 46 ∨ j ≠ 9) → (tag b ≠ 46 ∨ j ≠ 10) → (tag b ≠ 46 ∨ j ≠ 11) → (tag b ≠ 46 ∨ j ≠ 12) → (tag b ≠ 46 ∨ j ≠ 13) → (tag b ≠ 46 ∨ j ≠ 14) → (tag b ≠ 46 ∨ j ≠ 15) → fld F b j = fld Fo b j) ∧ (∀ b j : Nat, tag b ≠ 28 → tag b ≠ 29 → tag b ≠ 30 → tag b ≠ 31 → tag b ≠ 32 → tag b ≠ 33 → tag b ≠ 34 → tag b ≠ 35 → tag b ≠ 36 → tag b ≠ 37 → elm F b j = elm Fo b j) := by
    rw [hFo]
    exact ⟨by intros; rfl, by intros; rfl⟩
  have hstk : STK x3 x3 := STK.rf
  have hspt : SPT x3 x4 x3 x4 := SPT.rf
  have K64 : ∀ (z27533 : Int32) (z27534 : Int32) (z27535 : Int32) (z27536 : Int32) (z27537 : Int32) (z27538 : Int32) (z27539 : Int32) (z27540 : Int32) (z27541 : Int32) (z27542 : Int32) (z27543 : Int32) (F : Nat → va_E) (H : Heap) (locs : List Loc) (ls : Array Slot), (0 ≤ z27533.toInt ∧ z27533.toInt ≤ 0) → (0 ≤ z27534.toInt ∧ z27534.toInt ≤ 7) → (0 ≤ z27535.toInt ∧ z27535.toInt ≤ 32) → (0 ≤ z27536.toInt ∧ z27536.toInt ≤ 4) → (0 ≤ z27537.toInt ∧ z27537.toInt ≤ 4) → (0 ≤ z27538.toInt ∧ z27538.toInt ≤ 6) → (0 ≤ z27539.toInt ∧ z27539.toInt ≤ 6) → (0 ≤ z27540.toInt ∧ z27540.toInt ≤ 12) → (1 ≤ z27541.toInt ∧ z27541.toInt ≤ 5) → (0 ≤ z27542.toInt ∧ z27542.toInt ≤ 1000) → TH G ttC A s tag L F H locs → ((∀ b j : Nat, (tag b ≠ 44 ∨ j ≠ 0) → (tag b ≠ 44 ∨ j ≠ 1) → (tag b ≠ 44 ∨ j ≠ 2) → (tag b ≠ 44 ∨ j ≠ 3) → (tag b ≠ 44 ∨ j ≠ 4) → (tag b ≠ 44 ∨ j ≠ 5) → (tag b ≠ 44 ∨ j ≠ 6) → (tag b ≠ 44 ∨ j ≠ 7) → (tag b ≠ 44 ∨ j ≠ 8) → (tag b ≠ 44 ∨ j ≠ 9) → (tag b ≠ 44 ∨ j ≠ 10) → (tag b ≠ 44 ∨ j ≠ 11) → (tag b ≠ 44 ∨ j ≠ 12) → (tag b ≠ 44 ∨ j ≠ 13) → (tag b ≠ 44 ∨ j ≠ 14) → (tag b ≠ 46 ∨ j ≠ 8) → (tag b ≠ 46 ∨ j ≠ 9) → (tag b ≠ 46 ∨ j ≠ 10) → (tag b ≠ 46 ∨ j ≠ 11) → (tag b ≠ 46 ∨ j ≠ 12) → (tag b ≠ 46 ∨ j ≠ 13) → (tag b ≠ 46 ∨ j ≠ 14) → (tag b ≠ 46 ∨ j ≠ 15) → fld F b j = fld Fo b j) ∧ (∀ b j : Nat, tag b ≠ 28 → tag b ≠ 29 → tag b ≠ 30 → tag b ≠ 31 → tag b ≠ 32 → tag b ≠ 33 → tag b ≠ 34 → tag b ≠ 35 → tag b ≠ 36 → tag b ≠ 37 → elm F b j = elm Fo b j)) → MSR F x1 x2 → (fld F p0 4 = .ref x0) → (fld F x0 28 = .ref x1) → (fld F x0 29 = .ref x2) → (fld F p0 13 = .int z27534) → (fld F x0 12 = .int z27535) → (fld F x0 7 = .int z27536) → (fld F x0 8 = .int z27537) → (fld F x0 9 = .int z27538) → (fld F x0 10 = .int z27539) → (fld F x0 0 = .int z27540) → (fld F p0 9 = .int z27541) → (fld F p0 8 = .int z27542) → (fld F x0 2 = .int z27543) → (STK x3 z27541) → (SPT x3 x4 z27541 z27542) → (KF z27541 z27534) → (PLr z27535 z27536 z27537 z27538 z27539 z27540) → lv_has ls 2 [(0, .ref p0), (1, .int z27533)] → W p l e { frames := 11, cells := 0, slots := 0, locals := 240 } s m args below meth c H locs 0 0 Q (F0 m 64 ls []) := by
    intro z27533 z27534 z27535 z27536 z27537 z27538 z27539 z27540 z27541 z27542 z27543 F H locs ls rz27533 rz27534 rz27535 rz27536 rz27537 rz27538 rz27539 rz27540 rz27541 rz27542 hT hfr hrel pf0 pf1 pf2 qz27534 qz27535 qz27536 qz27537 qz27538 qz27539 qz27540 qz27541 qz27542 qz27543 hstk hspt hkf hpl hl
    have rz27543 := rg_all z27543
    refine lv_aload_n hx hb dX13_readAll_64 rfl (lv_at hl 0 rfl) ?_
    refine lv_bipush (v := 6) hx hb dX13_readAll_65 (by decide) ?_
    refine t_cVv (n := 1) (C := RX13) (T := TX13) (N := 37) (As := [.int 6]) (rest := []) X hT (km10_X13_flaw l G tag L F hT.2.2.2 p0 6 x0 x1 x2 z27541 z27542 z27534 m0 g0 (by decide) mx0 gx0 pf0 mx1 gx1 pf1 mx2 gx2 pf2 (by omega) qz27541 (by omega) qz27542 (by omega) qz27534 hkf) m0 g0 rfl rfl qw_548 qw_549 qw_550 qw_5 qw_551 ⟨rfl, by decide +kernel, by decide +kernel, by decide +kernel⟩ ⟨Nat.le_of_ble_eq_true rfl, Nat.le_of_ble_eq_true rfl⟩ hl rfl rfl (Nat.le_of_ble_eq_true rfl) dX13_readAll_67 ⟨Nat.le_of_ble_eq_true rfl, Nat.le_of_ble_eq_true rfl⟩ (fun F H locs hT hz27544 => ?_)
    obtain ⟨yz27544, ⟨soz27544, spz27544, faz27544, qsoz27544, qspz27544, qfaz27544, rsoz27544, rspz27544, rfaz27544, stz27544, ptz27544, hkf, pxz27544_0⟩⟩ := hz27544
    have qz27535 := (yz27544.1 _ 12 (Or.inr (by decide)) (Or.inr (by decide)) (Or.inr (by decide))).trans qz27535
    have qz27536 := (yz27544.1 _ 7 (Or.inr (by decide)) (Or.inr (by decide)) (Or.inr (by decide))).trans qz27536
    have qz27537 := (yz27544.1 _ 8 (Or.inr (by decide)) (Or.inr (by decide)) (Or.inr (by decide))).trans qz27537
    have qz27538 := (yz27544.1 _ 9 (Or.inl (by rw [gx0]; decide)) (Or.inr (by decide)) (Or.inr (by decide))).trans qz27538
    have qz27539 := (yz27544.1 _ 10 (Or.inr (by decide)) (Or.inr (by decide)) (Or.inr (by decide))).trans qz27539
    have qz27540 := (yz27544.1 _ 0 (Or.inr (by decide)) (Or.inr (by decide)) (Or.inr (by decide))).trans qz27540
    have qz27542 := (yz27544.1 _ 8 (Or.inr (by decide)) (Or.inr (by decide)) (Or.inr (by decide))).trans qz27542
    have qz27543 := (yz27544.1 _ 2 (Or.inr (by decide)) (Or.inr (by decide)) (Or.inr (by decide))).trans qz27543
    have pf0 := (yz27544.1 _ 4 (Or.inr (by decide)) (Or.inr (by decide)) (Or.inr (by decide))).trans pf0
    have pf1 := (yz27544.1 _ 28 (Or.inr (by decide)) (Or.inr (by decide)) (Or.inr (by decide))).trans pf1
    have pf2 := (yz27544.1 _ 29 (Or.inr (by decide)) (Or.inr (by decide)) (Or.inr (by decide))).trans pf2
    have hfr : (∀ b j : Nat, (tag b ≠ 44 ∨ j ≠ 0) → (tag b ≠ 44 ∨ j ≠ 1) → (tag b ≠ 44 ∨ j ≠ 2) → (tag b ≠ 44 ∨ j ≠ 3) → (tag b ≠ 44 ∨ j ≠ 4) → (tag b ≠ 44 ∨ j ≠ 5) → (tag b ≠ 44 ∨ j ≠ 6) → (tag b ≠ 44 ∨ j ≠ 7) → (tag b ≠ 44 ∨ j ≠ 8) → (tag b ≠ 44 ∨ j ≠ 9) → (tag b ≠ 44 ∨ j ≠ 10) → (tag b ≠ 44 ∨ j ≠ 11) → (tag b ≠ 44 ∨ j ≠ 12) → (tag b ≠ 44 ∨ j ≠ 13) → (tag b ≠ 44 ∨ j ≠ 14) → (tag b ≠ 46 ∨ j ≠ 8) → (tag b ≠ 46 ∨ j ≠ 9) → (tag b ≠ 46 ∨ j ≠ 10) → (tag b ≠ 46 ∨ j ≠ 11) → (tag b ≠ 46 ∨ j ≠ 12) → (tag b ≠ 46 ∨ j ≠ 13) → (tag b ≠ 46 ∨ j ≠ 14) → (tag b ≠ 46 ∨ j ≠ 15) → fld F b j = fld Fo b j) ∧ (∀ b j : Nat, tag b ≠ 28 → tag b ≠ 29 → tag b ≠ 30 → tag b ≠ 31 → tag b ≠ 32 → tag b ≠ 33 → tag b ≠ 34 → tag b ≠ 35 → tag b ≠ 36 → tag b ≠ 37 → elm F b j = elm Fo b j) := ⟨fun b j n44_0 n44_1 n44_2 n44_3 n44_4 n44_5 n44_6 n44_7 n44_8 n44_9 n44_10 n44_11 n44_12 n44_13 n44_14 n46_8 n46_9 n46_10 n46_11 n46_12 n46_13 n46_14 n46_15 => (yz27544.1 b j n46_9 n46_13 n46_14).trans (hfr.1 b j n44_0 n44_1 n44_2 n44_3 n44_4 n44_5 n44_6 n44_7 n44_8 n44_9 n44_10 n44_11 n44_12 n44_13 n44_14 n46_8 n46_9 n46_10 n46_11 n46_12 n46_13 n46_14 n46_15), fun b j a28 a29 a30 a31 a32 a33 a34 a35 a36 a37 => (yz27544.2 b j ).trans (hfr.2 b j a28 a29 a30 a31 a32 a33 a34 a35 a36 a37)⟩
    have hrel := msr_of (fun j => yz27544.2 _ j ) (fun j => yz27544.2 _ j ) hrel
    have hstk := STK.tr hstk stz27544
    have hspt := SPT.tr hspt ptz27544
    have upz27544 := ptz27544.1
    have uqz27544 := ptz27544.2
    exact t_vret hQ X hT ⟨hfr, hrel, ⟨soz27544, spz27544, faz27544, qsoz27544, qspz27544, qfaz27544, (by omega), (by omega), (by omega), hstk, hspt, hkf⟩, ⟨z27535, z27536, z27537, z27538, z27539, z27540, qz27535, qz27536, qz27537, qz27538, qz27539, qz27540, (by omega), (by omega), (by omega), (by omega), (by omega), (by omega), hpl⟩, (fun a9 w9 h1 h2 h3 => by have e1 := Value.int.inj (qfaz27544.symm.trans h1); have e2 := Value.int.inj (qz27540.symm.trans h2); have e3 := hpl.2; have e4 := hkf; unfold KF at e4; subst e1; subst e2; omega)⟩ (Nat.le_of_ble_eq_true rfl) (Nat.le_of_ble_eq_true rfl) dX13_readAll_70
  have K33 : ∀ (z27545 : Int32) (z27546 : Int32) (z27547 : Int32) (z27548 : Int32) (z27549 : Int32) (z27550 : Int32) (z27551 : Int32) (z27552 : Int32) (z27553 : Int32) (z27554 : Int32) (F : Nat → va_E) (H : Heap) (locs : List Loc) (ls : Array Slot), (0 ≤ z27545.toInt ∧ z27545.toInt ≤ 0) → (0 ≤ z27546.toInt ∧ z27546.toInt ≤ 7) → (0 ≤ z27547.toInt ∧ z27547.toInt ≤ 32) → (0 ≤ z27548.toInt ∧ z27548.toInt ≤ 4) → (0 ≤ z27549.toInt ∧ z27549.toInt ≤ 4) → (0 ≤ z27550.toInt ∧ z27550.toInt ≤ 6) → (0 ≤ z27551.toInt ∧ z27551.toInt ≤ 6) → (0 ≤ z27552.toInt ∧ z27552.toInt ≤ 12) → (1 ≤ z27553.toInt ∧ z27553.toInt ≤ 5) → (0 ≤ z27554.toInt ∧ z27554.toInt ≤ 1000) → TH G ttC A s tag L F H locs → ((∀ b j : Nat, (tag b ≠ 44 ∨ j ≠ 0) → (tag b ≠ 44 ∨ j ≠ 1) → (tag b ≠ 44 ∨ j ≠ 2) → (tag b ≠ 44 ∨ j ≠ 3) → (tag b ≠ 44 ∨ j ≠ 4) → (tag b ≠ 44 ∨ j ≠ 5) → (tag b ≠ 44 ∨ j ≠ 6) → (tag b ≠ 44 ∨ j ≠ 7) → (tag b ≠ 44 ∨ j ≠ 8) → (tag b ≠ 44 ∨ j ≠ 9) → (tag b ≠ 44 ∨ j ≠ 10) → (tag b ≠ 44 ∨ j ≠ 11) → (tag b ≠ 44 ∨ j ≠ 12) → (tag b ≠ 44 ∨ j ≠ 13) → (tag b ≠ 44 ∨ j ≠ 14) → (tag b ≠ 46 ∨ j ≠ 8) → (tag b ≠ 46 ∨ j ≠ 9) → (tag b ≠ 46 ∨ j ≠ 10) → (tag b ≠ 46 ∨ j ≠ 11) → (tag b ≠ 46 ∨ j ≠ 12) → (tag b ≠ 46 ∨ j ≠ 13) → (tag b ≠ 46 ∨ j ≠ 14) → (tag b ≠ 46 ∨ j ≠ 15) → fld F b j = fld Fo b j) ∧ (∀ b j : Nat, tag b ≠ 28 → tag b ≠ 29 → tag b ≠ 30 → tag b ≠ 31 → tag b ≠ 32 → tag b ≠ 33 → tag b ≠ 34 → tag b ≠ 35 → tag b ≠ 36 → tag b ≠ 37 → elm F b j = elm Fo b j)) → MSR F x1 x2 → (fld F p0 4 = .ref x0) → (fld F x0 28 = .ref x1) → (fld F x0 29 = .ref x2) → (fld F p0 13 = .int z27546) → (fld F x0 12 = .int z27547) → (fld F x0 7 = .int z27548) → (fld F x0 8 = .int z27549) → (fld F x0 9 = .int z27550) → (fld F x0 10 = .int z27551) → (fld F x0 0 = .int z27552) → (fld F p0 9 = .int z27553) → (fld F p0 8 = .int z27554) → (STK x3 z27553) → (SPT x3 x4 z27553 z27554) → (KF z27553 z27546) → (PLr z27547 z27548 z27549 z27550 z27551 z27552) → lv_has ls 2 [(0, .ref p0), (1, .int z27545)] → W p l e { frames := 11, cells := 0, slots := 0, locals := 240 } s m args below meth c H locs 0 0 Q (F0 m 33 ls []) := by
    intro z27545 z27546 z27547 z27548 z27549 z27550 z27551 z27552 z27553 z27554 F H locs ls rz27545 rz27546 rz27547 rz27548 rz27549 rz27550 rz27551 rz27552 rz27553 rz27554 hT hfr hrel pf0 pf1 pf2 qz27546 qz27547 qz27548 qz27549 qz27550 qz27551 qz27552 qz27553 qz27554 hstk hspt hkf hpl hl
    refine lv_aload_n hx hb dX13_readAll_33 rfl (lv_at hl 0 rfl) ?_
    refine t_get (C := RX13) (T := TX13) (N := 37) X hT m0 g0 rfl rfl 4 (by decide) qw_477 inlX13 rfl dX13_readAll_34 (fun v27555 hv27555 ov27555 => ?_)
    obtain rfl : v27555 = .ref x0 := hv27555.symm.trans pf0
    refine t_getN (C := RX12) (T := TX12) (N := 31) X hT mx0 gx0 rfl rfl 2 (by decide) (List.mem_of_getElem? (i := 6) rfl) inlX12 rfl dX13_readAll_37 (fun v27556 hv27556 ov27556 => ?_)
    obtain ⟨z27557, rfl, rz27557⟩ := okV_i ov27556
    refine lv_iconst (v := (-1)) hx hb dX13_readAll_40 (by decide) ?_
    refine lv_icmp_eq (tgt := 64) hx hb dX13_readAll_41 (by decide) (fun c27558 => ?_) (fun c27558 => ?_)
    · have w27559 := cv_eq (rfl : z27557.toInt = z27557.toInt) (by decide : ((-1) : Int32).toInt = (-1)) c27558
      exact K64 z27545 z27546 z27547 z27548 z27549 z27550 z27551 z27552 z27553 z27554 z27557 _ _ _ _ (by omega) (by omega) (by omega) (by omega) (by omega) (by omega) (by omega) (by omega) (by omega) (by omega) hT hfr hrel pf0 pf1 pf2 qz27546 qz27547 qz27548 qz27549 qz27550 qz27551 qz27552 qz27553 qz27554 hv27556 hstk hspt hkf hpl (lv_sub hl [0, 1] rfl)
    · have w27560 := cv_ne (rfl : z27557.toInt = z27557.toInt) (by decide : ((-1) : Int32).toInt = (-1)) c27558
      refine lv_aload_n hx hb dX13_readAll_44 rfl (lv_at hl 0 rfl) ?_
      refine t_get (C := RX13) (T := TX13) (N := 37) X hT m0 g0 rfl rfl 4 (by decide) qw_477 inlX13 rfl dX13_readAll_45 (fun v27561 hv27561 ov27561 => ?_)
      obtain rfl : v27561 = .ref x0 := hv27561.symm.trans pf0
      refine t_getN (C := RX12) (T := TX12) (N := 31) X hT mx0 gx0 rfl rfl 7 (by decide) (List.mem_of_getElem? (i := 11) rfl) inlX12 rfl dX13_readAll_48 (fun v27562 hv27562 ov27562 => ?_)
      obtain rfl : v27562 = .int z27548 := hv27562.symm.trans qz27548
      refine lv_if_eq (tgt := 64) hx hb dX13_readAll_51 (by decide) (fun c27563 => ?_) (fun c27563 => ?_)
      · have w27564 := cv_eq (rfl : z27548.toInt = z27548.toInt) (by decide : (0 : Int32).toInt = 0) c27563
        exact K64 z27545 z27546 z27547 z27548 z27549 z27550 z27551 z27552 z27553 z27554 z27557 _ _ _ _ (by omega) (by omega) (by omega) (by omega) (by omega) (by omega) (by omega) (by omega) (by omega) (by omega) hT hfr hrel pf0 pf1 pf2 qz27546 qz27547 qz27548 qz27549 qz27550 qz27551 qz27552 qz27553 qz27554 hv27556 hstk hspt hkf hpl (lv_sub hl [0, 1] rfl)
      · have w27565 := cv_ne (rfl : z27548.toInt = z27548.toInt) (by decide : (0 : Int32).toInt = 0) c27563
        refine lv_aload_n hx hb dX13_readAll_54 rfl (lv_at hl 0 rfl) ?_
        refine t_get (C := RX13) (T := TX13) (N := 37) X hT m0 g0 rfl rfl 4 (by decide) qw_477 inlX13 rfl dX13_readAll_55 (fun v27566 hv27566 ov27566 => ?_)
        obtain rfl : v27566 = .ref x0 := hv27566.symm.trans pf0
        refine t_getN (C := RX12) (T := TX12) (N := 31) X hT mx0 gx0 rfl rfl 8 (by decide) (List.mem_of_getElem? (i := 12) rfl) inlX12 rfl dX13_readAll_58 (fun v27567 hv27567 ov27567 => ?_)
        obtain rfl : v27567 = .int z27549 := hv27567.symm.trans qz27549
        refine lv_if_ne (tgt := 70) hx hb dX13_readAll_61 (by decide) (fun c27568 => ?_) (fun c27568 => ?_)
        · have w27569 := cv_ne (rfl : z27549.toInt = z27549.toInt) (by decide : (0 : Int32).toInt = 0) c27568
          exact t_vret hQ X hT ⟨hfr, hrel, ⟨z27553, z27554, z27546, qz27553, qz27554, qz27546, (by omega), (by omega), (by omega), hstk, hspt, hkf⟩, ⟨z27547, z27548, z27549, z27550, z27551, z27552, qz27547, qz27548, qz27549, qz27550, qz27551, qz27552, (by omega), (by omega), (by omega), (by omega), (by omega), (by omega), hpl⟩, (fun a9 w9 h1 h2 h3 => by have e1 := Value.int.inj (qz27546.symm.trans h1); have e2 := Value.int.inj (qz27552.symm.trans h2); have e3 := hpl.2; have e4 := hkf; unfold KF at e4; subst e1; subst e2; omega)⟩ (Nat.le_of_ble_eq_true rfl) (Nat.le_of_ble_eq_true rfl) dX13_readAll_70
        · have w27570 := cv_eq (rfl : z27549.toInt = z27549.toInt) (by decide : (0 : Int32).toInt = 0) c27568
          exact K64 z27545 z27546 z27547 z27548 z27549 z27550 z27551 z27552 z27553 z27554 z27557 _ _ _ _ (by omega) (by omega) (by omega) (by omega) (by omega) (by omega) (by omega) (by omega) (by omega) (by omega) hT hfr hrel pf0 pf1 pf2 qz27546 qz27547 qz27548 qz27549 qz27550 qz27551 qz27552 qz27553 qz27554 hv27556 hstk hspt hkf hpl (lv_sub hl [0, 1] rfl)
  have K6 : ∀ (n : Nat) (z27571 : Int32) (z27572 : Int32) (z27573 : Int32) (z27574 : Int32) (z27575 : Int32) (z27576 : Int32) (z27577 : Int32) (z27578 : Int32) (z27579 : Int32) (z27580 : Int32) (F : Nat → va_E) (H : Heap) (locs : List Loc) (ls : Array Slot), (1000 - z27573.toInt < (n : Int)) → (1 ≤ z27571.toInt ∧ z27571.toInt ≤ 1) → (0 ≤ z27572.toInt ∧ z27572.toInt ≤ 5) → (0 ≤ z27573.toInt ∧ z27573.toInt ≤ 1000) → (0 ≤ z27574.toInt ∧ z27574.toInt ≤ 7) → (0 ≤ z27575.toInt ∧ z27575.toInt ≤ 32) → (0 ≤ z27576.toInt ∧ z27576.toInt ≤ 4) → (0 ≤ z27577.toInt ∧ z27577.toInt ≤ 4) → (0 ≤ z27578.toInt ∧ z27578.toInt ≤ 6) → (0 ≤ z27579.toInt ∧ z27579.toInt ≤ 6) → (0 ≤ z27580.toInt ∧ z27580.toInt ≤ 12) → TH G ttC A s tag L F H locs → ((∀ b j : Nat, (tag b ≠ 44 ∨ j ≠ 0) → (tag b ≠ 44 ∨ j ≠ 1) → (tag b ≠ 44 ∨ j ≠ 2) → (tag b ≠ 44 ∨ j ≠ 3) → (tag b ≠ 44 ∨ j ≠ 4) → (tag b ≠ 44 ∨ j ≠ 5) → (tag b ≠ 44 ∨ j ≠ 6) → (tag b ≠ 44 ∨ j ≠ 7) → (tag b ≠ 44 ∨ j ≠ 8) → (tag b ≠ 44 ∨ j ≠ 9) → (tag b ≠ 44 ∨ j ≠ 10) → (tag b ≠ 44 ∨ j ≠ 11) → (tag b ≠ 44 ∨ j ≠ 12) → (tag b ≠ 44 ∨ j ≠ 13) → (tag b ≠ 44 ∨ j ≠ 14) → (tag b ≠ 46 ∨ j ≠ 8) → (tag b ≠ 46 ∨ j ≠ 9) → (tag b ≠ 46 ∨ j ≠ 10) → (tag b ≠ 46 ∨ j ≠ 11) → (tag b ≠ 46 ∨ j ≠ 12) → (tag b ≠ 46 ∨ j ≠ 13) → (tag b ≠ 46 ∨ j ≠ 14) → (tag b ≠ 46 ∨ j ≠ 15) → fld F b j = fld Fo b j) ∧ (∀ b j : Nat, tag b ≠ 28 → tag b ≠ 29 → tag b ≠ 30 → tag b ≠ 31 → tag b ≠ 32 → tag b ≠ 33 → tag b ≠ 34 → tag b ≠ 35 → tag b ≠ 36 → tag b ≠ 37 → elm F b j = elm Fo b j)) → MSR F x1 x2 → (fld F p0 4 = .ref x0) → (fld F x0 28 = .ref x1) → (fld F x0 29 = .ref x2) → (fld F p0 9 = .int z27572) → (fld F p0 8 = .int z27573) → (fld F p0 13 = .int z27574) → (fld F x0 12 = .int z27575) → (fld F x0 7 = .int z27576) → (fld F x0 8 = .int z27577) → (fld F x0 9 = .int z27578) → (fld F x0 10 = .int z27579) → (fld F x0 0 = .int z27580) → (STK x3 z27572) → (SPT x3 x4 z27572 z27573) → (KF z27572 z27574) → (PLr z27575 z27576 z27577 z27578 z27579 z27580) → lv_has ls 2 [(0, .ref p0), (1, .int z27571)] → W p l e { frames := 11, cells := 0, slots := 0, locals := 240 } s m args below meth c H locs 0 0 Q (F0 m 6 ls []) := by
    intro n
    induction n with
    | zero =>
      intro z27571 z27572 z27573 z27574 z27575 z27576 z27577 z27578 z27579 z27580 F H locs ls hn rz27571 rz27572 rz27573 rz27574 rz27575 rz27576 rz27577 rz27578 rz27579 rz27580 hT hfr hrel pf0 pf1 pf2 qz27572 qz27573 qz27574 qz27575 qz27576 qz27577 qz27578 qz27579 qz27580 hstk hspt hkf hpl hl
      exfalso
      omega
    | succ n ih6 =>
      intro z27571 z27572 z27573 z27574 z27575 z27576 z27577 z27578 z27579 z27580 F H locs ls hn rz27571 rz27572 rz27573 rz27574 rz27575 rz27576 rz27577 rz27578 rz27579 rz27580 hT hfr hrel pf0 pf1 pf2 qz27572 qz27573 qz27574 qz27575 qz27576 qz27577 qz27578 qz27579 qz27580 hstk hspt hkf hpl hl
      refine lv_aload_n hx hb dX13_readAll_6 rfl (lv_at hl 0 rfl) ?_
      refine t_cVv (n := 0) (C := RX13) (T := TX13) (N := 37) (As := []) (rest := []) X hT (km80_X13_readLine l G tag L F hT.2.2.2 p0 x0 x1 x2 z27572 z27573 z27574 z27575 z27576 z27577 z27578 z27579 z27580 m0 g0 mx0 gx0 pf0 mx1 gx1 pf1 mx2 gx2 pf2 (by omega) qz27572 (by omega) qz27573 (by omega) qz27574 (by omega) qz27575 (by omega) qz27576 (by omega) qz27577 (by omega) qz27578 (by omega) qz27579 (by omega) qz27580 hrel hkf hpl) m0 g0 rfl rfl qw_531 qw_532 qw_533 qw_5 qw_534 ⟨rfl, by decide +kernel, by decide +kernel, by decide +kernel⟩ ⟨Nat.le_of_ble_eq_true rfl, Nat.le_of_ble_eq_true rfl⟩ hl rfl rfl (Nat.le_of_ble_eq_true rfl) dX13_readAll_7 ⟨Nat.le_of_ble_eq_true rfl, Nat.le_of_ble_eq_true rfl⟩ (fun F H locs hT hz27581 => ?_)
      obtain ⟨yz27581, hrel, ⟨soz27581, spz27581, faz27581, qsoz27581, qspz27581, qfaz27581, rsoz27581, rspz27581, rfaz27581, stz27581, ptz27581, hkf, pxz27581_0⟩, ⟨naz27581, stz27581, hoz27581, hez27581, waz27581, wiz27581, qnaz27581, qstz27581, qhoz27581, qhez27581, qwaz27581, qwiz27581, rnaz27581, rstz27581, rhoz27581, rhez27581, rwaz27581, rwiz27581, hpl⟩⟩ := hz27581
      have pf0 := (yz27581.1 _ 4 (Or.inr (by decide)) (Or.inr (by decide)) (Or.inr (by decide)) (Or.inr (by decide)) (Or.inl (by rw [g0]; decide)) (Or.inr (by decide)) (Or.inr (by decide)) (Or.inr (by decide)) (Or.inr (by decide)) (Or.inr (by decide)) (Or.inr (by decide)) (Or.inr (by decide)) (Or.inr (by decide)) (Or.inr (by decide)) (Or.inr (by decide)) (Or.inr (by decide)) (Or.inr (by decide)) (Or.inr (by decide)) (Or.inr (by decide)) (Or.inr (by decide)) (Or.inr (by decide)) (Or.inr (by decide)) (Or.inr (by decide))).trans pf0
      have pf1 := (yz27581.1 _ 28 (Or.inr (by decide)) (Or.inr (by decide)) (Or.inr (by decide)) (Or.inr (by decide)) (Or.inr (by decide)) (Or.inr (by decide)) (Or.inr (by decide)) (Or.inr (by decide)) (Or.inr (by decide)) (Or.inr (by decide)) (Or.inr (by decide)) (Or.inr (by decide)) (Or.inr (by decide)) (Or.inr (by decide)) (Or.inr (by decide)) (Or.inr (by decide)) (Or.inr (by decide)) (Or.inr (by decide)) (Or.inr (by decide)) (Or.inr (by decide)) (Or.inr (by decide)) (Or.inr (by decide)) (Or.inr (by decide))).trans pf1
      have pf2 := (yz27581.1 _ 29 (Or.inr (by decide)) (Or.inr (by decide)) (Or.inr (by decide)) (Or.inr (by decide)) (Or.inr (by decide)) (Or.inr (by decide)) (Or.inr (by decide)) (Or.inr (by decide)) (Or.inr (by decide)) (Or.inr (by decide)) (Or.inr (by decide)) (Or.inr (by decide)) (Or.inr (by decide)) (Or.inr (by decide)) (Or.inr (by decide)) (Or.inr (by decide)) (Or.inr (by decide)) (Or.inr (by decide)) (Or.inr (by decide)) (Or.inr (by decide)) (Or.inr (by decide)) (Or.inr (by decide)) (Or.inr (by decide))).trans pf2
      have hfr : (∀ b j : Nat, (tag b ≠ 44 ∨ j ≠ 0) → (tag b ≠ 44 ∨ j ≠ 1) → (tag b ≠ 44 ∨ j ≠ 2) → (tag b ≠ 44 ∨ j ≠ 3) → (tag b ≠ 44 ∨ j ≠ 4) → (tag b ≠ 44 ∨ j ≠ 5) → (tag b ≠ 44 ∨ j ≠ 6) → (tag b ≠ 44 ∨ j ≠ 7) → (tag b ≠ 44 ∨ j ≠ 8) → (tag b ≠ 44 ∨ j ≠ 9) → (tag b ≠ 44 ∨ j ≠ 10) → (tag b ≠ 44 ∨ j ≠ 11) → (tag b ≠ 44 ∨ j ≠ 12) → (tag b ≠ 44 ∨ j ≠ 13) → (tag b ≠ 44 ∨ j ≠ 14) → (tag b ≠ 46 ∨ j ≠ 8) → (tag b ≠ 46 ∨ j ≠ 9) → (tag b ≠ 46 ∨ j ≠ 10) → (tag b ≠ 46 ∨ j ≠ 11) → (tag b ≠ 46 ∨ j ≠ 12) → (tag b ≠ 46 ∨ j ≠ 13) → (tag b ≠ 46 ∨ j ≠ 14) → (tag b ≠ 46 ∨ j ≠ 15) → fld F b j = fld Fo b j) ∧ (∀ b j : Nat, tag b ≠ 28 → tag b ≠ 29 → tag b ≠ 30 → tag b ≠ 31 → tag b ≠ 32 → tag b ≠ 33 → tag b ≠ 34 → tag b ≠ 35 → tag b ≠ 36 → tag b ≠ 37 → elm F b j = elm Fo b j) := ⟨fun b j n44_0 n44_1 n44_2 n44_3 n44_4 n44_5 n44_6 n44_7 n44_8 n44_9 n44_10 n44_11 n44_12 n44_13 n44_14 n46_8 n46_9 n46_10 n46_11 n46_12 n46_13 n46_14 n46_15 => (yz27581.1 b j n44_0 n44_1 n44_2 n44_3 n44_4 n44_5 n44_6 n44_7 n44_8 n44_9 n44_10 n44_11 n44_12 n44_13 n44_14 n46_8 n46_9 n46_10 n46_11 n46_12 n46_13 n46_14 n46_15).trans (hfr.1 b j n44_0 n44_1 n44_2 n44_3 n44_4 n44_5 n44_6 n44_7 n44_8 n44_9 n44_10 n44_11 n44_12 n44_13 n44_14 n46_8 n46_9 n46_10 n46_11 n46_12 n46_13 n46_14 n46_15), fun b j a28 a29 a30 a31 a32 a33 a34 a35 a36 a37 => (yz27581.2 b j a28 a29 a30 a31 a32 a33 a34 a35 a36 a37).trans (hfr.2 b j a28 a29 a30 a31 a32 a33 a34 a35 a36 a37)⟩
      have hstk := STK.tr hstk stz27581
      have hspt := SPT.tr hspt ptz27581
      have upz27581 := ptz27581.1
      have uqz27581 := ptz27581.2
      refine lv_aload_n hx hb dX13_readAll_10 rfl (lv_at hl 0 rfl) ?_
      refine lv_bipush (v := 59) hx hb dX13_readAll_11 (by decide) ?_
      refine t_cVi (n := 1) (C := RX13) (T := TX13) (N := 37) (As := [.int 59]) (rest := []) X hT (km81_X13_eatsSign l G tag L F hT.2.2.2 p0 59 x0 x1 x2 soz27581 spz27581 faz27581 m0 g0 mx0 gx0 pf0 mx1 gx1 pf1 mx2 gx2 pf2 (by omega) qsoz27581 (by omega) qspz27581 (by omega) qfaz27581 hkf) m0 g0 rfl rfl qw_683 qw_684 qw_685 qw_5 qw_686 ⟨rfl, by decide +kernel, by decide +kernel, by decide +kernel⟩ ⟨Nat.le_of_ble_eq_true rfl, Nat.le_of_ble_eq_true rfl⟩ hl rfl rfl (Nat.le_of_ble_eq_true rfl) dX13_readAll_13 ⟨Nat.le_of_ble_eq_true rfl, Nat.le_of_ble_eq_true rfl⟩ (fun z27582 F H locs hT hz27582 => ?_)
      obtain ⟨hz27582, yz27582, ⟨soz27582, spz27582, faz27582, qsoz27582, qspz27582, qfaz27582, rsoz27582, rspz27582, rfaz27582, stz27582, ptz27582, hkf, pxz27582_0⟩⟩ := hz27582
      have pf0 := (yz27582.1 _ 4 (Or.inr (by decide)) (Or.inr (by decide)) (Or.inr (by decide)) (Or.inr (by decide)) (Or.inr (by decide)) (Or.inr (by decide))).trans pf0
      have pf1 := (yz27582.1 _ 28 (Or.inr (by decide)) (Or.inr (by decide)) (Or.inr (by decide)) (Or.inr (by decide)) (Or.inr (by decide)) (Or.inr (by decide))).trans pf1
      have pf2 := (yz27582.1 _ 29 (Or.inr (by decide)) (Or.inr (by decide)) (Or.inr (by decide)) (Or.inr (by decide)) (Or.inr (by decide)) (Or.inr (by decide))).trans pf2
      have qfaz27581 := (yz27582.1 _ 13 (Or.inr (by decide)) (Or.inr (by decide)) (Or.inr (by decide)) (Or.inr (by decide)) (Or.inr (by decide)) (Or.inr (by decide))).trans qfaz27581
      have qnaz27581 := (yz27582.1 _ 12 (Or.inr (by decide)) (Or.inr (by decide)) (Or.inr (by decide)) (Or.inr (by decide)) (Or.inl (by rw [gx0]; decide)) (Or.inr (by decide))).trans qnaz27581
      have qstz27581 := (yz27582.1 _ 7 (Or.inr (by decide)) (Or.inr (by decide)) (Or.inr (by decide)) (Or.inr (by decide)) (Or.inr (by decide)) (Or.inr (by decide))).trans qstz27581
      have qhoz27581 := (yz27582.1 _ 8 (Or.inl (by rw [gx0]; decide)) (Or.inr (by decide)) (Or.inr (by decide)) (Or.inr (by decide)) (Or.inr (by decide)) (Or.inr (by decide))).trans qhoz27581
      have qhez27581 := (yz27582.1 _ 9 (Or.inr (by decide)) (Or.inl (by rw [gx0]; decide)) (Or.inr (by decide)) (Or.inr (by decide)) (Or.inr (by decide)) (Or.inr (by decide))).trans qhez27581
      have qwaz27581 := (yz27582.1 _ 10 (Or.inr (by decide)) (Or.inr (by decide)) (Or.inl (by rw [gx0]; decide)) (Or.inr (by decide)) (Or.inr (by decide)) (Or.inr (by decide))).trans qwaz27581
      have qwiz27581 := (yz27582.1 _ 0 (Or.inr (by decide)) (Or.inr (by decide)) (Or.inr (by decide)) (Or.inr (by decide)) (Or.inr (by decide)) (Or.inr (by decide))).trans qwiz27581
      have hfr : (∀ b j : Nat, (tag b ≠ 44 ∨ j ≠ 0) → (tag b ≠ 44 ∨ j ≠ 1) → (tag b ≠ 44 ∨ j ≠ 2) → (tag b ≠ 44 ∨ j ≠ 3) → (tag b ≠ 44 ∨ j ≠ 4) → (tag b ≠ 44 ∨ j ≠ 5) → (tag b ≠ 44 ∨ j ≠ 6) → (tag b ≠ 44 ∨ j ≠ 7) → (tag b ≠ 44 ∨ j ≠ 8) → (tag b ≠ 44 ∨ j ≠ 9) → (tag b ≠ 44 ∨ j ≠ 10) → (tag b ≠ 44 ∨ j ≠ 11) → (tag b ≠ 44 ∨ j ≠ 12) → (tag b ≠ 44 ∨ j ≠ 13) → (tag b ≠ 44 ∨ j ≠ 14) → (tag b ≠ 46 ∨ j ≠ 8) → (tag b ≠ 46 ∨ j ≠ 9) → (tag b ≠ 46 ∨ j ≠ 10) → (tag b ≠ 46 ∨ j ≠ 11) → (tag b ≠ 46 ∨ j ≠ 12) → (tag b ≠ 46 ∨ j ≠ 13) → (tag b ≠ 46 ∨ j ≠ 14) → (tag b ≠ 46 ∨ j ≠ 15) → fld F b j = fld Fo b j) ∧ (∀ b j : Nat, tag b ≠ 28 → tag b ≠ 29 → tag b ≠ 30 → tag b ≠ 31 → tag b ≠ 32 → tag b ≠ 33 → tag b ≠ 34 → tag b ≠ 35 → tag b ≠ 36 → tag b ≠ 37 → elm F b j = elm Fo b j) := ⟨fun b j n44_0 n44_1 n44_2 n44_3 n44_4 n44_5 n44_6 n44_7 n44_8 n44_9 n44_10 n44_11 n44_12 n44_13 n44_14 n46_8 n46_9 n46_10 n46_11 n46_12 n46_13 n46_14 n46_15 => (yz27582.1 b j n46_8 n46_9 n46_10 n46_11 n46_12 n46_15).trans (hfr.1 b j n44_0 n44_1 n44_2 n44_3 n44_4 n44_5 n44_6 n44_7 n44_8 n44_9 n44_10 n44_11 n44_12 n44_13 n44_14 n46_8 n46_9 n46_10 n46_11 n46_12 n46_13 n46_14 n46_15), fun b j a28 a29 a30 a31 a32 a33 a34 a35 a36 a37 => (yz27582.2 b j ).trans (hfr.2 b j a28 a29 a30 a31 a32 a33 a34 a35 a36 a37)⟩
      have hrel := msr_of (fun j => yz27582.2 _ j ) (fun j => yz27582.2 _ j ) hrel
      have hstk := STK.tr hstk stz27582
      have hspt := SPT.tr hspt ptz27582
      have upz27582 := ptz27582.1
      have uqz27582 := ptz27582.2
      refine lv_istore_n (lv' := [(1, .int z27582), (0, .ref p0)]) hx hb dX13_readAll_16 rfl hl (by decide) rfl (fun ls hl => ?_)
      refine lv_goto (tgt := 2) hx hb dX13_readAll_17 (by decide) ?_
      refine lv_iload_n hx hb dX13_readAll_2 rfl (lv_at hl 0 rfl) ?_
      refine lv_if_eq (tgt := 20) hx hb dX13_readAll_3 (by decide) (fun c27583 => ?_) (fun c27583 => ?_)
      · have w27584 := cv_eq (rfl : z27582.toInt = z27582.toInt) (by decide : (0 : Int32).toInt = 0) c27583
        refine lv_aload_n hx hb dX13_readAll_20 rfl (lv_at hl 1 rfl) ?_
        refine t_get (C := RX13) (T := TX13) (N := 37) X hT m0 g0 rfl rfl 9 (by decide) qw_478 inlX13 rfl dX13_readAll_21 (fun v27585 hv27585 ov27585 => ?_)
        obtain rfl : v27585 = .int soz27582 := hv27585.symm.trans qsoz27582
        refine lv_iconst (v := 1) hx hb dX13_readAll_24 (by decide) ?_
        refine lv_icmp_eq (tgt := 33) hx hb dX13_readAll_25 (by decide) (fun c27586 => ?_) (fun c27586 => ?_)
        · have w27587 := cv_eq (rfl : soz27582.toInt = soz27582.toInt) (by decide : (1 : Int32).toInt = 1) c27586
          exact K33 z27582 faz27582 naz27581 stz27581 hoz27581 hez27581 waz27581 wiz27581 soz27582 spz27582 _ _ _ _ (by omega) (by omega) (by omega) (by omega) (by omega) (by omega) (by omega) (by omega) (by omega) (by omega) hT hfr hrel pf0 pf1 pf2 qfaz27582 qnaz27581 qstz27581 qhoz27581 qhez27581 qwaz27581 qwiz27581 qsoz27582 qspz27582 hstk hspt hkf hpl (lv_sub hl [1, 0] rfl)
        · have w27588 := cv_ne (rfl : soz27582.toInt = soz27582.toInt) (by decide : (1 : Int32).toInt = 1) c27586
          refine lv_aload_n hx hb dX13_readAll_28 rfl (lv_at hl 1 rfl) ?_
          refine lv_iconst (v := 1) hx hb dX13_readAll_29 (by decide) ?_
          refine t_cVv (n := 1) (C := RX13) (T := TX13) (N := 37) (As := [.int 1]) (rest := []) X hT (km10_X13_flaw l G tag L F hT.2.2.2 p0 1 x0 x1 x2 soz27582 spz27582 faz27582 m0 g0 (by decide) mx0 gx0 pf0 mx1 gx1 pf1 mx2 gx2 pf2 (by omega) qsoz27582 (by omega) qspz27582 (by omega) qfaz27582 hkf) m0 g0 rfl rfl qw_548 qw_549 qw_550 qw_5 qw_551 ⟨rfl, by decide +kernel, by decide +kernel, by decide +kernel⟩ ⟨Nat.le_of_ble_eq_true rfl, Nat.le_of_ble_eq_true rfl⟩ hl rfl rfl (Nat.le_of_ble_eq_true rfl) dX13_readAll_30 ⟨Nat.le_of_ble_eq_true rfl, Nat.le_of_ble_eq_true rfl⟩ (fun F H locs hT hz27589 => ?_)
          obtain ⟨yz27589, ⟨soz27589, spz27589, faz27589, qsoz27589, qspz27589, qfaz27589, rsoz27589, rspz27589, rfaz27589, stz27589, ptz27589, hkf, pxz27589_0⟩⟩ := hz27589
          have pf0 := (yz27589.1 _ 4 (Or.inr (by decide)) (Or.inr (by decide)) (Or.inr (by decide))).trans pf0
          have pf1 := (yz27589.1 _ 28 (Or.inr (by decide)) (Or.inr (by decide)) (Or.inr (by decide))).trans pf1
          have pf2 := (yz27589.1 _ 29 (Or.inr (by decide)) (Or.inr (by decide)) (Or.inr (by decide))).trans pf2
          have qnaz27581 := (yz27589.1 _ 12 (Or.inr (by decide)) (Or.inr (by decide)) (Or.inr (by decide))).trans qnaz27581
          have qstz27581 := (yz27589.1 _ 7 (Or.inr (by decide)) (Or.inr (by decide)) (Or.inr (by decide))).trans qstz27581
          have qhoz27581 := (yz27589.1 _ 8 (Or.inr (by decide)) (Or.inr (by decide)) (Or.inr (by decide))).trans qhoz27581
          have qhez27581 := (yz27589.1 _ 9 (Or.inl (by rw [gx0]; decide)) (Or.inr (by decide)) (Or.inr (by decide))).trans qhez27581
          have qwaz27581 := (yz27589.1 _ 10 (Or.inr (by decide)) (Or.inr (by decide)) (Or.inr (by decide))).trans qwaz27581
          have qwiz27581 := (yz27589.1 _ 0 (Or.inr (by decide)) (Or.inr (by decide)) (Or.inr (by decide))).trans qwiz27581
          have qspz27582 := (yz27589.1 _ 8 (Or.inr (by decide)) (Or.inr (by decide)) (Or.inr (by decide))).trans qspz27582
          have hfr : (∀ b j : Nat, (tag b ≠ 44 ∨ j ≠ 0) → (tag b ≠ 44 ∨ j ≠ 1) → (tag b ≠ 44 ∨ j ≠ 2) → (tag b ≠ 44 ∨ j ≠ 3) → (tag b ≠ 44 ∨ j ≠ 4) → (tag b ≠ 44 ∨ j ≠ 5) → (tag b ≠ 44 ∨ j ≠ 6) → (tag b ≠ 44 ∨ j ≠ 7) → (tag b ≠ 44 ∨ j ≠ 8) → (tag b ≠ 44 ∨ j ≠ 9) → (tag b ≠ 44 ∨ j ≠ 10) → (tag b ≠ 44 ∨ j ≠ 11) → (tag b ≠ 44 ∨ j ≠ 12) → (tag b ≠ 44 ∨ j ≠ 13) → (tag b ≠ 44 ∨ j ≠ 14) → (tag b ≠ 46 ∨ j ≠ 8) → (tag b ≠ 46 ∨ j ≠ 9) → (tag b ≠ 46 ∨ j ≠ 10) → (tag b ≠ 46 ∨ j ≠ 11) → (tag b ≠ 46 ∨ j ≠ 12) → (tag b ≠ 46 ∨ j ≠ 13) → (tag b ≠ 46 ∨ j ≠ 14) → (tag b ≠ 46 ∨ j ≠ 15) → fld F b j = fld Fo b j) ∧ (∀ b j : Nat, tag b ≠ 28 → tag b ≠ 29 → tag b ≠ 30 → tag b ≠ 31 → tag b ≠ 32 → tag b ≠ 33 → tag b ≠ 34 → tag b ≠ 35 → tag b ≠ 36 → tag b ≠ 37 → elm F b j = elm Fo b j) := ⟨fun b j n44_0 n44_1 n44_2 n44_3 n44_4 n44_5 n44_6 n44_7 n44_8 n44_9 n44_10 n44_11 n44_12 n44_13 n44_14 n46_8 n46_9 n46_10 n46_11 n46_12 n46_13 n46_14 n46_15 => (yz27589.1 b j n46_9 n46_13 n46_14).trans (hfr.1 b j n44_0 n44_1 n44_2 n44_3 n44_4 n44_5 n44_6 n44_7 n44_8 n44_9 n44_10 n44_11 n44_12 n44_13 n44_14 n46_8 n46_9 n46_10 n46_11 n46_12 n46_13 n46_14 n46_15), fun b j a28 a29 a30 a31 a32 a33 a34 a35 a36 a37 => (yz27589.2 b j ).trans (hfr.2 b j a28 a29 a30 a31 a32 a33 a34 a35 a36 a37)⟩
          have hrel := msr_of (fun j => yz27589.2 _ j ) (fun j => yz27589.2 _ j ) hrel
          have hstk := STK.tr hstk stz27589
          have hspt := SPT.tr hspt ptz27589
          have upz27589 := ptz27589.1
          have uqz27589 := ptz27589.2
          exact K33 z27582 faz27589 naz27581 stz27581 hoz27581 hez27581 waz27581 wiz27581 soz27589 spz27589 _ _ _ _ (by omega) (by omega) (by omega) (by omega) (by omega) (by omega) (by omega) (by omega) (by omega) (by omega) hT hfr hrel pf0 pf1 pf2 qfaz27589 qnaz27581 qstz27581 qhoz27581 qhez27581 qwaz27581 qwiz27581 qsoz27589 qspz27589 hstk hspt hkf hpl (lv_sub hl [1, 0] rfl)
      · have w27590 := cv_ne (rfl : z27582.toInt = z27582.toInt) (by decide : (0 : Int32).toInt = 0) c27583
        exact ih6 z27582 soz27582 spz27582 faz27582 naz27581 stz27581 hoz27581 hez27581 waz27581 wiz27581 _ _ _ _ (by omega) (by omega) (by omega) (by omega) (by omega) (by omega) (by omega) (by omega) (by omega) (by omega) (by omega) hT hfr hrel pf0 pf1 pf2 qsoz27582 qspz27582 qfaz27582 qnaz27581 qstz27581 qhoz27581 qhez27581 qwaz27581 qwiz27581 hstk hspt hkf hpl (lv_sub hl [1, 0] rfl)
  refine lv_iconst (v := 1) hx hb dX13_readAll_0 (by decide) ?_
  refine lv_istore_n (lv' := [(1, .int 1), (0, .ref p0)]) hx hb dX13_readAll_1 rfl hl (by decide) rfl (fun ls hl => ?_)
  refine lv_iload_n hx hb dX13_readAll_2 rfl (lv_at hl 0 rfl) ?_
  refine lv_if_eq (tgt := 20) hx hb dX13_readAll_3 (by decide) (fun c9 => absurd c9 (by decide)) (fun _ => ?_)
  have k27591 : (1 : Int32).toInt = 1 := by decide
  exact K6 1001 1 x3 x4 x5 x6 x7 x8 x9 x10 x11 _ _ _ _ (by omega) (by decide) (by omega) (by omega) (by omega) (by omega) (by omega) (by omega) (by omega) (by omega) (by omega) hT hfr hrel pf0 pf1 pf2 pf3 pf4 pf5 pf6 pf7 pf8 pf9 pf10 pf11 hstk hspt hkf hpl (lv_sub hl [1, 0] rfl)
set_option maxHeartbeats 4000000 in
set_option maxRecDepth 100000 in
theorem km83_X13_feed (l : Launch) (G : KG) (tag : Nat → Nat) (L : List Nat) (Fo : Nat → va_E) (ho : okT G ttC tag L Fo) (p0 : Nat) (p1 : Int32) (p2 : Int32) (p3 : Int32) (p4 : Int32) (p5 : Int32) (x0 : Int32) (m0 : p0 ∈ L) (g0 : tag p0 = 46) (hx0 : 0 ≤ x0.toInt ∧ x0.toInt ≤ 1000) (pf0 : fld Fo p0 6 = .int x0) : TMi l yX13_feed cX13_feed 8 (some .int) { frames := 0, cells := 0, slots := 0, locals := 0 } G ttC tag L Fo [.ref p0, .int p1, .int p2, .int p3, .int p4, .int p5] (fun r F1 => ((-2147483648) ≤ r.toInt ∧ r.toInt ≤ 2147483647) ∧ ((∀ b j : Nat, (tag b ≠ 46 ∨ j ≠ 0) → (tag b ≠ 46 ∨ j ≠ 6) → fld F1 b j = fld Fo b j) ∧ (∀ b j : Nat, tag b ≠ 27 → elm F1 b j = elm Fo b j)) ∧ (∃ z : Int32, fld F1 p0 6 = .int z ∧ (x0.toInt ≤ 980 → z.toInt = x0.toInt + 20 ∧ r.toInt = x0.toInt + 20) ∧ (980 < x0.toInt → z.toInt = x0.toInt ∧ r.toInt = -1))) := by
  refine t_bodyi (y := yX13_feed) (cd := cX13_feed) (mL := 8) (rt := (some .int)) (rm := { frames := 0, cells := 0, slots := 0, locals := 0 }) (av := [.ref p0, .int p1, .int p2, .int p3, .int p4, .int p5]) (by decide) (Nat.le_of_ble_eq_true rfl) ho ?_
  intro p e s m args below meth c ls A Q hQ X hT hl
  have hx := X.1.1
  have hb := X.1.2.1
  have hl : lv_has ls 8 [(0, .ref p0), (1, .int p1), (2, .int p2), (3, .int p3), (4, .int p4), (5, .int p5)] := hl
  have rp1 := rg_all p1
  have rp2 := rg_all p2
  have rp3 := rg_all p3
  have rp4 := rg_all p4
  have rp5 := rg_all p5
  obtain ⟨F, hFo⟩ : ∃ F : Nat → va_E, F = Fo := ⟨_, rfl⟩
  rw [← hFo] at hT pf0
  have hfr : (∀ b j : Nat, (tag b ≠ 46 ∨ j ≠ 0) → (tag b ≠ 46 ∨ j ≠ 6) → fld F b j = fld Fo b j) ∧ (∀ b j : Nat, tag b ≠ 27 → elm F b j = elm Fo b j) := by
    rw [hFo]
    exact ⟨by intros; rfl, by intros; rfl⟩
  have K23 : ∀ (n : Nat) (z28386 : Int32) (z28387 : Int32) (z28388 : Int32) (F : Nat → va_E) (H : Heap) (locs : List Loc) (ls : Array Slot), (20 - z28386.toInt < (n : Int)) → (0 ≤ z28386.toInt ∧ z28386.toInt ≤ 20) → (0 ≤ z28387.toInt ∧ z28387.toInt ≤ 1000) → (0 ≤ z28388.toInt ∧ z28388.toInt ≤ 0) → TH G ttC A s tag L F H locs → ((∀ b j : Nat, (tag b ≠ 46 ∨ j ≠ 0) → (tag b ≠ 46 ∨ j ≠ 6) → fld F b j = fld Fo b j) ∧ (∀ b j : Nat, tag b ≠ 27 → elm F b j = elm Fo b j)) → (fld F p0 6 = .int z28387) → (fld F p0 0 = .int z28388) → (z28387.toInt = x0.toInt + z28386.toInt) → (x0.toInt ≤ 980) → lv_has ls 8 [(0, .ref p0), (1, .int p1), (2, .int p2), (3, .int p3), (4, .int p4), (5, .int p5), (6, .int z28386)] → W p l e { frames := 0, cells := 0, slots := 0, locals := 0 } s m args below meth c H locs 0 0 Q (F0 m 23 ls []) := by
    intro n
    induction n with
    | zero =>
      intro z28386 z28387 z28388 F H locs ls hn rz28386 rz28387 rz28388 hT hfr qz28387 qz28388 ex23_0 ex23_1 hl
      exfalso
      omega
    | succ n ih23 =>
      intro z28386 z28387 z28388 F H locs ls hn rz28386 rz28387 rz28388 hT hfr qz28387 qz28388 ex23_0 ex23_1 hl
      have K76 : ∀ (z28390 : Int32) (z28391 : Int32) (z28392 : Int32) (F : Nat → va_E) (H : Heap) (locs : List Loc) (ls : Array Slot), (0 ≤ z28391.toInt ∧ z28391.toInt ≤ 1000) → (0 ≤ z28392.toInt ∧ z28392.toInt ≤ 0) → (0 ≤ z28386.toInt ∧ z28386.toInt ≤ 19) → TH G ttC A s tag L F H locs → ((∀ b j : Nat, (tag b ≠ 46 ∨ j ≠ 0) → (tag b ≠ 46 ∨ j ≠ 6) → fld F b j = fld Fo b j) ∧ (∀ b j : Nat, tag b ≠ 27 → elm F b j = elm Fo b j)) → (fld F p0 6 = .int z28391) → (fld F p0 0 = .int z28392) → (z28391.toInt = x0.toInt + z28386.toInt) → (x0.toInt ≤ 980) → lv_has ls 8 [(0, .ref p0), (1, .int p1), (2, .int p2), (3, .int p3), (4, .int p4), (5, .int p5), (6, .int z28386)] → W p l e { frames := 0, cells := 0, slots := 0, locals := 0 } s m args below meth c H locs 0 0 Q (F0 m 76 ls [.int z28390]) := by
        intro z28390 z28391 z28392 F H locs ls rz28391 rz28392 r9s28389 hT hfr qz28391 qz28392 ex76_0 ex76_1 hl
        have rz28390 := rg_all z28390
        refine lv_istore (lv' := [(7, .int z28390), (0, .ref p0), (1, .int p1), (2, .int p2), (3, .int p3), (4, .int p4), (5, .int p5), (6, .int z28386)]) hx hb dX13_feed_76 hl (by decide) rfl (fun ls hl => ?_)
        have w28393 : 0 ≤ z28391.toInt ∧ z28391.toInt ≤ 999 := by omega
        refine lv_aload_n hx hb dX13_feed_78 rfl (lv_at hl 1 rfl) ?_
        refine t_get (C := RX13) (T := TX13) (N := 37) X hT m0 g0 rfl rfl 5 (by decide) qw_111 inlX13 rfl dX13_feed_79 (fun v28394 hv28394 ov28394 => ?_)
        obtain ⟨b28395, rfl, mb28395, gb28395⟩ := okV_r ov28394
        have gb28395 : tag b28395 = 27 := tg_of gb28395
        refine lv_aload_n hx hb dX13_feed_82 rfl (lv_at hl 1 rfl) ?_
        refine t_get (C := RX13) (T := TX13) (N := 37) X hT m0 g0 rfl rfl 6 (by decide) qw_141 inlX13 rfl dX13_feed_83 (fun v28396 hv28396 ov28396 => ?_)
        obtain rfl : v28396 = .int z28391 := hv28396.symm.trans qz28391
        refine lv_iload hx hb dX13_feed_86 (lv_at hl 0 rfl) ?_
        refine lv_bipush (v := 24) hx hb dX13_feed_88 (by decide) ?_
        refine lv_bipush (v := 8) hx hb dX13_feed_90 (by decide) ?_
        refine lv_iload hx hb dX13_feed_92 (lv_at hl 7 rfl) ?_
        refine lv_iconst (v := 4) hx hb dX13_feed_94 (by decide) ?_
        refine lv_irem hx hb dX13_feed_95 (by decide) ?_
        refine lv_topi (fun z28397 ez28397 => ?_)
        have hz28397 : z28397.toInt = z28386.toInt % 4 := ar_rem ez28397 (rfl : z28386.toInt = z28386.toInt) (by decide : (4 : Int32).toInt = 4) (by omega) (by omega)
        have rz28397 : 0 ≤ z28397.toInt ∧ z28397.toInt ≤ 3 := by omega
        refine lv_imul hx hb dX13_feed_96 ?_
        refine lv_topi (fun z28398 ez28398 => ?_)
        have hz28398 : z28398.toInt = 8 * z28397.toInt := ar_mul ez28398 (by decide : (8 : Int32).toInt = 8) (rfl : z28397.toInt = z28397.toInt) (by omega) (by omega)
        have rz28398 : 0 ≤ z28398.toInt ∧ z28398.toInt ≤ 24 := by omega
        refine lv_isub hx hb dX13_feed_97 ?_
        refine lv_topi (fun z28399 ez28399 => ?_)
        have hz28399 : z28399.toInt = 24 - z28398.toInt := ar_sub ez28399 (by decide : (24 : Int32).toInt = 24) (rfl : z28398.toInt = z28398.toInt) (by omega) (by omega)
        have rz28399 : 0 ≤ z28399.toInt ∧ z28399.toInt ≤ 24 := by omega
        refine lv_ishr hx hb dX13_feed_98 ?_
        refine lv_topi (fun z28400 ez28400 => ?_)
        have rz28400 := rg_all z28400
        refine lv_i2b hx hb dX13_feed_99 rfl ?_
        refine lv_topi (fun z28401 ez28401 => ?_)
        have rz28401 := rg_all z28401
        refine t_bst X hT mb28395 gb28395 rfl (by omega) (show (-2147483648) ≤ (vp_nar .byte z28401).toInt ∧ (vp_nar .byte z28401).toInt ≤ 2147483647 from (rg_all _)) dX13_feed_100 (fun F H locs hT v28402 h1v28402 h2v28402 => ?_)
        have qz28391 := (h2v28402 _ _).trans qz28391
        have qz28392 := (h2v28402 _ _).trans qz28392
        have hv28394 := (h2v28402 _ _).trans hv28394
        have hfr : (∀ b j : Nat, (tag b ≠ 46 ∨ j ≠ 0) → (tag b ≠ 46 ∨ j ≠ 6) → fld F b j = fld Fo b j) ∧ (∀ b j : Nat, tag b ≠ 27 → elm F b j = elm Fo b j) := ⟨fun b j n46_0 n46_6 => (h2v28402 b j).trans (hfr.1 b j n46_0 n46_6), fun b j a27 => (h1v28402 b j (Or.inl (at_ne gb28395 a27))).trans (hfr.2 b j a27)⟩
        refine lv_aload_n hx hb dX13_feed_101 rfl (lv_at hl 1 rfl) ?_
        refine lv_dup hx hb dX13_feed_102 rfl ?_
        refine t_get (C := RX13) (T := TX13) (N := 37) X hT m0 g0 rfl rfl 6 (by decide) qw_141 inlX13 rfl dX13_feed_103 (fun v28403 hv28403 ov28403 => ?_)
        obtain rfl : v28403 = .int z28391 := hv28403.symm.trans qz28391
        refine lv_iconst (v := 1) hx hb dX13_feed_106 (by decide) ?_
        refine lv_iadd hx hb dX13_feed_107 ?_
        refine lv_topi (fun z28404 ez28404 => ?_)
        have hz28404 : z28404.toInt = z28391.toInt + 1 := ar_add ez28404 (rfl : z28391.toInt = z28391.toInt) (by decide : (1 : Int32).toInt = 1) (by omega) (by omega)
        have rz28404 : 1 ≤ z28404.toInt ∧ z28404.toInt ≤ 1000 := by omega
        refine t_put (C := RX13) (T := TX13) (N := 37) (v := .int z28404) X hT m0 g0 rfl tyX13 tyX13_ok nmX13 rfl 6 (by decide) qw_141 inlX13 rfl (by first | rfl | decide) (by first | rfl | decide) rfl (⟨_, rfl, (show 0 ≤ (z28404 : Int32).toInt from (by omega)), (show (z28404 : Int32).toInt ≤ 1000 from (by omega))⟩) dX13_feed_108 (fun F H locs hT v28405 h1v28405 h2v28405 => ?_)
        have qz28392 := (h1v28405 _ _ (Or.inr (by decide))).trans qz28392
        have hv28394 := (h1v28405 _ _ (Or.inr (by decide))).trans hv28394
        have hfr : (∀ b j : Nat, (tag b ≠ 46 ∨ j ≠ 0) → (tag b ≠ 46 ∨ j ≠ 6) → fld F b j = fld Fo b j) ∧ (∀ b j : Nat, tag b ≠ 27 → elm F b j = elm Fo b j) := ⟨fun b j n46_0 n46_6 => (h1v28405 b j (fr_ne g0 n46_6)).trans (hfr.1 b j n46_0 n46_6), fun b j a27 => (h2v28405 b j).trans (hfr.2 b j a27)⟩
        obtain ⟨z28406, ez28406⟩ : ∃ y : Int32, y = z28386 + 1 := ⟨_, rfl⟩
        have hz28406 : z28406.toInt = z28386.toInt + 1 := ar_add ez28406 rfl (by decide : (1 : Int32).toInt = 1) (by omega) (by omega)
        refine lv_iinc (v := z28406) (lv' := [(6, .int z28406), (7, .int z28390), (0, .ref p0), (1, .int p1), (2, .int p2), (3, .int p3), (4, .int p4), (5, .int p5)]) hx hb dX13_feed_111 hl (k := 7) rfl (by rw [ez28406]; rfl) (by decide) rfl (fun ls hl => ?_)
        refine lv_goto (tgt := 23) hx hb dX13_feed_114 (by decide) ?_
        exact ih23 z28406 z28404 z28392 _ _ _ _ (by omega) (by omega) (by omega) (by omega) hT hfr v28405 qz28392 (by omega) (by omega) (lv_sub hl [2, 3, 4, 5, 6, 7, 0] rfl)
      refine lv_iload hx hb dX13_feed_23 (lv_at hl 6 rfl) ?_
      refine lv_bipush (v := 20) hx hb dX13_feed_25 (by decide) ?_
      refine lv_icmp_ge (tgt := 117) hx hb dX13_feed_27 (by decide) (fun c28407 => ?_) (fun c28407 => ?_)
      · have w28408 := cv_le (by decide : (20 : Int32).toInt = 20) (rfl : z28386.toInt = z28386.toInt) c28407
        refine lv_aload_n hx hb dX13_feed_117 rfl (lv_at hl 0 rfl) ?_
        refine t_get (C := RX13) (T := TX13) (N := 37) X hT m0 g0 rfl rfl 6 (by decide) qw_141 inlX13 rfl dX13_feed_118 (fun v28409 hv28409 ov28409 => ?_)
        obtain rfl : v28409 = .int z28387 := hv28409.symm.trans qz28387
        exact t_iret hQ X hT (⟨rg_all _, hfr, ⟨_, qz28387, by omega, by omega⟩⟩) (Nat.le_of_ble_eq_true rfl) (Nat.le_of_ble_eq_true rfl) dX13_feed_121
      · have w28410 := cv_nle (by decide : (20 : Int32).toInt = 20) (rfl : z28386.toInt = z28386.toInt) c28407
        refine lv_iload hx hb dX13_feed_30 (lv_at hl 6 rfl) ?_
        refine lv_iconst (v := 4) hx hb dX13_feed_32 (by decide) ?_
        refine lv_icmp_ge (tgt := 40) hx hb dX13_feed_33 (by decide) (fun c28411 => ?_) (fun c28411 => ?_)
        · have w28412 := cv_le (by decide : (4 : Int32).toInt = 4) (rfl : z28386.toInt = z28386.toInt) c28411
          refine lv_iload hx hb dX13_feed_40 (lv_at hl 6 rfl) ?_
          refine lv_bipush (v := 8) hx hb dX13_feed_42 (by decide) ?_
          refine lv_icmp_ge (tgt := 51) hx hb dX13_feed_44 (by decide) (fun c28413 => ?_) (fun c28413 => ?_)
          · have w28414 := cv_le (by decide : (8 : Int32).toInt = 8) (rfl : z28386.toInt = z28386.toInt) c28413
            refine lv_iload hx hb dX13_feed_51 (lv_at hl 6 rfl) ?_
            refine lv_bipush (v := 12) hx hb dX13_feed_53 (by decide) ?_
            refine lv_icmp_ge (tgt := 62) hx hb dX13_feed_55 (by decide) (fun c28415 => ?_) (fun c28415 => ?_)
            · have w28416 := cv_le (by decide : (12 : Int32).toInt = 12) (rfl : z28386.toInt = z28386.toInt) c28415
              refine lv_iload hx hb dX13_feed_62 (lv_at hl 6 rfl) ?_
              refine lv_bipush (v := 16) hx hb dX13_feed_64 (by decide) ?_
              refine lv_icmp_ge (tgt := 74) hx hb dX13_feed_66 (by decide) (fun c28417 => ?_) (fun c28417 => ?_)
              · have w28418 := cv_le (by decide : (16 : Int32).toInt = 16) (rfl : z28386.toInt = z28386.toInt) c28417
                refine lv_iload hx hb dX13_feed_74 (lv_at hl 5 rfl) ?_
                exact K76 p5 z28387 z28388 _ _ _ _ (by omega) (by omega) (by omega) hT hfr qz28387 qz28388 (by omega) (by omega) (lv_sub hl [0, 1, 2, 3, 4, 5, 6] rfl)
              · have w28419 := cv_nle (by decide : (16 : Int32).toInt = 16) (rfl : z28386.toInt = z28386.toInt) c28417
                refine lv_iload hx hb dX13_feed_69 (lv_at hl 4 rfl) ?_
                refine lv_goto (tgt := 76) hx hb dX13_feed_71 (by decide) ?_
                exact K76 p4 z28387 z28388 _ _ _ _ (by omega) (by omega) (by omega) hT hfr qz28387 qz28388 (by omega) (by omega) (lv_sub hl [0, 1, 2, 3, 4, 5, 6] rfl)
            · have w28420 := cv_nle (by decide : (12 : Int32).toInt = 12) (rfl : z28386.toInt = z28386.toInt) c28415
              refine lv_iload_n hx hb dX13_feed_58 rfl (lv_at hl 3 rfl) ?_
              refine lv_goto (tgt := 76) hx hb dX13_feed_59 (by decide) ?_
              exact K76 p3 z28387 z28388 _ _ _ _ (by omega) (by omega) (by omega) hT hfr qz28387 qz28388 (by omega) (by omega) (lv_sub hl [0, 1, 2, 3, 4, 5, 6] rfl)
          · have w28421 := cv_nle (by decide : (8 : Int32).toInt = 8) (rfl : z28386.toInt = z28386.toInt) c28413
            refine lv_iload_n hx hb dX13_feed_47 rfl (lv_at hl 2 rfl) ?_
            refine lv_goto (tgt := 76) hx hb dX13_feed_48 (by decide) ?_
            exact K76 p2 z28387 z28388 _ _ _ _ (by omega) (by omega) (by omega) hT hfr qz28387 qz28388 (by omega) (by omega) (lv_sub hl [0, 1, 2, 3, 4, 5, 6] rfl)
        · have w28422 := cv_nle (by decide : (4 : Int32).toInt = 4) (rfl : z28386.toInt = z28386.toInt) c28411
          refine lv_iload_n hx hb dX13_feed_36 rfl (lv_at hl 1 rfl) ?_
          refine lv_goto (tgt := 76) hx hb dX13_feed_37 (by decide) ?_
          exact K76 p1 z28387 z28388 _ _ _ _ (by omega) (by omega) (by omega) hT hfr qz28387 qz28388 (by omega) (by omega) (lv_sub hl [0, 1, 2, 3, 4, 5, 6] rfl)
  refine lv_aload_n hx hb dX13_feed_0 rfl (lv_at hl 0 rfl) ?_
  refine lv_iconst (v := 0) hx hb dX13_feed_1 (by decide) ?_
  refine t_put (C := RX13) (T := TX13) (N := 37) (v := .int 0) X hT m0 g0 rfl tyX13 tyX13_ok nmX13 rfl 0 (by decide) qw_140 inlX13 rfl (by first | rfl | decide) (by first | rfl | decide) rfl (⟨_, rfl, (show (-2147483648) ≤ (0 : Int32).toInt from (by decide)), (show (0 : Int32).toInt ≤ 2147483647 from (by decide))⟩) dX13_feed_2 (fun F H locs hT v28423 h1v28423 h2v28423 => ?_)
  have pf0 := (h1v28423 _ _ (Or.inr (by decide))).trans pf0
  have hfr : (∀ b j : Nat, (tag b ≠ 46 ∨ j ≠ 0) → (tag b ≠ 46 ∨ j ≠ 6) → fld F b j = fld Fo b j) ∧ (∀ b j : Nat, tag b ≠ 27 → elm F b j = elm Fo b j) := ⟨fun b j n46_0 n46_6 => (h1v28423 b j (fr_ne g0 n46_0)).trans (hfr.1 b j n46_0 n46_6), fun b j a27 => (h2v28423 b j).trans (hfr.2 b j a27)⟩
  refine lv_aload_n hx hb dX13_feed_5 rfl (lv_at hl 0 rfl) ?_
  refine t_get (C := RX13) (T := TX13) (N := 37) X hT m0 g0 rfl rfl 6 (by decide) qw_141 inlX13 rfl dX13_feed_6 (fun v28424 hv28424 ov28424 => ?_)
  obtain rfl : v28424 = .int x0 := hv28424.symm.trans pf0
  refine lv_bipush (v := 20) hx hb dX13_feed_9 (by decide) ?_
  refine lv_iadd hx hb dX13_feed_11 ?_
  refine lv_topi (fun z28425 ez28425 => ?_)
  have hz28425 : z28425.toInt = x0.toInt + 20 := ar_add ez28425 (rfl : x0.toInt = x0.toInt) (by decide : (20 : Int32).toInt = 20) (by omega) (by omega)
  have rz28425 : 20 ≤ z28425.toInt ∧ z28425.toInt ≤ 1020 := by omega
  refine lv_sipush (v := 1000) hx hb dX13_feed_12 (by decide) ?_
  refine lv_icmp_le (tgt := 20) hx hb dX13_feed_15 (by decide) (fun c28426 => ?_) (fun c28426 => ?_)
  · have w28427 := cv_le (rfl : z28425.toInt = z28425.toInt) (by decide : (1000 : Int32).toInt = 1000) c28426
    refine lv_iconst (v := 0) hx hb dX13_feed_20 (by decide) ?_
    refine lv_istore (lv' := [(6, .int 0), (0, .ref p0), (1, .int p1), (2, .int p2), (3, .int p3), (4, .int p4), (5, .int p5)]) hx hb dX13_feed_21 hl (by decide) rfl (fun ls hl => ?_)
    have k28428 : (0 : Int32).toInt = 0 := by decide
    have k28429 : (0 : Int32).toInt = 0 := by decide
    exact K23 21 0 x0 0 _ _ _ _ (by omega) (by decide) (by omega) (by decide) hT hfr pf0 v28423 (by omega) (by omega) (lv_sub hl [1, 2, 3, 4, 5, 6, 0] rfl)
  · have w28430 := cv_nle (rfl : z28425.toInt = z28425.toInt) (by decide : (1000 : Int32).toInt = 1000) c28426
    refine lv_iconst (v := (-1)) hx hb dX13_feed_18 (by decide) ?_
    have k28431 : ((-1) : Int32).toInt = (-1) := by decide
    exact t_iret hQ X hT (⟨rg_all _, hfr, ⟨_, pf0, by omega, by omega⟩⟩) (Nat.le_of_ble_eq_true rfl) (Nat.le_of_ble_eq_true rfl) dX13_feed_19
