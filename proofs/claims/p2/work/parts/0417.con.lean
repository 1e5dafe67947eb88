set_option maxHeartbeats 4000000 in
set_option maxRecDepth 100000 in
theorem km81_X13_eatsSign (l : Launch) (G : KG) (tag : Nat → Nat) (L : List Nat) (Fo : Nat → va_E) (ho : okT G ttC tag L Fo) (p0 : Nat) (p1 : Int32) (x0 : Nat) (x1 : Nat) (x2 : Nat) (x3 : Int32) (x4 : Int32) (x5 : Int32) (m0 : p0 ∈ L) (g0 : tag p0 = 46) (mx0 : x0 ∈ L) (gx0 : tag x0 = 44) (pf0 : fld Fo p0 4 = .ref x0) (mx1 : x1 ∈ L) (gx1 : tag x1 = 35) (pf1 : fld Fo x0 28 = .ref x1) (mx2 : x2 ∈ L) (gx2 : tag x2 = 36) (pf2 : fld Fo x0 29 = .ref x2) (hx3 : 0 ≤ x3.toInt ∧ x3.toInt ≤ 5) (pf3 : fld Fo p0 9 = .int x3) (hx4 : 0 ≤ x4.toInt ∧ x4.toInt ≤ 1000) (pf4 : fld Fo p0 8 = .int x4) (hx5 : 0 ≤ x5.toInt ∧ x5.toInt ≤ 7) (pf5 : fld Fo p0 13 = .int x5) (hkf : KF x3 x5) : TMi l yX13_eatsSign cX13_eatsSign 3 (some .boolean) { frames := 2, cells := 0, slots := 0, locals := 43 } G ttC tag L Fo [.ref p0, .int p1] (fun r F1 => (0 ≤ r.toInt ∧ r.toInt ≤ 1) ∧ ((∀ b j : Nat, (tag b ≠ 46 ∨ j ≠ 8) → (tag b ≠ 46 ∨ j ≠ 9) → (tag b ≠ 46 ∨ j ≠ 10) → (tag b ≠ 46 ∨ j ≠ 11) → (tag b ≠ 46 ∨ j ≠ 12) → (tag b ≠ 46 ∨ j ≠ 15) → fld F1 b j = fld Fo b j) ∧ (∀ b j : Nat, elm F1 b j = elm Fo b j)) ∧ (∃ so sp fa : Int32, fld F1 p0 9 = .int so ∧ fld F1 p0 8 = .int sp ∧ fld F1 p0 13 = .int fa ∧ (0 ≤ so.toInt ∧ so.toInt ≤ 5) ∧ (0 ≤ sp.toInt ∧ sp.toInt ≤ 1000) ∧ (0 ≤ fa.toInt ∧ fa.toInt ≤ 7) ∧ STK x3 so ∧ SPT x3 x4 so sp ∧ KF so fa ∧ (r.toInt ≠ 0 → x3.toInt = 4))) := by
  refine t_bodyi (y := yX13_eatsSign) (cd := cX13_eatsSign) (mL := 3) (rt := (some .boolean)) (rm := { frames := 2, cells := 0, slots := 0, locals := 43 }) (av := [.ref p0, .int p1]) (by decide) (Nat.le_of_ble_eq_true rfl) ho ?_
  intro p e s m args below meth c ls A Q hQ X hT hl
  have hx := X.1.1
  have hb := X.1.2.1
  have hl : lv_has ls 3 [(0, .ref p0), (1, .int p1)] := hl
  have rp1 := rg_all p1
  obtain ⟨F, hFo⟩ : ∃ F : Nat → va_E, F = Fo := ⟨_, rfl⟩
  rw [← hFo] at hT pf0 pf1 pf2 pf3 pf4 pf5
  have hfr : (∀ b j : Nat, (tag b ≠ 46 ∨ j ≠ 8) → (tag b ≠ 46 ∨ j ≠ 9) → (tag b ≠ 46 ∨ j ≠ 10) → (tag b ≠ 46 ∨ j ≠ 11) → (tag b ≠ 46 ∨ j ≠ 12) → (tag b ≠ 46 ∨ j ≠ 15) → fld F b j = fld Fo b j) ∧ (∀ b j : Nat, elm F b j = elm Fo b j) := by
    rw [hFo]
    exact ⟨by intros; rfl, by intros; rfl⟩
  have hstk : STK x3 x3 := STK.rf
  have hspt : SPT x3 x4 x3 x4 := SPT.rf
  refine lv_aload_n hx hb dX13_eatsSign_0 rfl (lv_at hl 0 rfl) ?_
  refine t_get (C := RX13) (T := TX13) (N := 37) X hT m0 g0 rfl rfl 9 (by decide) qw_478 inlX13 rfl dX13_eatsSign_1 (fun v27365 hv27365 ov27365 => ?_)
  obtain rfl : v27365 = .int x3 := hv27365.symm.trans pf3
  refine lv_iconst (v := 4) hx hb dX13_eatsSign_4 (by decide) ?_
  refine lv_icmp_ne (tgt := 20) hx hb dX13_eatsSign_5 (by decide) (fun c27366 => ?_) (fun c27366 => ?_)
  · have w27367 := cv_ne (rfl : x3.toInt = x3.toInt) (by decide : (4 : Int32).toInt = 4) c27366
    refine lv_iconst (v := 0) hx hb dX13_eatsSign_20 (by decide) ?_
    refine lv_istore_n (lv' := [(2, .int 0), (0, .ref p0), (1, .int p1)]) hx hb dX13_eatsSign_21 rfl hl (by decide) rfl (fun ls hl => ?_)
    refine lv_iload_n hx hb dX13_eatsSign_22 rfl (lv_at hl 0 rfl) ?_
    refine lv_if_eq (tgt := 30) hx hb dX13_eatsSign_23 (by decide) (fun _ => ?_) (fun c9 => absurd c9 (by decide))
    refine lv_iload_n hx hb dX13_eatsSign_30 rfl (lv_at hl 0 rfl) ?_
    have k27368 : (0 : Int32).toInt = 0 := by decide
    exact t_zret hQ X hT (by decide) (⟨(by decide), hfr, ⟨x3, x4, x5, pf3, pf4, pf5, (by omega), (by omega), (by omega), hstk, hspt, hkf, (by omega)⟩⟩) (Nat.le_of_ble_eq_true rfl) (Nat.le_of_ble_eq_true rfl) dX13_eatsSign_31
  · have w27369 := cv_eq (rfl : x3.toInt = x3.toInt) (by decide : (4 : Int32).toInt = 4) c27366
    refine lv_aload_n hx hb dX13_eatsSign_8 rfl (lv_at hl 0 rfl) ?_
    refine t_get (C := RX13) (T := TX13) (N := 37) X hT m0 g0 rfl rfl 11 (by decide) qw_513 inlX13 rfl dX13_eatsSign_9 (fun v27370 hv27370 ov27370 => ?_)
    obtain ⟨z27371, rfl, rz27371⟩ := okV_i ov27370
    refine lv_iload_n hx hb dX13_eatsSign_12 rfl (lv_at hl 1 rfl) ?_
    refine lv_icmp_ne (tgt := 20) hx hb dX13_eatsSign_13 (by decide) (fun c27372 => ?_) (fun c27372 => ?_)
    · have w27373 := cv_ne (rfl : z27371.toInt = z27371.toInt) (rfl : p1.toInt = p1.toInt) c27372
      refine lv_iconst (v := 0) hx hb dX13_eatsSign_20 (by decide) ?_
      refine lv_istore_n (lv' := [(2, .int 0), (0, .ref p0), (1, .int p1)]) hx hb dX13_eatsSign_21 rfl hl (by decide) rfl (fun ls hl => ?_)
      refine lv_iload_n hx hb dX13_eatsSign_22 rfl (lv_at hl 0 rfl) ?_
      refine lv_if_eq (tgt := 30) hx hb dX13_eatsSign_23 (by decide) (fun _ => ?_) (fun c9 => absurd c9 (by decide))
      refine lv_iload_n hx hb dX13_eatsSign_30 rfl (lv_at hl 0 rfl) ?_
      have k27374 : (0 : Int32).toInt = 0 := by decide
      exact t_zret hQ X hT (by decide) (⟨(by decide), hfr, ⟨x3, x4, x5, pf3, pf4, pf5, (by omega), (by omega), (by omega), hstk, hspt, hkf, (by omega)⟩⟩) (Nat.le_of_ble_eq_true rfl) (Nat.le_of_ble_eq_true rfl) dX13_eatsSign_31
    · have w27375 := cv_eq (rfl : z27371.toInt = z27371.toInt) (rfl : p1.toInt = p1.toInt) c27372
      refine lv_iconst (v := 1) hx hb dX13_eatsSign_16 (by decide) ?_
      refine lv_goto (tgt := 21) hx hb dX13_eatsSign_17 (by decide) ?_
      refine lv_istore_n (lv' := [(2, .int 1), (0, .ref p0), (1, .int p1)]) hx hb dX13_eatsSign_21 rfl hl (by decide) rfl (fun ls hl => ?_)
      refine lv_iload_n hx hb dX13_eatsSign_22 rfl (lv_at hl 0 rfl) ?_
      refine lv_if_eq (tgt := 30) hx hb dX13_eatsSign_23 (by decide) (fun c9 => absurd c9 (by decide)) (fun _ => ?_)
      refine lv_aload_n hx hb dX13_eatsSign_26 rfl (lv_at hl 1 rfl) ?_
      refine t_cVv (n := 0) (C := RX13) (T := TX13) (N := 37) (As := []) (rest := []) X hT (km14_X13_goesOn l G tag L F hT.2.2.2 p0 x0 x1 x2 x3 x4 x5 m0 g0 mx0 gx0 pf0 mx1 gx1 pf1 mx2 gx2 pf2 (by omega) pf3 (by omega) pf4 (by omega) pf5 hkf) m0 g0 rfl rfl qw_508 qw_509 qw_510 qw_5 qw_511 ⟨rfl, by decide +kernel, by decide +kernel, by decide +kernel⟩ ⟨Nat.le_of_ble_eq_true rfl, Nat.le_of_ble_eq_true rfl⟩ hl rfl rfl (Nat.le_of_ble_eq_true rfl) dX13_eatsSign_27 ⟨Nat.le_of_ble_eq_true rfl, Nat.le_of_ble_eq_true rfl⟩ (fun F H locs hT hz27376 => ?_)
      obtain ⟨yz27376, ⟨soz27376, spz27376, faz27376, qsoz27376, qspz27376, qfaz27376, rsoz27376, rspz27376, rfaz27376, stz27376, ptz27376, hkf⟩⟩ := hz27376
      have pf0 := (yz27376.1 _ 4 (Or.inr (by decide)) (Or.inr (by decide)) (Or.inr (by decide)) (Or.inr (by decide)) (Or.inr (by decide)) (Or.inr (by decide))).trans pf0
      have pf1 := (yz27376.1 _ 28 (Or.inr (by decide)) (Or.inr (by decide)) (Or.inr (by decide)) (Or.inr (by decide)) (Or.inr (by decide)) (Or.inr (by decide))).trans pf1
      have pf2 := (yz27376.1 _ 29 (Or.inr (by decide)) (Or.inr (by decide)) (Or.inr (by decide)) (Or.inr (by decide)) (Or.inr (by decide)) (Or.inr (by decide))).trans pf2
      have pf5 := (yz27376.1 _ 13 (Or.inr (by decide)) (Or.inr (by decide)) (Or.inr (by decide)) (Or.inr (by decide)) (Or.inr (by decide)) (Or.inr (by decide))).trans pf5
      have hfr : (∀ b j : Nat, (tag b ≠ 46 ∨ j ≠ 8) → (tag b ≠ 46 ∨ j ≠ 9) → (tag b ≠ 46 ∨ j ≠ 10) → (tag b ≠ 46 ∨ j ≠ 11) → (tag b ≠ 46 ∨ j ≠ 12) → (tag b ≠ 46 ∨ j ≠ 15) → fld F b j = fld Fo b j) ∧ (∀ b j : Nat, elm F b j = elm Fo b j) := ⟨fun b j n46_8 n46_9 n46_10 n46_11 n46_12 n46_15 => (yz27376.1 b j n46_8 n46_9 n46_10 n46_11 n46_12 n46_15).trans (hfr.1 b j n46_8 n46_9 n46_10 n46_11 n46_12 n46_15), fun b j  => (yz27376.2 b j ).trans (hfr.2 b j )⟩
      have hstk := STK.tr hstk stz27376
      have hspt := SPT.tr hspt ptz27376
      refine lv_iload_n hx hb dX13_eatsSign_30 rfl (lv_at hl 0 rfl) ?_
      have k27377 : (1 : Int32).toInt = 1 := by decide
      exact t_zret hQ X hT (by decide) (⟨(by decide), hfr, ⟨soz27376, spz27376, faz27376, qsoz27376, qspz27376, qfaz27376, (by omega), (by omega), (by omega), hstk, hspt, hkf, (by omega)⟩⟩) (Nat.le_of_ble_eq_true rfl) (Nat.le_of_ble_eq_true rfl) dX13_eatsSign_31
set_option maxHeartbeats 4000000 in
set_option maxRecDepth 100000 in
theorem km82_X13_readAll (l : Launch) (G : KG) (tag : Nat → Nat) (L : List Nat) (Fo : Nat → va_E) (ho : okT G ttC tag L Fo) (p0 : Nat) (x0 : Nat) (x1 : Nat) (x2 : Nat) (x3 : Int32) (x4 : Int32) (x5 : Int32) (x6 : Int32) (x7 : Int32) (x8 : Int32) (x9 : Int32) (x10 : Int32) (x11 : Int32) (m0 : p0 ∈ L) (g0 : tag p0 = 46) (mx0 : x0 ∈ L) (gx0 : tag x0 = 44) (pf0 : fld Fo p0 4 = .ref x0) (mx1 : x1 ∈ L) (gx1 : tag x1 = 35) (pf1 : fld Fo x0 28 = .ref x1) (mx2 : x2 ∈ L) (gx2 : tag x2 = 36) (pf2 : fld Fo x0 29 = .ref x2) (hx3 : 0 ≤ x3.toInt ∧ x3.toInt ≤ 5) (pf3 : fld Fo p0 9 = .int x3) (hx4 : 0 ≤ x4.toInt ∧ x4.toInt ≤ 1000) (pf4 : fld Fo p0 8 = .int x4) (hx5 : 0 ≤ x5.toInt ∧ x5.toInt ≤ 7) (pf5 : fld Fo p0 13 = .int x5) (hx6 : 0 ≤ x6.toInt ∧ x6.toInt ≤ 32) (pf6 : fld Fo x0 12 = .int x6) (hx7 : 0 ≤ x7.toInt ∧ x7.toInt ≤ 4) (pf7 : fld Fo x0 7 = .int x7) (hx8 : 0 ≤ x8.toInt ∧ x8.toInt ≤ 4) (pf8 : fld Fo x0 8 = .int x8) (hx9 : 0 ≤ x9.toInt ∧ x9.toInt ≤ 6) (pf9 : fld Fo x0 9 = .int x9) (hx10 : 0 ≤ x10.toInt ∧ x10.toInt ≤ 6) (pf10 : fld Fo x0 10 = .int x10) (hx11 : 0 ≤ x11.toInt ∧ x11.toInt ≤ 12) (pf11 : fld Fo x0 0 = .int x11) (hrel : MSR Fo x1 x2) (hkf : KF x3 x5) (hpl : PLr x6 x7 x8 x9 x10 x11) : TMv l yX13_readAll cX13_readAll 2 { frames := 11, cells := 0, slots := 0, locals := 240 } G ttC tag L Fo [.ref p0] (fun F1 => ((∀ b j : Nat, (tag b ≠ 44 ∨ j ≠ 0) → (tag b ≠ 44 ∨ j ≠ 1) → (tag b ≠ 44 ∨ j ≠ 2) → (tag b ≠ 44 ∨ j ≠ 3) → (tag b ≠ 44 ∨ j ≠ 4) → (tag b ≠ 44 ∨ j ≠ 5) → (tag b ≠ 44 ∨ j ≠ 6) → (tag b ≠ 44 ∨ j ≠ 7) → (tag b ≠ 44 ∨ j ≠ 8) → (tag b ≠ 44 ∨ j ≠ 9) → (tag b ≠ 44 ∨ j ≠ 10) → (tag b ≠ 44 ∨ j ≠ 11) → (tag b ≠ 44 ∨ j ≠ 12) → (tag b ≠ 44 ∨ j ≠ 13) → (tag b ≠ 44 ∨ j ≠ 14) → (tag b ≠ 46 ∨ j ≠ 8) → (tag b ≠ 46 ∨ j ≠ 9) → (tag b ≠ 46 ∨ j ≠ 10) → (tag b ≠ 46 ∨ j ≠ 11) → (tag b ≠ 46 ∨ j ≠ 12) → (tag b ≠ 46 ∨ j ≠ 13) → (tag b ≠ 46 ∨ j ≠ 14) → (tag b ≠ 46 ∨ j ≠ 15) → fld F1 b j = fld Fo b j) ∧ (∀ b j : Nat, tag b ≠ 28 → tag b ≠ 29 → tag b ≠ 30 → tag b ≠ 31 → tag b ≠ 32 → tag b ≠ 33 → tag b ≠ 34 → tag b ≠ 35 → tag b ≠ 36 → tag b ≠ 37 → elm F1 b j = elm Fo b j)) ∧ (MSR F1 x1 x2) ∧ (∃ so sp fa : Int32, fld F1 p0 9 = .int so ∧ fld F1 p0 8 = .int sp ∧ fld F1 p0 13 = .int fa ∧ (0 ≤ so.toInt ∧ so.toInt ≤ 5) ∧ (0 ≤ sp.toInt ∧ sp.toInt ≤ 1000) ∧ (0 ≤ fa.toInt ∧ fa.toInt ≤ 7) ∧ STK x3 so ∧ SPT x3 x4 so sp ∧ KF so fa) ∧ (∃ na st ho he wa wi : Int32, fld F1 x0 12 = .int na ∧ fld F1 x0 7 = .int st ∧ fld F1 x0 8 = .int ho ∧ fld F1 x0 9 = .int he ∧ fld F1 x0 10 = .int wa ∧ fld F1 x0 0 = .int wi ∧ (0 ≤ na.toInt ∧ na.toInt ≤ 32) ∧ (0 ≤ st.toInt ∧ st.toInt ≤ 4) ∧ (0 ≤ ho.toInt ∧ ho.toInt ≤ 4) ∧ (0 ≤ he.toInt ∧ he.toInt ≤ 6) ∧ (0 ≤ wa.toInt ∧ wa.toInt ≤ 6) ∧ (0 ≤ wi.toInt ∧ wi.toInt ≤ 12) ∧ PLr na st ho he wa wi) ∧ (∀ a9 w9 : Int32, fld F1 p0 13 = .int a9 → fld F1 x0 0 = .int w9 → a9.toInt = 0 → 1 ≤ w9.toInt)) := by
  refine t_bodyv (y := yX13_readAll) (cd := cX13_readAll) (mL := 2) (rm := { frames := 11, cells := 0, slots := 0, locals := 240 }) (av := [.ref p0]) (by decide) (Nat.le_of_ble_eq_true rfl) ho ?_
  intro p e s m args below meth c ls A Q hQ X hT hl
  have hx := X.1.1
  have hb := X.1.2.1
  have hl : lv_has ls 2 [(0, .ref p0)] := hl
  obtain ⟨F, hFo⟩ : ∃ F : Nat → va_E, F = Fo := ⟨_, rfl⟩
  rw [← hFo] at hT pf0 pf1 pf2 pf3 pf4 pf5 pf6 pf7 pf8 pf9 pf10 pf11 hrel
  have hfr : (∀ b j : Nat, (tag b ≠ 44 ∨ j ≠ 0) → (tag b ≠ 44 ∨ j ≠ 1) → (tag b ≠ 44 ∨ j ≠ 2) → (tag b ≠ 44 ∨ j ≠ 3) → (tag b ≠ 44 ∨ j ≠ 4) → (tag b ≠ 44 ∨ j ≠ 5) → (tag b ≠ 44 ∨ j ≠ 6) → (tag b ≠ 44 ∨ j ≠ 7) → (tag b ≠ 44 ∨ j ≠ 8) → (tag b ≠ 44 ∨ j ≠ 9) → (tag b ≠ 44 ∨ j ≠ 10) → (tag b ≠ 44 ∨ j ≠ 11) → (tag b ≠ 44 ∨ j ≠ 12) → (tag b ≠ 44 ∨ j ≠ 13) → (tag b ≠ 44 ∨ j ≠ 14) → (tag b ≠ 46 ∨ j ≠ 8) → (tag b ≠ 46 ∨ j ≠ 9) → (tag b ≠ 46 ∨ j ≠ 10) → (tag b ≠ 46 ∨ j ≠ 11) → (tag b ≠ 46 ∨ j ≠ 12) → (tag b ≠ 46 ∨ j ≠ 13) → (tag b ≠ 46 ∨ j ≠ 14) → (tag b ≠ 46 ∨ j ≠ 15) → fld F b j = fld Fo b j) ∧ (∀ b j : Nat, tag b ≠ 28 → tag b ≠ 29 → tag b ≠ 30 → tag b ≠ 31 → tag b ≠ 32 → tag b ≠ 33 → tag b ≠ 34 → tag b ≠ 35 → tag b ≠ 36 → tag b ≠ 37 → elm F b j = elm Fo b j) := by
    rw [hFo]
    exact ⟨by intros; rfl, by intros; rfl⟩
  have hstk : STK x3 x3 := STK.rf
  have hspt : SPT x3 x4 x3 x4 := SPT.rf
  have K64 : ∀ (z27710 : Int32) (z27711 : Int32) (z27712 : Int32) (z27713 : Int32) (z27714 : Int32) (z27715 : Int32) (z27716 : Int32) (z27717 : Int32) (z27718 : Int32) (z27719 : Int32) (z27720 : Int32) (F : Nat → va_E) (H : Heap) (locs : List Loc) (ls : Array Slot), (0 ≤ z27710.toInt ∧ z27710.toInt ≤ 0) → (0 ≤ z27711.toInt ∧ z27711.toInt ≤ 7) → (0 ≤ z27712.toInt ∧ z27712.toInt ≤ 32) → (0 ≤ z27713.toInt ∧ z27713.toInt ≤ 4) → (0 ≤ z27714.toInt ∧ z27714.toInt ≤ 4) → (0 ≤ z27715.toInt ∧ z27715.toInt ≤ 6) → (0 ≤ z27716.toInt ∧ z27716.toInt ≤ 6) → (0 ≤ z27717.toInt ∧ z27717.toInt ≤ 12) → (1 ≤ z27718.toInt ∧ z27718.toInt ≤ 5) → (0 ≤ z27719.toInt ∧ z27719.toInt ≤ 1000) → TH G ttC A s tag L F H locs → ((∀ b j : Nat, (tag b ≠ 44 ∨ j ≠ 0) → (tag b ≠ 44 ∨ j ≠ 1) → (tag b ≠ 44 ∨ j ≠ 2) → (tag b ≠ 44 ∨ j ≠ 3) → (tag b ≠ 44 ∨ j ≠ 4) → (tag b ≠ 44 ∨ j ≠ 5) → (tag b ≠ 44 ∨ j ≠ 6) → (tag b ≠ 44 ∨ j ≠ 7) → (tag b ≠ 44 ∨ j ≠ 8) → (tag b ≠ 44 ∨ j ≠ 9) → (tag b ≠ 44 ∨ j ≠ 10) → (tag b ≠ 44 ∨ j ≠ 11) → (tag b ≠ 44 ∨ j ≠ 12) → (tag b ≠ 44 ∨ j ≠ 13) → (tag b ≠ 44 ∨ j ≠ 14) → (tag b ≠ 46 ∨ j ≠ 8) → (tag b ≠ 46 ∨ j ≠ 9) → (tag b ≠ 46 ∨ j ≠ 10) → (tag b ≠ 46 ∨ j ≠ 11) → (tag b ≠ 46 ∨ j ≠ 12) → (tag b ≠ 46 ∨ j ≠ 13) → (tag b ≠ 46 ∨ j ≠ 14) → (tag b ≠ 46 ∨ j ≠ 15) → fld F b j = fld Fo b j) ∧ (∀ b j : Nat, tag b ≠ 28 → tag b ≠ 29 → tag b ≠ 30 → tag b ≠ 31 → tag b ≠ 32 → tag b ≠ 33 → tag b ≠ 34 → tag b ≠ 35 → tag b ≠ 36 → tag b ≠ 37 → elm F b j = elm Fo b j)) → MSR F x1 x2 → (fld F p0 4 = .ref x0) → (fld F x0 28 = .ref x1) → (fld F x0 29 = .ref x2) → (fld F p0 13 = .int z27711) → (fld F x0 12 = .int z27712) → (fld F x0 7 = .int z27713) → (fld F x0 8 = .int z27714) → (fld F x0 9 = .int z27715) → (fld F x0 10 = .int z27716) → (fld F x0 0 = .int z27717) → (fld F p0 9 = .int z27718) → (fld F p0 8 = .int z27719) → (fld F x0 2 = .int z27720) → (STK x3 z27718) → (SPT x3 x4 z27718 z27719) → (KF z27718 z27711) → (PLr z27712 z27713 z27714 z27715 z27716 z27717) → lv_has ls 2 [(0, .ref p0), (1, .int z27710)] → W p l e { frames := 11, cells := 0, slots := 0, locals := 240 } s m args below meth c H locs 0 0 Q (F0 m 64 ls []) := by
    intro z27710 z27711 z27712 z27713 z27714 z27715 z27716 z27717 z27718 z27719 z27720 F H locs ls rz27710 rz27711 rz27712 rz27713 rz27714 rz27715 rz27716 rz27717 rz27718 rz27719 hT hfr hrel pf0 pf1 pf2 qz27711 qz27712 qz27713 qz27714 qz27715 qz27716 qz27717 qz27718 qz27719 qz27720 hstk hspt hkf hpl hl
    have rz27720 := rg_all z27720
    refine lv_aload_n hx hb dX13_readAll_64 rfl (lv_at hl 0 rfl) ?_
    refine lv_bipush (v := 6) hx hb dX13_readAll_65 (by decide) ?_
    refine t_cVv (n := 1) (C := RX13) (T := TX13) (N := 37) (As := [.int 6]) (rest := []) X hT (km10_X13_flaw l G tag L F hT.2.2.2 p0 6 x0 x1 x2 z27718 z27719 z27711 m0 g0 (by decide) mx0 gx0 pf0 mx1 gx1 pf1 mx2 gx2 pf2 (by omega) qz27718 (by omega) qz27719 (by omega) qz27711 hkf) m0 g0 rfl rfl qw_548 qw_549 qw_550 qw_5 qw_551 ⟨rfl, by decide +kernel, by decide +kernel, by decide +kernel⟩ ⟨Nat.le_of_ble_eq_true rfl, Nat.le_of_ble_eq_true rfl⟩ hl rfl rfl (Nat.le_of_ble_eq_true rfl) dX13_readAll_67 ⟨Nat.le_of_ble_eq_true rfl, Nat.le_of_ble_eq_true rfl⟩ (fun F H locs hT hz27721 => ?_)
    obtain ⟨yz27721, ⟨soz27721, spz27721, faz27721, qsoz27721, qspz27721, qfaz27721, rsoz27721, rspz27721, rfaz27721, stz27721, ptz27721, hkf, pxz27721_0⟩⟩ := hz27721
    have qz27712 := (yz27721.1 _ 12 (Or.inr (by decide)) (Or.inr (by decide)) (Or.inr (by decide))).trans qz27712
    have qz27713 := (yz27721.1 _ 7 (Or.inr (by decide)) (Or.inr (by decide)) (Or.inr (by decide))).trans qz27713
    have qz27714 := (yz27721.1 _ 8 (Or.inr (by decide)) (Or.inr (by decide)) (Or.inr (by decide))).trans qz27714
    have qz27715 := (yz27721.1 _ 9 (Or.inl (by rw [gx0]; decide)) (Or.inr (by decide)) (Or.inr (by decide))).trans qz27715
    have qz27716 := (yz27721.1 _ 10 (Or.inr (by decide)) (Or.inr (by decide)) (Or.inr (by decide))).trans qz27716
    have qz27717 := (yz27721.1 _ 0 (Or.inr (by decide)) (Or.inr (by decide)) (Or.inr (by decide))).trans qz27717
    have qz27719 := (yz27721.1 _ 8 (Or.inr (by decide)) (Or.inr (by decide)) (Or.inr (by decide))).trans qz27719
    have qz27720 := (yz27721.1 _ 2 (Or.inr (by decide)) (Or.inr (by decide)) (Or.inr (by decide))).trans qz27720
    have pf0 := (yz27721.1 _ 4 (Or.inr (by decide)) (Or.inr (by decide)) (Or.inr (by decide))).trans pf0
    have pf1 := (yz27721.1 _ 28 (Or.inr (by decide)) (Or.inr (by decide)) (Or.inr (by decide))).trans pf1
    have pf2 := (yz27721.1 _ 29 (Or.inr (by decide)) (Or.inr (by decide)) (Or.inr (by decide))).trans pf2
    have hfr : (∀ b j : Nat, (tag b ≠ 44 ∨ j ≠ 0) → (tag b ≠ 44 ∨ j ≠ 1) → (tag b ≠ 44 ∨ j ≠ 2) → (tag b ≠ 44 ∨ j ≠ 3) → (tag b ≠ 44 ∨ j ≠ 4) → (tag b ≠ 44 ∨ j ≠ 5) → (tag b ≠ 44 ∨ j ≠ 6) → (tag b ≠ 44 ∨ j ≠ 7) → (tag b ≠ 44 ∨ j ≠ 8) → (tag b ≠ 44 ∨ j ≠ 9) → (tag b ≠ 44 ∨ j ≠ 10) → (tag b ≠ 44 ∨ j ≠ 11) → (tag b ≠ 44 ∨ j ≠ 12) → (tag b ≠ 44 ∨ j ≠ 13) → (tag b ≠ 44 ∨ j ≠ 14) → (tag b ≠ 46 ∨ j ≠ 8) → (tag b ≠ 46 ∨ j ≠ 9) → (tag b ≠ 46 ∨ j ≠ 10) → (tag b ≠ 46 ∨ j ≠ 11) → (tag b ≠ 46 ∨ j ≠ 12) → (tag b ≠ 46 ∨ j ≠ 13) → (tag b ≠ 46 ∨ j ≠ 14) → (tag b ≠ 46 ∨ j ≠ 15) → fld F b j = fld Fo b j) ∧ (∀ b j : Nat, tag b ≠ 28 → tag b ≠ 29 → tag b ≠ 30 → tag b ≠ 31 → tag b ≠ 32 → tag b ≠ 33 → tag b ≠ 34 → tag b ≠ 35 → tag b ≠ 36 → tag b ≠ 37 → elm F b j = elm Fo b j) := ⟨fun b j n44_0 n44_1 n44_2 n44_3 n44_4 n44_5 n44_6 n44_7 n44_8 n44_9 n44_10 n44_11 n44_12 n44_13 n44_14 n46_8 n46_9 n46_10 n46_11 n46_12 n46_13 n46_14 n46_15 => (yz27721.1 b j n46_9 n46_13 n46_14).trans (hfr.1 b j n44_0 n44_1 n44_2 n44_3 n44_4 n44_5 n44_6 n44_7 n44_8 n44_9 n44_10 n44_11 n44_12 n44_13 n44_14 n46_8 n46_9 n46_10 n46_11 n46_12 n46_13 n46_14 n46_15), fun b j a28 a29 a30 a31 a32 a33 a34 a35 a36 a37 => (yz27721.2 b j ).trans (hfr.2 b j a28 a29 a30 a31 a32 a33 a34 a35 a36 a37)⟩
    have hrel := msr_of (fun j => yz27721.2 _ j ) (fun j => yz27721.2 _ j ) hrel
    have hstk := STK.tr hstk stz27721
    have hspt := SPT.tr hspt ptz27721
    have upz27721 := ptz27721.1
    have uqz27721 := ptz27721.2
    exact t_vret hQ X hT ⟨hfr, hrel, ⟨soz27721, spz27721, faz27721, qsoz27721, qspz27721, qfaz27721, (by omega), (by omega), (by omega), hstk, hspt, hkf⟩, ⟨z27712, z27713, z27714, z27715, z27716, z27717, qz27712, qz27713, qz27714, qz27715, qz27716, qz27717, (by omega), (by omega), (by omega), (by omega), (by omega), (by omega), hpl⟩, (fun a9 w9 h1 h2 h3 => by have e1 := Value.int.inj (qfaz27721.symm.trans h1); have e2 := Value.int.inj (qz27717.symm.trans h2); have e3 := hpl.2; have e4 := hkf; unfold KF at e4; subst e1; subst e2; omega)⟩ (Nat.le_of_ble_eq_true rfl) (Nat.le_of_ble_eq_true rfl) dX13_readAll_70
  have K33 : ∀ (z27722 : Int32) (z27723 : Int32) (z27724 : Int32) (z27725 : Int32) (z27726 : Int32) (z27727 : Int32) (z27728 : Int32) (z27729 : Int32) (z27730 : Int32) (z27731 : Int32) (F : Nat → va_E) (H : Heap) (locs : List Loc) (ls : Array Slot), (0 ≤ z27722.toInt ∧ z27722.toInt ≤ 0) → (0 ≤ z27723.toInt ∧ z27723.toInt ≤ 7) → (0 ≤ z27724.toInt ∧ z27724.toInt ≤ 32) → (0 ≤ z27725.toInt ∧ z27725.toInt ≤ 4) → (0 ≤ z27726.toInt ∧ z27726.toInt ≤ 4) → (0 ≤ z27727.toInt ∧ z27727.toInt ≤ 6) → (0 ≤ z27728.toInt ∧ z27728.toInt ≤ 6) → (0 ≤ z27729.toInt ∧ z27729.toInt ≤ 12) → (1 ≤ z27730.toInt ∧ z27730.toInt ≤ 5) → (0 ≤ z27731.toInt ∧ z27731.toInt ≤ 1000) → TH G ttC A s tag L F H locs → ((∀ b j : Nat, (tag b ≠ 44 ∨ j ≠ 0) → (tag b ≠ 44 ∨ j ≠ 1) → (tag b ≠ 44 ∨ j ≠ 2) → (tag b ≠ 44 ∨ j ≠ 3) → (tag b ≠ 44 ∨ j ≠ 4) → (tag b ≠ 44 ∨ j ≠ 5) → (tag b ≠ 44 ∨ j ≠ 6) → (tag b ≠ 44 ∨ j ≠ 7) → (tag b ≠ 44 ∨ j ≠ 8) → (tag b ≠ 44 ∨ j ≠ 9) → (tag b ≠ 44 ∨ j ≠ 10) → (tag b ≠ 44 ∨ j ≠ 11) → (tag b ≠ 44 ∨ j ≠ 12) → (tag b ≠ 44 ∨ j ≠ 13) → (tag b ≠ 44 ∨ j ≠ 14) → (tag b ≠ 46 ∨ j ≠ 8) → (tag b ≠ 46 ∨ j ≠ 9) → (tag b ≠ 46 ∨ j ≠ 10) → (tag b ≠ 46 ∨ j ≠ 11) → (tag b ≠ 46 ∨ j ≠ 12) → (tag b ≠ 46 ∨ j ≠ 13) → (tag b ≠ 46 ∨ j ≠ 14) → (tag b ≠ 46 ∨ j ≠ 15) → fld F b j = fld Fo b j) ∧ (∀ b j : Nat, tag b ≠ 28 → tag b ≠ 29 → tag b ≠ 30 → tag b ≠ 31 → tag b ≠ 32 → tag b ≠ 33 → tag b ≠ 34 → tag b ≠ 35 → tag b ≠ 36 → tag b ≠ 37 → elm F b j = elm Fo b j)) → MSR F x1 x2 → (fld F p0 4 = .ref x0) → (fld F x0 28 = .ref x1) → (fld F x0 29 = .ref x2) → (fld F p0 13 = .int z27723) → (fld F x0 12 = .int z27724) → (fld F x0 7 = .int z27725) → (fld F x0 8 = .int z27726) → (fld F x0 9 = .int z27727) → (fld F x0 10 = .int z27728) → (fld F x0 0 = .int z27729) → (fld F p0 9 = .int z27730) → (fld F p0 8 = .int z27731) → (STK x3 z27730) → (SPT x3 x4 z27730 z27731) → (KF z27730 z27723) → (PLr z27724 z27725 z27726 z27727 z27728 z27729) → lv_has ls 2 [(0, .ref p0), (1, .int z27722)] → W p l e { frames := 11, cells := 0, slots := 0, locals := 240 } s m args below meth c H locs 0 0 Q (F0 m 33 ls []) := by
    intro z27722 z27723 z27724 z27725 z27726 z27727 z27728 z27729 z27730 z27731 F H locs ls rz27722 rz27723 rz27724 rz27725 rz27726 rz27727 rz27728 rz27729 rz27730 rz27731 hT hfr hrel pf0 pf1 pf2 qz27723 qz27724 qz27725 qz27726 qz27727 qz27728 qz27729 qz27730 qz27731 hstk hspt hkf hpl hl
    refine lv_aload_n hx hb dX13_readAll_33 rfl (lv_at hl 0 rfl) ?_
    refine t_get (C := RX13) (T := TX13) (N := 37) X hT m0 g0 rfl rfl 4 (by decide) qw_477 inlX13 rfl dX13_readAll_34 (fun v27732 hv27732 ov27732 => ?_)
    obtain rfl : v27732 = .ref x0 := hv27732.symm.trans pf0
    refine t_getN (C := RX12) (T := TX12) (N := 31) X hT mx0 gx0 rfl rfl 2 (by decide) (List.mem_of_getElem? (i := 6) rfl) inlX12 rfl dX13_readAll_37 (fun v27733 hv27733 ov27733 => ?_)
    obtain ⟨z27734, rfl, rz27734⟩ := okV_i ov27733
    refine lv_iconst (v := (-1)) hx hb dX13_readAll_40 (by decide) ?_
    refine lv_icmp_eq (tgt := 64) hx hb dX13_readAll_41 (by decide) (fun c27735 => ?_) (fun c27735 => ?_)
    · have w27736 := cv_eq (rfl : z27734.toInt = z27734.toInt) (by decide : ((-1) : Int32).toInt = (-1)) c27735
      exact K64 z27722 z27723 z27724 z27725 z27726 z27727 z27728 z27729 z27730 z27731 z27734 _ _ _ _ (by omega) (by omega) (by omega) (by omega) (by omega) (by omega) (by omega) (by omega) (by omega) (by omega) hT hfr hrel pf0 pf1 pf2 qz27723 qz27724 qz27725 qz27726 qz27727 qz27728 qz27729 qz27730 qz27731 hv27733 hstk hspt hkf hpl (lv_sub hl [0, 1] rfl)
    · have w27737 := cv_ne (rfl : z27734.toInt = z27734.toInt) (by decide : ((-1) : Int32).toInt = (-1)) c27735
      refine lv_aload_n hx hb dX13_readAll_44 rfl (lv_at hl 0 rfl) ?_
      refine t_get (C := RX13) (T := TX13) (N := 37) X hT m0 g0 rfl rfl 4 (by decide) qw_477 inlX13 rfl dX13_readAll_45 (fun v27738 hv27738 ov27738 => ?_)
      obtain rfl : v27738 = .ref x0 := hv27738.symm.trans pf0
      refine t_getN (C := RX12) (T := TX12) (N := 31) X hT mx0 gx0 rfl rfl 7 (by decide) (List.mem_of_getElem? (i := 11) rfl) inlX12 rfl dX13_readAll_48 (fun v27739 hv27739 ov27739 => ?_)
      obtain rfl : v27739 = .int z27725 := hv27739.symm.trans qz27725
      refine lv_if_eq (tgt := 64) hx hb dX13_readAll_51 (by decide) (fun c27740 => ?_) (fun c27740 => ?_)
      · have w27741 := cv_eq (rfl : z27725.toInt = z27725.toInt) (by decide : (0 : Int32).toInt = 0) c27740
        exact K64 z27722 z27723 z27724 z27725 z27726 z27727 z27728 z27729 z27730 z27731 z27734 _ _ _ _ (by omega) (by omega) (by omega) (by omega) (by omega) (by omega) (by omega) (by omega) (by omega) (by omega) hT hfr hrel pf0 pf1 pf2 qz27723 qz27724 qz27725 qz27726 qz27727 qz27728 qz27729 qz27730 qz27731 hv27733 hstk hspt hkf hpl (lv_sub hl [0, 1] rfl)
      · have w27742 := cv_ne (rfl : z27725.toInt = z27725.toInt) (by decide : (0 : Int32).toInt = 0) c27740
        refine lv_aload_n hx hb dX13_readAll_54 rfl (lv_at hl 0 rfl) ?_
        refine t_get (C := RX13) (T := TX13) (N := 37) X hT m0 g0 rfl rfl 4 (by decide) qw_477 inlX13 rfl dX13_readAll_55 (fun v27743 hv27743 ov27743 => ?_)
        obtain rfl : v27743 = .ref x0 := hv27743.symm.trans pf0
        refine t_getN (C := RX12) (T := TX12) (N := 31) X hT mx0 gx0 rfl rfl 8 (by decide) (List.mem_of_getElem? (i := 12) rfl) inlX12 rfl dX13_readAll_58 (fun v27744 hv27744 ov27744 => ?_)
        obtain rfl : v27744 = .int z27726 := hv27744.symm.trans qz27726
        refine lv_if_ne (tgt := 70) hx hb dX13_readAll_61 (by decide) (fun c27745 => ?_) (fun c27745 => ?_)
        · have w27746 := cv_ne (rfl : z27726.toInt = z27726.toInt) (by decide : (0 : Int32).toInt = 0) c27745
          exact t_vret hQ X hT ⟨hfr, hrel, ⟨z27730, z27731, z27723, qz27730, qz27731, qz27723, (by omega), (by omega), (by omega), hstk, hspt, hkf⟩, ⟨z27724, z27725, z27726, z27727, z27728, z27729, qz27724, qz27725, qz27726, qz27727, qz27728, qz27729, (by omega), (by omega), (by omega), (by omega), (by omega), (by omega), hpl⟩, (fun a9 w9 h1 h2 h3 => by have e1 := Value.int.inj (qz27723.symm.trans h1); have e2 := Value.int.inj (qz27729.symm.trans h2); have e3 := hpl.2; have e4 := hkf; unfold KF at e4; subst e1; subst e2; omega)⟩ (Nat.le_of_ble_eq_true rfl) (Nat.le_of_ble_eq_true rfl) dX13_readAll_70
        · have w27747 := cv_eq (rfl : z27726.toInt = z27726.toInt) (by decide : (0 : Int32).toInt = 0) c27745
          exact K64 z27722 z27723 z27724 z27725 z27726 z27727 z27728 z27729 z27730 z27731 z27734 _ _ _ _ (by omega) (by omega) (by omega) (by omega) (by omega) (by omega) (by omega) (by omega) (by omega) (by omega) hT hfr hrel pf0 pf1 pf2 qz27723 qz27724 qz27725 qz27726 qz27727 qz27728 qz27729 qz27730 qz27731 hv27733 hstk hspt hkf hpl (lv_sub hl [0, 1] rfl)
  have K6 : ∀ (n : Nat) (z27748 : Int32) (z27749 : Int32) (z27750 : Int32) (z27751 : Int32) (z27752 : Int32) (z27753 : Int32) (z27754 : Int32) (z27755 : Int32) (z27756 : Int32) (z27757 : Int32) (F : Nat → va_E) (H : Heap) (locs : List Loc) (ls : Array Slot), (1000 - z27750.toInt < (n : Int)) → (1 ≤ z27748.toInt ∧ z27748.toInt ≤ 1) → (0 ≤ z27749.toInt ∧ z27749.toInt ≤ 5) → (0 ≤ z27750.toInt ∧ z27750.toInt ≤ 1000) → (0 ≤ z27751.toInt ∧ z27751.toInt ≤ 7) → (0 ≤ z27752.toInt ∧ z27752.toInt ≤ 32) → (0 ≤ z27753.toInt ∧ z27753.toInt ≤ 4) → (0 ≤ z27754.toInt ∧ z27754.toInt ≤ 4) → (0 ≤ z27755.toInt ∧ z27755.toInt ≤ 6) → (0 ≤ z27756.toInt ∧ z27756.toInt ≤ 6) → (0 ≤ z27757.toInt ∧ z27757.toInt ≤ 12) → TH G ttC A s tag L F H locs → ((∀ b j : Nat, (tag b ≠ 44 ∨ j ≠ 0) → (tag b ≠ 44 ∨ j ≠ 1) → (tag b ≠ 44 ∨ j ≠ 2) → (tag b ≠ 44 ∨ j ≠ 3) → (tag b ≠ 44 ∨ j ≠ 4) → (tag b ≠ 44 ∨ j ≠ 5) → (tag b ≠ 44 ∨ j ≠ 6) → (tag b ≠ 44 ∨ j ≠ 7) → (tag b ≠ 44 ∨ j ≠ 8) → (tag b ≠ 44 ∨ j ≠ 9) → (tag b ≠ 44 ∨ j ≠ 10) → (tag b ≠ 44 ∨ j ≠ 11) → (tag b ≠ 44 ∨ j ≠ 12) → (tag b ≠ 44 ∨ j ≠ 13) → (tag b ≠ 44 ∨ j ≠ 14) → (tag b ≠ 46 ∨ j ≠ 8) → (tag b ≠ 46 ∨ j ≠ 9) → (tag b ≠ 46 ∨ j ≠ 10) → (tag b ≠ 46 ∨ j ≠ 11) → (tag b ≠ 46 ∨ j ≠ 12) → (tag b ≠ 46 ∨ j ≠ 13) → (tag b ≠ 46 ∨ j ≠ 14) → (tag b ≠ 46 ∨ j ≠ 15) → fld F b j = fld Fo b j) ∧ (∀ b j : Nat, tag b ≠ 28 → tag b ≠ 29 → tag b ≠ 30 → tag b ≠ 31 → tag b ≠ 32 → tag b ≠ 33 → tag b ≠ 34 → tag b ≠ 35 → tag b ≠ 36 → tag b ≠ 37 → elm F b j = elm Fo b j)) → MSR F x1 x2 → (fld F p0 4 = .ref x0) → (fld F x0 28 = .ref x1) → (fld F x0 29 = .ref x2) → (fld F p0 9 = .int z27749) → (fld F p0 8 = .int z27750) → (fld F p0 13 = .int z27751) → (fld F x0 12 = .int z27752) → (fld F x0 7 = .int z27753) → (fld F x0 8 = .int z27754) → (fld F x0 9 = .int z27755) → (fld F x0 10 = .int z27756) → (fld F x0 0 = .int z27757) → (STK x3 z27749) → (SPT x3 x4 z27749 z27750) → (KF z27749 z27751) → (PLr z27752 z27753 z27754 z27755 z27756 z27757) → lv_has ls 2 [(0, .ref p0), (1, .int z27748)] → W p l e { frames := 11, cells := 0, slots := 0, locals := 240 } s m args below meth c H locs 0 0 Q (F0 m 6 ls []) := by
    intro n
    induction n with
    | zero =>
      intro z27748 z27749 z27750 z27751 z27752 z27753 z27754 z27755 z27756 z27757 F H locs ls hn rz27748 rz27749 rz27750 rz27751 rz27752 rz27753 rz27754 rz27755 rz27756 rz27757 hT hfr hrel pf0 pf1 pf2 qz27749 qz27750 qz27751 qz27752 qz27753 qz27754 qz27755 qz27756 qz27757 hstk hspt hkf hpl hl
      exfalso
      omega
    | succ n ih6 =>
      intro z27748 z27749 z27750 z27751 z27752 z27753 z27754 z27755 z27756 z27757 F H locs ls hn rz27748 rz27749 rz27750 rz27751 rz27752 rz27753 rz27754 rz27755 rz27756 rz27757 hT hfr hrel pf0 pf1 pf2 qz27749 qz27750 qz27751 qz27752 qz27753 qz27754 qz27755 qz27756 qz27757 hstk hspt hkf hpl hl
      refine lv_aload_n hx hb dX13_readAll_6 rfl (lv_at hl 0 rfl) ?_
      refine t_cVv (n := 0) (C := RX13) (T := TX13) (N := 37) (As := []) (rest := []) X hT (km80_X13_readLine l G tag L F hT.2.2.2 p0 x0 x1 x2 z27749 z27750 z27751 z27752 z27753 z27754 z27755 z27756 z27757 m0 g0 mx0 gx0 pf0 mx1 gx1 pf1 mx2 gx2 pf2 (by omega) qz27749 (by omega) qz27750 (by omega) qz27751 (by omega) qz27752 (by omega) qz27753 (by omega) qz27754 (by omega) qz27755 (by omega) qz27756 (by omega) qz27757 hrel hkf hpl) m0 g0 rfl rfl qw_531 qw_532 qw_533 qw_5 qw_534 ⟨rfl, by decide +kernel, by decide +kernel, by decide +kernel⟩ ⟨Nat.le_of_ble_eq_true rfl, Nat.le_of_ble_eq_true rfl⟩ hl rfl rfl (Nat.le_of_ble_eq_true rfl) dX13_readAll_7 ⟨Nat.le_of_ble_eq_true rfl, Nat.le_of_ble_eq_true rfl⟩ (fun F H locs hT hz27758 => ?_)
      obtain ⟨yz27758, hrel, ⟨soz27758, spz27758, faz27758, qsoz27758, qspz27758, qfaz27758, rsoz27758, rspz27758, rfaz27758, stz27758, ptz27758, hkf, pxz27758_0⟩, ⟨lnaz27758, lstz27758, lhoz27758, lhez27758, lwaz27758, lwiz27758, qlnaz27758, qlstz27758, qlhoz27758, qlhez27758, qlwaz27758, qlwiz27758, rlnaz27758, rlstz27758, rlhoz27758, rlhez27758, rlwaz27758, rlwiz27758, hpl⟩⟩ := hz27758
      have pf0 := (yz27758.1 _ 4 (Or.inr (by decide)) (Or.inr (by decide)) (Or.inr (by decide)) (Or.inr (by decide)) (Or.inl (by rw [g0]; decide)) (Or.inr (by decide)) (Or.inr (by decide)) (Or.inr (by decide)) (Or.inr (by decide)) (Or.inr (by decide)) (Or.inr (by decide)) (Or.inr (by decide)) (Or.inr (by decide)) (Or.inr (by decide)) (Or.inr (by decide)) (Or.inr (by decide)) (Or.inr (by decide)) (Or.inr (by decide)) (Or.inr (by decide)) (Or.inr (by decide)) (Or.inr (by decide)) (Or.inr (by decide)) (Or.inr (by decide))).trans pf0
      have pf1 := (yz27758.1 _ 28 (Or.inr (by decide)) (Or.inr (by decide)) (Or.inr (by decide)) (Or.inr (by decide)) (Or.inr (by decide)) (Or.inr (by decide)) (Or.inr (by decide)) (Or.inr (by decide)) (Or.inr (by decide)) (Or.inr (by decide)) (Or.inr (by decide)) (Or.inr (by decide)) (Or.inr (by decide)) (Or.inr (by decide)) (Or.inr (by decide)) (Or.inr (by decide)) (Or.inr (by decide)) (Or.inr (by decide)) (Or.inr (by decide)) (Or.inr (by decide)) (Or.inr (by decide)) (Or.inr (by decide)) (Or.inr (by decide))).trans pf1
      have pf2 := (yz27758.1 _ 29 (Or.inr (by decide)) (Or.inr (by decide)) (Or.inr (by decide)) (Or.inr (by decide)) (Or.inr (by decide)) (Or.inr (by decide)) (Or.inr (by decide)) (Or.inr (by decide)) (Or.inr (by decide)) (Or.inr (by decide)) (Or.inr (by decide)) (Or.inr (by decide)) (Or.inr (by decide)) (Or.inr (by decide)) (Or.inr (by decide)) (Or.inr (by decide)) (Or.inr (by decide)) (Or.inr (by decide)) (Or.inr (by decide)) (Or.inr (by decide)) (Or.inr (by decide)) (Or.inr (by decide)) (Or.inr (by decide))).trans pf2
      have hfr : (∀ b j : Nat, (tag b ≠ 44 ∨ j ≠ 0) → (tag b ≠ 44 ∨ j ≠ 1) → (tag b ≠ 44 ∨ j ≠ 2) → (tag b ≠ 44 ∨ j ≠ 3) → (tag b ≠ 44 ∨ j ≠ 4) → (tag b ≠ 44 ∨ j ≠ 5) → (tag b ≠ 44 ∨ j ≠ 6) → (tag b ≠ 44 ∨ j ≠ 7) → (tag b ≠ 44 ∨ j ≠ 8) → (tag b ≠ 44 ∨ j ≠ 9) → (tag b ≠ 44 ∨ j ≠ 10) → (tag b ≠ 44 ∨ j ≠ 11) → (tag b ≠ 44 ∨ j ≠ 12) → (tag b ≠ 44 ∨ j ≠ 13) → (tag b ≠ 44 ∨ j ≠ 14) → (tag b ≠ 46 ∨ j ≠ 8) → (tag b ≠ 46 ∨ j ≠ 9) → (tag b ≠ 46 ∨ j ≠ 10) → (tag b ≠ 46 ∨ j ≠ 11) → (tag b ≠ 46 ∨ j ≠ 12) → (tag b ≠ 46 ∨ j ≠ 13) → (tag b ≠ 46 ∨ j ≠ 14) → (tag b ≠ 46 ∨ j ≠ 15) → fld F b j = fld Fo b j) ∧ (∀ b j : Nat, tag b ≠ 28 → tag b ≠ 29 → tag b ≠ 30 → tag b ≠ 31 → tag b ≠ 32 → tag b ≠ 33 → tag b ≠ 34 → tag b ≠ 35 → tag b ≠ 36 → tag b ≠ 37 → elm F b j = elm Fo b j) := ⟨fun b j n44_0 n44_1 n44_2 n44_3 n44_4 n44_5 n44_6 n44_7 n44_8 n44_9 n44_10 n44_11 n44_12 n44_13 n44_14 n46_8 n46_9 n46_10 n46_11 n46_12 n46_13 n46_14 n46_15 => (yz27758.1 b j n44_0 n44_1 n44_2 n44_3 n44_4 n44_5 n44_6 n44_7 n44_8 n44_9 n44_10 n44_11 n44_12 n44_13 n44_14 n46_8 n46_9 n46_10 n46_11 n46_12 n46_13 n46_14 n46_15).trans (hfr.1 b j n44_0 n44_1 n44_2 n44_3 n44_4 n44_5 n44_6 n44_7 n44_8 n44_9 n44_10 n44_11 n44_12 n44_13 n44_14 n46_8 n46_9 n46_10 n46_11 n46_12 n46_13 n46_14 n46_15), fun b j a28 a29 a30 a31 a32 a33 a34 a35 a36 a37 => (yz27758.2 b j a28 a29 a30 a31 a32 a33 a34 a35 a36 a37).trans (hfr.2 b j a28 a29 a30 a31 a32 a33 a34 a35 a36 a37)⟩
      have hstk := STK.tr hstk stz27758
      have hspt := SPT.tr hspt ptz27758
      have upz27758 := ptz27758.1
      have uqz27758 := ptz27758.2
      refine lv_aload_n hx hb dX13_readAll_10 rfl (lv_at hl 0 rfl) ?_
      refine lv_bipush (v := 59) hx hb dX13_readAll_11 (by decide) ?_
      refine t_cVi (n := 1) (C := RX13) (T := TX13) (N := 37) (As := [.int 59]) (rest := []) X hT (km81_X13_eatsSign l G tag L F hT.2.2.2 p0 59 x0 x1 x2 soz27758 spz27758 faz27758 m0 g0 mx0 gx0 pf0 mx1 gx1 pf1 mx2 gx2 pf2 (by omega) qsoz27758 (by omega) qspz27758 (by omega) qfaz27758 hkf) m0 g0 rfl rfl qw_683 qw_684 qw_685 qw_5 qw_686 ⟨rfl, by decide +kernel, by decide +kernel, by decide +kernel⟩ ⟨Nat.le_of_ble_eq_true rfl, Nat.le_of_ble_eq_true rfl⟩ hl rfl rfl (Nat.le_of_ble_eq_true rfl) dX13_readAll_13 ⟨Nat.le_of_ble_eq_true rfl, Nat.le_of_ble_eq_true rfl⟩ (fun z27759 F H locs hT hz27759 => ?_)
      obtain ⟨hz27759, yz27759, ⟨soz27759, spz27759, faz27759, qsoz27759, qspz27759, qfaz27759, rsoz27759, rspz27759, rfaz27759, stz27759, ptz27759, hkf, pxz27759_0⟩⟩ := hz27759
      have pf0 := (yz27759.1 _ 4 (Or.inr (by decide)) (Or.inr (by decide)) (Or.inr (by decide)) (Or.inr (by decide)) (Or.inr (by decide)) (Or.inr (by decide))).trans pf0
      have pf1 := (yz27759.1 _ 28 (Or.inr (by decide)) (Or.inr (by decide)) (Or.inr (by decide)) (Or.inr (by decide)) (Or.inr (by decide)) (Or.inr (by decide))).trans pf1
      have pf2 := (yz27759.1 _ 29 (Or.inr (by decide)) (Or.inr (by decide)) (Or.inr (by decide)) (Or.inr (by decide)) (Or.inr (by decide)) (Or.inr (by decide))).trans pf2
      have qfaz27758 := (yz27759.1 _ 13 (Or.inr (by decide)) (Or.inr (by decide)) (Or.inr (by decide)) (Or.inr (by decide)) (Or.inr (by decide)) (Or.inr (by decide))).trans qfaz27758
      have qlnaz27758 := (yz27759.1 _ 12 (Or.inr (by decide)) (Or.inr (by decide)) (Or.inr (by decide)) (Or.inr (by decide)) (Or.inl (by rw [gx0]; decide)) (Or.inr (by decide))).trans qlnaz27758
      have qlstz27758 := (yz27759.1 _ 7 (Or.inr (by decide)) (Or.inr (by decide)) (Or.inr (by decide)) (Or.inr (by decide)) (Or.inr (by decide)) (Or.inr (by decide))).trans qlstz27758
      have qlhoz27758 := (yz27759.1 _ 8 (Or.inl (by rw [gx0]; decide)) (Or.inr (by decide)) (Or.inr (by decide)) (Or.inr (by decide)) (Or.inr (by decide)) (Or.inr (by decide))).trans qlhoz27758
      have qlhez27758 := (yz27759.1 _ 9 (Or.inr (by decide)) (Or.inl (by rw [gx0]; decide)) (Or.inr (by decide)) (Or.inr (by decide)) (Or.inr (by decide)) (Or.inr (by decide))).trans qlhez27758
      have qlwaz27758 := (yz27759.1 _ 10 (Or.inr (by decide)) (Or.inr (by decide)) (Or.inl (by rw [gx0]; decide)) (Or.inr (by decide)) (Or.inr (by decide)) (Or.inr (by decide))).trans qlwaz27758
      have qlwiz27758 := (yz27759.1 _ 0 (Or.inr (by decide)) (Or.inr (by decide)) (Or.inr (by decide)) (Or.inr (by decide)) (Or.inr (by decide)) (Or.inr (by decide))).trans qlwiz27758
      have hfr : (∀ b j : Nat, (tag b ≠ 44 ∨ j ≠ 0) → (tag b ≠ 44 ∨ j ≠ 1) → (tag b ≠ 44 ∨ j ≠ 2) → (tag b ≠ 44 ∨ j ≠ 3) → (tag b ≠ 44 ∨ j ≠ 4) → (tag b ≠ 44 ∨ j ≠ 5) → (tag b ≠ 44 ∨ j ≠ 6) → (tag b ≠ 44 ∨ j ≠ 7) → (tag b ≠ 44 ∨ j ≠ 8) → (tag b ≠ 44 ∨ j ≠ 9) → (tag b ≠ 44 ∨ j ≠ 10) → (tag b ≠ 44 ∨ j ≠ 11) → (tag b ≠ 44 ∨ j ≠ 12) → (tag b ≠ 44 ∨ j ≠ 13) → (tag b ≠ 44 ∨ j ≠ 14) → (tag b ≠ 46 ∨ j ≠ 8) → (tag b ≠ 46 ∨ j ≠ 9) → (tag b ≠ 46 ∨ j ≠ 10) → (tag b ≠ 46 ∨ j ≠ 11) → (tag b ≠ 46 ∨ j ≠ 12) → (tag b ≠ 46 ∨ j ≠ 13) → (tag b ≠ 46 ∨ j ≠ 14) → (tag b ≠ 46 ∨ j ≠ 15) → fld F b j = fld Fo b j) ∧ (∀ b j : Nat, tag b ≠ 28 → tag b ≠ 29 → tag b ≠ 30 → tag b ≠ 31 → tag b ≠ 32 → tag b ≠ 33 → tag b ≠ 34 → tag b ≠ 35 → tag b ≠ 36 → tag b ≠ 37 → elm F b j = elm Fo b j) := ⟨fun b j n44_0 n44_1 n44_2 n44_3 n44_4 n44_5 n44_6 n44_7 n44_8 n44_9 n44_10 n44_11 n44_12 n44_13 n44_14 n46_8 n46_9 n46_10 n46_11 n46_12 n46_13 n46_14 n46_15 => (yz27759.1 b j n46_8 n46_9 n46_10 n46_11 n46_12 n46_15).trans (hfr.1 b j n44_0 n44_1 n44_2 n44_3 n44_4 n44_5 n44_6 n44_7 n44_8 n44_9 n44_10 n44_11 n44_12 n44_13 n44_14 n46_8 n46_9 n46_10 n46_11 n46_12 n46_13 n46_14 n46_15), fun b j a28 a29 a30 a31 a32 a33 a34 a35 a36 a37 => (yz27759.2 b j ).trans (hfr.2 b j a28 a29 a30 a31 a32 a33 a34 a35 a36 a37)⟩
      have hrel := msr_of (fun j => yz27759.2 _ j ) (fun j => yz27759.2 _ j ) hrel
      have hstk := STK.tr hstk stz27759
      have hspt := SPT.tr hspt ptz27759
      have upz27759 := ptz27759.1
      have uqz27759 := ptz27759.2
      refine lv_istore_n (lv' := [(1, .int z27759), (0, .ref p0)]) hx hb dX13_readAll_16 rfl hl (by decide) rfl (fun ls hl => ?_)
      refine lv_goto (tgt := 2) hx hb dX13_readAll_17 (by decide) ?_
      refine lv_iload_n hx hb dX13_readAll_2 rfl (lv_at hl 0 rfl) ?_
      refine lv_if_eq (tgt := 20) hx hb dX13_readAll_3 (by decide) (fun c27760 => ?_) (fun c27760 => ?_)
      · have w27761 := cv_eq (rfl : z27759.toInt = z27759.toInt) (by decide : (0 : Int32).toInt = 0) c27760
        refine lv_aload_n hx hb dX13_readAll_20 rfl (lv_at hl 1 rfl) ?_
        refine t_get (C := RX13) (T := TX13) (N := 37) X hT m0 g0 rfl rfl 9 (by decide) qw_478 inlX13 rfl dX13_readAll_21 (fun v27762 hv27762 ov27762 => ?_)
        obtain rfl : v27762 = .int soz27759 := hv27762.symm.trans qsoz27759
        refine lv_iconst (v := 1) hx hb dX13_readAll_24 (by decide) ?_
        refine lv_icmp_eq (tgt := 33) hx hb dX13_readAll_25 (by decide) (fun c27763 => ?_) (fun c27763 => ?_)
        · have w27764 := cv_eq (rfl : soz27759.toInt = soz27759.toInt) (by decide : (1 : Int32).toInt = 1) c27763
          exact K33 z27759 faz27759 lnaz27758 lstz27758 lhoz27758 lhez27758 lwaz27758 lwiz27758 soz27759 spz27759 _ _ _ _ (by omega) (by omega) (by omega) (by omega) (by omega) (by omega) (by omega) (by omega) (by omega) (by omega) hT hfr hrel pf0 pf1 pf2 qfaz27759 qlnaz27758 qlstz27758 qlhoz27758 qlhez27758 qlwaz27758 qlwiz27758 qsoz27759 qspz27759 hstk hspt hkf hpl (lv_sub hl [1, 0] rfl)
        · have w27765 := cv_ne (rfl : soz27759.toInt = soz27759.toInt) (by decide : (1 : Int32).toInt = 1) c27763
          refine lv_aload_n hx hb dX13_readAll_28 rfl (lv_at hl 1 rfl) ?_
          refine lv_iconst (v := 1) hx hb dX13_readAll_29 (by decide) ?_
          refine t_cVv (n := 1) (C := RX13) (T := TX13) (N := 37) (As := [.int 1]) (rest := []) X hT (km10_X13_flaw l G tag L F hT.2.2.2 p0 1 x0 x1 x2 soz27759 spz27759 faz27759 m0 g0 (by decide) mx0 gx0 pf0 mx1 gx1 pf1 mx2 gx2 pf2 (by omega) qsoz27759 (by omega) qspz27759 (by omega) qfaz27759 hkf) m0 g0 rfl rfl qw_548 qw_549 qw_550 qw_5 qw_551 ⟨rfl, by decide +kernel, by decide +kernel, by decide +kernel⟩ ⟨Nat.le_of_ble_eq_true rfl, Nat.le_of_ble_eq_true rfl⟩ hl rfl rfl (Nat.le_of_ble_eq_true rfl) dX13_readAll_30 ⟨Nat.le_of_ble_eq_true rfl, Nat.le_of_ble_eq_true rfl⟩ (fun F H locs hT hz27766 => ?_)
          obtain ⟨yz27766, ⟨soz27766, spz27766, faz27766, qsoz27766, qspz27766, qfaz27766, rsoz27766, rspz27766, rfaz27766, stz27766, ptz27766, hkf, pxz27766_0⟩⟩ := hz27766
          have pf0 := (yz27766.1 _ 4 (Or.inr (by decide)) (Or.inr (by decide)) (Or.inr (by decide))).trans pf0
          have pf1 := (yz27766.1 _ 28 (Or.inr (by decide)) (Or.inr (by decide)) (Or.inr (by decide))).trans pf1
          have pf2 := (yz27766.1 _ 29 (Or.inr (by decide)) (Or.inr (by decide)) (Or.inr (by decide))).trans pf2
          have qlnaz27758 := (yz27766.1 _ 12 (Or.inr (by decide)) (Or.inr (by decide)) (Or.inr (by decide))).trans qlnaz27758
          have qlstz27758 := (yz27766.1 _ 7 (Or.inr (by decide)) (Or.inr (by decide)) (Or.inr (by decide))).trans qlstz27758
          have qlhoz27758 := (yz27766.1 _ 8 (Or.inr (by decide)) (Or.inr (by decide)) (Or.inr (by decide))).trans qlhoz27758
          have qlhez27758 := (yz27766.1 _ 9 (Or.inl (by rw [gx0]; decide)) (Or.inr (by decide)) (Or.inr (by decide))).trans qlhez27758
          have qlwaz27758 := (yz27766.1 _ 10 (Or.inr (by decide)) (Or.inr (by decide)) (Or.inr (by decide))).trans qlwaz27758
          have qlwiz27758 := (yz27766.1 _ 0 (Or.inr (by decide)) (Or.inr (by decide)) (Or.inr (by decide))).trans qlwiz27758
          have qspz27759 := (yz27766.1 _ 8 (Or.inr (by decide)) (Or.inr (by decide)) (Or.inr (by decide))).trans qspz27759
          have hfr : (∀ b j : Nat, (tag b ≠ 44 ∨ j ≠ 0) → (tag b ≠ 44 ∨ j ≠ 1) → (tag b ≠ 44 ∨ j ≠ 2) → (tag b ≠ 44 ∨ j ≠ 3) → (tag b ≠ 44 ∨ j ≠ 4) → (tag b ≠ 44 ∨ j ≠ 5) → (tag b ≠ 44 ∨ j ≠ 6) → (tag b ≠ 44 ∨ j ≠ 7) → (tag b ≠ 44 ∨ j ≠ 8) → (tag b ≠ 44 ∨ j ≠ 9) → (tag b ≠ 44 ∨ j ≠ 10) → (tag b ≠ 44 ∨ j ≠ 11) → (tag b ≠ 44 ∨ j ≠ 12) → (tag b ≠ 44 ∨ j ≠ 13) → (tag b ≠ 44 ∨ j ≠ 14) → (tag b ≠ 46 ∨ j ≠ 8) → (tag b ≠ 46 ∨ j ≠ 9) → (tag b ≠ 46 ∨ j ≠ 10) → (tag b ≠ 46 ∨ j ≠ 11) → (tag b ≠ 46 ∨ j ≠ 12) → (tag b ≠ 46 ∨ j ≠ 13) → (tag b ≠ 46 ∨ j ≠ 14) → (tag b ≠ 46 ∨ j ≠ 15) → fld F b j = fld Fo b j) ∧ (∀ b j : Nat, tag b ≠ 28 → tag b ≠ 29 → tag b ≠ 30 → tag b ≠ 31 → tag b ≠ 32 → tag b ≠ 33 → tag b ≠ 34 → tag b ≠ 35 → tag b ≠ 36 → tag b ≠ 37 → elm F b j = elm Fo b j) := ⟨fun b j n44_0 n44_1 n44_2 n44_3 n44_4 n44_5 n44_6 n44_7 n44_8 n44_9 n44_10 n44_11 n44_12 n44_13 n44_14 n46_8 n46_9 n46_10 n46_11 n46_12 n46_13 n46_14 n46_15 => (yz27766.1 b j n46_9 n46_13 n46_14).trans (hfr.1 b j n44_0 n44_1 n44_2 n44_3 n44_4 n44_5 n44_6 n44_7 n44_8 n44_9 n44_10 n44_11 n44_12 n44_13 n44_14 n46_8 n46_9 n46_10 n46_11 n46_12 n46_13 n46_14 n46_15), fun b j a28 a29 a30 a31 a32 a33 a34 a35 a36 a37 => (yz27766.2 b j ).trans (hfr.2 b j a28 a29 a30 a31 a32 a33 a34 a35 a36 a37)⟩
          have hrel := msr_of (fun j => yz27766.2 _ j ) (fun j => yz27766.2 _ j ) hrel
          have hstk := STK.tr hstk stz27766
          have hspt := SPT.tr hspt ptz27766
          have upz27766 := ptz27766.1
          have uqz27766 := ptz27766.2
          exact K33 z27759 faz27766 lnaz27758 lstz27758 lhoz27758 lhez27758 lwaz27758 lwiz27758 soz27766 spz27766 _ _ _ _ (by omega) (by omega) (by omega) (by omega) (by omega) (by omega) (by omega) (by omega) (by omega) (by omega) hT hfr hrel pf0 pf1 pf2 qfaz27766 qlnaz27758 qlstz27758 qlhoz27758 qlhez27758 qlwaz27758 qlwiz27758 qsoz27766 qspz27766 hstk hspt hkf hpl (lv_sub hl [1, 0] rfl)
      · have w27767 := cv_ne (rfl : z27759.toInt = z27759.toInt) (by decide : (0 : Int32).toInt = 0) c27760
        exact ih6 z27759 soz27759 spz27759 faz27759 lnaz27758 lstz27758 lhoz27758 lhez27758 lwaz27758 lwiz27758 _ _ _ _ (by omega) (by omega) (by omega) (by omega) (by omega) (by omega) (by omega) (by omega) (by omega) (by omega) (by omega) hT hfr hrel pf0 pf1 pf2 qsoz27759 qspz27759 qfaz27759 qlnaz27758 qlstz27758 qlhoz27758 qlhez27758 qlwaz27758 qlwiz27758 hstk hspt hkf hpl (lv_sub hl [1, 0] rfl)
  refine lv_iconst (v := 1) hx hb dX13_readAll_0 (by decide) ?_
  refine lv_istore_n (lv' := [(1, .int 1), (0, .ref p0)]) hx hb dX13_readAll_1 rfl hl (by decide) rfl (fun ls hl => ?_)
  refine lv_iload_n hx hb dX13_readAll_2 rfl (lv_at hl 0 rfl) ?_
  refine lv_if_eq (tgt := 20) hx hb dX13_readAll_3 (by decide) (fun c9 => absurd c9 (by decide)) (fun _ => ?_)
  have k27768 : (1 : Int32).toInt = 1 := by decide
  exact K6 1001 1 x3 x4 x5 x6 x7 x8 x9 x10 x11 _ _ _ _ (by omega) (by decide) (by omega) (by omega) (by omega) (by omega) (by omega) (by omega) (by omega) (by omega) (by omega) hT hfr hrel pf0 pf1 pf2 pf3 pf4 pf5 pf6 pf7 pf8 pf9 pf10 pf11 hstk hspt hkf hpl (lv_sub hl [1, 0] rfl)
set_option maxHeartbeats 4000000 in
set_option maxRecDepth 100000 in
theorem km83_X13_feed (l : Launch) (G : KG) (tag : Nat → Nat) (L : List Nat) (Fo : Nat → va_E) (ho : okT G ttC tag L Fo) (p0 : Nat) (p1 : Int32) (p2 : Int32) (p3 : Int32) (p4 : Int32) (p5 : Int32) (x0 : Int32) (m0 : p0 ∈ L) (g0 : tag p0 = 46) (hx0 : 0 ≤ x0.toInt ∧ x0.toInt ≤ 1000) (pf0 : fld Fo p0 6 = .int x0) : TMi l yX13_feed cX13_feed 8 (some .int) { frames := 0, cells := 0, slots := 0, locals := 0 } G ttC tag L Fo [.ref p0, .int p1, .int p2, .int p3, .int p4, .int p5] (fun r F1 => ((-2147483648) ≤ r.toInt ∧ r.toInt ≤ 2147483647) ∧ ((∀ b j : Nat, (tag b ≠ 46 ∨ j ≠ 0) → (tag b ≠ 46 ∨ j ≠ 6) → fld F1 b j = fld Fo b j) ∧ (∀ b j : Nat, tag b ≠ 27 → elm F1 b j = elm Fo b j)) ∧ (∃ z : Int32, fld F1 p0 6 = .int z ∧ (x0.toInt ≤ 980 → z.toInt = x0.toInt + 20 ∧ r.toInt = x0.toInt + 20) ∧ (980 < x0.toInt → z.toInt = x0.toInt ∧ r.toInt = -1))) := by
  refine t_bodyi (y := yX13_feed) (cd := cX13_feed) (mL := 8) (rt := (some .int)) (rm := { frames := 0, cells := 0, slots := 0, locals := 0 }) (av := [.ref p0, .int p1, .int p2, .int p3, .int p4, .int p5]) (by decide) (Nat.le_of_ble_eq_true rfl) ho ?_
  intro p e s m args below meth c ls A Q hQ X hT hl
  have hx := X.1.1
  have hb := X.1.2.1
  have hl : lv_has ls 8 [(0, .ref p0), (1, .int p1), (2, .int p2), (3, .int p3), (4, .int p4), (5, .int p5)] := hl
  have rp1 := rg_all p1
  have rp2 := rg_all p2
  have rp3 := rg_all p3
  have rp4 := rg_all p4
  have rp5 := rg_all p5
  obtain ⟨F, hFo⟩ : ∃ F : Nat → va_E, F = Fo := ⟨_, rfl⟩
  rw [← hFo] at hT pf0
  have hfr : (∀ b j : Nat, (tag b ≠ 46 ∨ j ≠ 0) → (tag b ≠ 46 ∨ j ≠ 6) → fld F b j = fld Fo b j) ∧ (∀ b j : Nat, tag b ≠ 27 → elm F b j = elm Fo b j) := by
    rw [hFo]
    exact ⟨by intros; rfl, by intros; rfl⟩
  have K23 : ∀ (n : Nat) (z28563 : Int32) (z28564 : Int32) (z28565 : Int32) (F : Nat → va_E) (H : Heap) (locs : List Loc) (ls : Array Slot), (20 - z28563.toInt < (n : Int)) → (0 ≤ z28563.toInt ∧ z28563.toInt ≤ 20) → (0 ≤ z28564.toInt ∧ z28564.toInt ≤ 1000) → (0 ≤ z28565.toInt ∧ z28565.toInt ≤ 0) → TH G ttC A s tag L F H locs → ((∀ b j : Nat, (tag b ≠ 46 ∨ j ≠ 0) → (tag b ≠ 46 ∨ j ≠ 6) → fld F b j = fld Fo b j) ∧ (∀ b j : Nat, tag b ≠ 27 → elm F b j = elm Fo b j)) → (fld F p0 6 = .int z28564) → (fld F p0 0 = .int z28565) → (z28564.toInt = x0.toInt + z28563.toInt) → (x0.toInt ≤ 980) → lv_has ls 8 [(0, .ref p0), (1, .int p1), (2, .int p2), (3, .int p3), (4, .int p4), (5, .int p5), (6, .int z28563)] → W p l e { frames := 0, cells := 0, slots := 0, locals := 0 } s m args below meth c H locs 0 0 Q (F0 m 23 ls []) := by
    intro n
    induction n with
    | zero =>
      intro z28563 z28564 z28565 F H locs ls hn rz28563 rz28564 rz28565 hT hfr qz28564 qz28565 ex23_0 ex23_1 hl
      exfalso
      omega
    | succ n ih23 =>
      intro z28563 z28564 z28565 F H locs ls hn rz28563 rz28564 rz28565 hT hfr qz28564 qz28565 ex23_0 ex23_1 hl
      have K76 : ∀ (z28567 : Int32) (z28568 : Int32) (z28569 : Int32) (F : Nat → va_E) (H : Heap) (locs : List Loc) (ls : Array Slot), (0 ≤ z28568.toInt ∧ z28568.toInt ≤ 1000) → (0 ≤ z28569.toInt ∧ z28569.toInt ≤ 0) → (0 ≤ z28563.toInt ∧ z28563.toInt ≤ 19) → TH G ttC A s tag L F H locs → ((∀ b j : Nat, (tag b ≠ 46 ∨ j ≠ 0) → (tag b ≠ 46 ∨ j ≠ 6) → fld F b j = fld Fo b j) ∧ (∀ b j : Nat, tag b ≠ 27 → elm F b j = elm Fo b j)) → (fld F p0 6 = .int z28568) → (fld F p0 0 = .int z28569) → (z28568.toInt = x0.toInt + z28563.toInt) → (x0.toInt ≤ 980) → lv_has ls 8 [(0, .ref p0), (1, .int p1), (2, .int p2), (3, .int p3), (4, .int p4), (5, .int p5), (6, .int z28563)] → W p l e { frames := 0, cells := 0, slots := 0, locals := 0 } s m args below meth c H locs 0 0 Q (F0 m 76 ls [.int z28567]) := by
        intro z28567 z28568 z28569 F H locs ls rz28568 rz28569 r9s28566 hT hfr qz28568 qz28569 ex76_0 ex76_1 hl
        have rz28567 := rg_all z28567
        refine lv_istore (lv' := [(7, .int z28567), (0, .ref p0), (1, .int p1), (2, .int p2), (3, .int p3), (4, .int p4), (5, .int p5), (6, .int z28563)]) hx hb dX13_feed_76 hl (by decide) rfl (fun ls hl => ?_)
        have w28570 : 0 ≤ z28568.toInt ∧ z28568.toInt ≤ 999 := by omega
        refine lv_aload_n hx hb dX13_feed_78 rfl (lv_at hl 1 rfl) ?_
        refine t_get (C := RX13) (T := TX13) (N := 37) X hT m0 g0 rfl rfl 5 (by decide) qw_111 inlX13 rfl dX13_feed_79 (fun v28571 hv28571 ov28571 => ?_)
        obtain ⟨b28572, rfl, mb28572, gb28572⟩ := okV_r ov28571
        have gb28572 : tag b28572 = 27 := tg_of gb28572
        refine lv_aload_n hx hb dX13_feed_82 rfl (lv_at hl 1 rfl) ?_
        refine t_get (C := RX13) (T := TX13) (N := 37) X hT m0 g0 rfl rfl 6 (by decide) qw_141 inlX13 rfl dX13_feed_83 (fun v28573 hv28573 ov28573 => ?_)
        obtain rfl : v28573 = .int z28568 := hv28573.symm.trans qz28568
        refine lv_iload hx hb dX13_feed_86 (lv_at hl 0 rfl) ?_
        refine lv_bipush (v := 24) hx hb dX13_feed_88 (by decide) ?_
        refine lv_bipush (v := 8) hx hb dX13_feed_90 (by decide) ?_
        refine lv_iload hx hb dX13_feed_92 (lv_at hl 7 rfl) ?_
        refine lv_iconst (v := 4) hx hb dX13_feed_94 (by decide) ?_
        refine lv_irem hx hb dX13_feed_95 (by decide) ?_
        refine lv_topi (fun z28574 ez28574 => ?_)
        have hz28574 : z28574.toInt = z28563.toInt % 4 := ar_rem ez28574 (rfl : z28563.toInt = z28563.toInt) (by decide : (4 : Int32).toInt = 4) (by omega) (by omega)
        have rz28574 : 0 ≤ z28574.toInt ∧ z28574.toInt ≤ 3 := by omega
        refine lv_imul hx hb dX13_feed_96 ?_
        refine lv_topi (fun z28575 ez28575 => ?_)
        have hz28575 : z28575.toInt = 8 * z28574.toInt := ar_mul ez28575 (by decide : (8 : Int32).toInt = 8) (rfl : z28574.toInt = z28574.toInt) (by omega) (by omega)
        have rz28575 : 0 ≤ z28575.toInt ∧ z28575.toInt ≤ 24 := by omega
        refine lv_isub hx hb dX13_feed_97 ?_
        refine lv_topi (fun z28576 ez28576 => ?_)
        have hz28576 : z28576.toInt = 24 - z28575.toInt := ar_sub ez28576 (by decide : (24 : Int32).toInt = 24) (rfl : z28575.toInt = z28575.toInt) (by omega) (by omega)
        have rz28576 : 0 ≤ z28576.toInt ∧ z28576.toInt ≤ 24 := by omega
        refine lv_ishr hx hb dX13_feed_98 ?_
        refine lv_topi (fun z28577 ez28577 => ?_)
        have rz28577 := rg_all z28577
        refine lv_i2b hx hb dX13_feed_99 rfl ?_
        refine lv_topi (fun z28578 ez28578 => ?_)
        have rz28578 := rg_all z28578
        refine t_bst X hT mb28572 gb28572 rfl (by omega) (show (-2147483648) ≤ (vp_nar .byte z28578).toInt ∧ (vp_nar .byte z28578).toInt ≤ 2147483647 from (rg_all _)) dX13_feed_100 (fun F H locs hT v28579 h1v28579 h2v28579 => ?_)
        have qz28568 := (h2v28579 _ _).trans qz28568
        have qz28569 := (h2v28579 _ _).trans qz28569
        have hv28571 := (h2v28579 _ _).trans hv28571
        have hfr : (∀ b j : Nat, (tag b ≠ 46 ∨ j ≠ 0) → (tag b ≠ 46 ∨ j ≠ 6) → fld F b j = fld Fo b j) ∧ (∀ b j : Nat, tag b ≠ 27 → elm F b j = elm Fo b j) := ⟨fun b j n46_0 n46_6 => (h2v28579 b j).trans (hfr.1 b j n46_0 n46_6), fun b j a27 => (h1v28579 b j (Or.inl (at_ne gb28572 a27))).trans (hfr.2 b j a27)⟩
        refine lv_aload_n hx hb dX13_feed_101 rfl (lv_at hl 1 rfl) ?_
        refine lv_dup hx hb dX13_feed_102 rfl ?_
        refine t_get (C := RX13) (T := TX13) (N := 37) X hT m0 g0 rfl rfl 6 (by decide) qw_141 inlX13 rfl dX13_feed_103 (fun v28580 hv28580 ov28580 => ?_)
        obtain rfl : v28580 = .int z28568 := hv28580.symm.trans qz28568
        refine lv_iconst (v := 1) hx hb dX13_feed_106 (by decide) ?_
        refine lv_iadd hx hb dX13_feed_107 ?_
        refine lv_topi (fun z28581 ez28581 => ?_)
        have hz28581 : z28581.toInt = z28568.toInt + 1 := ar_add ez28581 (rfl : z28568.toInt = z28568.toInt) (by decide : (1 : Int32).toInt = 1) (by omega) (by omega)
        have rz28581 : 1 ≤ z28581.toInt ∧ z28581.toInt ≤ 1000 := by omega
        refine t_put (C := RX13) (T := TX13) (N := 37) (v := .int z28581) X hT m0 g0 rfl tyX13 tyX13_ok nmX13 rfl 6 (by decide) qw_141 inlX13 rfl (by first | rfl | decide) (by first | rfl | decide) rfl (⟨_, rfl, (show 0 ≤ (z28581 : Int32).toInt from (by omega)), (show (z28581 : Int32).toInt ≤ 1000 from (by omega))⟩) dX13_feed_108 (fun F H locs hT v28582 h1v28582 h2v28582 => ?_)
        have qz28569 := (h1v28582 _ _ (Or.inr (by decide))).trans qz28569
        have hv28571 := (h1v28582 _ _ (Or.inr (by decide))).trans hv28571
        have hfr : (∀ b j : Nat, (tag b ≠ 46 ∨ j ≠ 0) → (tag b ≠ 46 ∨ j ≠ 6) → fld F b j = fld Fo b j) ∧ (∀ b j : Nat, tag b ≠ 27 → elm F b j = elm Fo b j) := ⟨fun b j n46_0 n46_6 => (h1v28582 b j (fr_ne g0 n46_6)).trans (hfr.1 b j n46_0 n46_6), fun b j a27 => (h2v28582 b j).trans (hfr.2 b j a27)⟩
        obtain ⟨z28583, ez28583⟩ : ∃ y : Int32, y = z28563 + 1 := ⟨_, rfl⟩
        have hz28583 : z28583.toInt = z28563.toInt + 1 := ar_add ez28583 rfl (by decide : (1 : Int32).toInt = 1) (by omega) (by omega)
        refine lv_iinc (v := z28583) (lv' := [(6, .int z28583), (7, .int z28567), (0, .ref p0), (1, .int p1), (2, .int p2), (3, .int p3), (4, .int p4), (5, .int p5)]) hx hb dX13_feed_111 hl (k := 7) rfl (by rw [ez28583]; rfl) (by decide) rfl (fun ls hl => ?_)
        refine lv_goto (tgt := 23) hx hb dX13_feed_114 (by decide) ?_
        exact ih23 z28583 z28581 z28569 _ _ _ _ (by omega) (by omega) (by omega) (by omega) hT hfr v28582 qz28569 (by omega) (by omega) (lv_sub hl [2, 3, 4, 5, 6, 7, 0] rfl)
      refine lv_iload hx hb dX13_feed_23 (lv_at hl 6 rfl) ?_
      refine lv_bipush (v := 20) hx hb dX13_feed_25 (by decide) ?_
      refine lv_icmp_ge (tgt := 117) hx hb dX13_feed_27 (by decide) (fun c28584 => ?_) (fun c28584 => ?_)
      · have w28585 := cv_le (by decide : (20 : Int32).toInt = 20) (rfl : z28563.toInt = z28563.toInt) c28584
        refine lv_aload_n hx hb dX13_feed_117 rfl (lv_at hl 0 rfl) ?_
        refine t_get (C := RX13) (T := TX13) (N := 37) X hT m0 g0 rfl rfl 6 (by decide) qw_141 inlX13 rfl dX13_feed_118 (fun v28586 hv28586 ov28586 => ?_)
        obtain rfl : v28586 = .int z28564 := hv28586.symm.trans qz28564
        exact t_iret hQ X hT (⟨rg_all _, hfr, ⟨_, qz28564, by omega, by omega⟩⟩) (Nat.le_of_ble_eq_true rfl) (Nat.le_of_ble_eq_true rfl) dX13_feed_121
      · have w28587 := cv_nle (by decide : (20 : Int32).toInt = 20) (rfl : z28563.toInt = z28563.toInt) c28584
        refine lv_iload hx hb dX13_feed_30 (lv_at hl 6 rfl) ?_
        refine lv_iconst (v := 4) hx hb dX13_feed_32 (by decide) ?_
        refine lv_icmp_ge (tgt := 40) hx hb dX13_feed_33 (by decide) (fun c28588 => ?_) (fun c28588 => ?_)
        · have w28589 := cv_le (by decide : (4 : Int32).toInt = 4) (rfl : z28563.toInt = z28563.toInt) c28588
          refine lv_iload hx hb dX13_feed_40 (lv_at hl 6 rfl) ?_
          refine lv_bipush (v := 8) hx hb dX13_feed_42 (by decide) ?_
          refine lv_icmp_ge (tgt := 51) hx hb dX13_feed_44 (by decide) (fun c28590 => ?_) (fun c28590 => ?_)
          · have w28591 := cv_le (by decide : (8 : Int32).toInt = 8) (rfl : z28563.toInt = z28563.toInt) c28590
            refine lv_iload hx hb dX13_feed_51 (lv_at hl 6 rfl) ?_
            refine lv_bipush (v := 12) hx hb dX13_feed_53 (by decide) ?_
            refine lv_icmp_ge (tgt := 62) hx hb dX13_feed_55 (by decide) (fun c28592 => ?_) (fun c28592 => ?_)
            · have w28593 := cv_le (by decide : (12 : Int32).toInt = 12) (rfl : z28563.toInt = z28563.toInt) c28592
              refine lv_iload hx hb dX13_feed_62 (lv_at hl 6 rfl) ?_
              refine lv_bipush (v := 16) hx hb dX13_feed_64 (by decide) ?_
              refine lv_icmp_ge (tgt := 74) hx hb dX13_feed_66 (by decide) (fun c28594 => ?_) (fun c28594 => ?_)
              · have w28595 := cv_le (by decide : (16 : Int32).toInt = 16) (rfl : z28563.toInt = z28563.toInt) c28594
                refine lv_iload hx hb dX13_feed_74 (lv_at hl 5 rfl) ?_
                exact K76 p5 z28564 z28565 _ _ _ _ (by omega) (by omega) (by omega) hT hfr qz28564 qz28565 (by omega) (by omega) (lv_sub hl [0, 1, 2, 3, 4, 5, 6] rfl)
              · have w28596 := cv_nle (by decide : (16 : Int32).toInt = 16) (rfl : z28563.toInt = z28563.toInt) c28594
                refine lv_iload hx hb dX13_feed_69 (lv_at hl 4 rfl) ?_
                refine lv_goto (tgt := 76) hx hb dX13_feed_71 (by decide) ?_
                exact K76 p4 z28564 z28565 _ _ _ _ (by omega) (by omega) (by omega) hT hfr qz28564 qz28565 (by omega) (by omega) (lv_sub hl [0, 1, 2, 3, 4, 5, 6] rfl)
            · have w28597 := cv_nle (by decide : (12 : Int32).toInt = 12) (rfl : z28563.toInt = z28563.toInt) c28592
              refine lv_iload_n hx hb dX13_feed_58 rfl (lv_at hl 3 rfl) ?_
              refine lv_goto (tgt := 76) hx hb dX13_feed_59 (by decide) ?_
              exact K76 p3 z28564 z28565 _ _ _ _ (by omega) (by omega) (by omega) hT hfr qz28564 qz28565 (by omega) (by omega) (lv_sub hl [0, 1, 2, 3, 4, 5, 6] rfl)
          · have w28598 := cv_nle (by decide : (8 : Int32).toInt = 8) (rfl : z28563.toInt = z28563.toInt) c28590
            refine lv_iload_n hx hb dX13_feed_47 rfl (lv_at hl 2 rfl) ?_
            refine lv_goto (tgt := 76) hx hb dX13_feed_48 (by decide) ?_
            exact K76 p2 z28564 z28565 _ _ _ _ (by omega) (by omega) (by omega) hT hfr qz28564 qz28565 (by omega) (by omega) (lv_sub hl [0, 1, 2, 3, 4, 5, 6] rfl)
        · have w28599 := cv_nle (by decide : (4 : Int32).toInt = 4) (rfl : z28563.toInt = z28563.toInt) c28588
          refine lv_iload_n hx hb dX13_feed_36 rfl (lv_at hl 1 rfl) ?_
          refine lv_goto (tgt := 76) hx hb dX13_feed_37 (by decide) ?_
          exact K76 p1 z28564 z28565 _ _ _ _ (by omega) (by omega) (by omega) hT hfr qz28564 qz28565 (by omega) (by omega) (lv_sub hl [0, 1, 2, 3, 4, 5, 6] rfl)
  refine lv_aload_n hx hb dX13_feed_0 rfl (lv_at hl 0 rfl) ?_
  refine lv_iconst (v := 0) hx hb dX13_feed_1 (by decide) ?_
  refine t_put (C := RX13) (T := TX13) (N := 37) (v := .int 0) X hT m0 g0 rfl tyX13 tyX13_ok nmX13 rfl 0 (by decide) qw_140 inlX13 rfl (by first | rfl | decide) (by first | rfl | decide) rfl (⟨_, rfl, (show (-2147483648) ≤ (0 : Int32).toInt from (by decide)), (show (0 : Int32).toInt ≤ 2147483647 from (by decide))⟩) dX13_feed_2 (fun F H locs hT v28600 h1v28600 h2v28600 => ?_)
  have pf0 := (h1v28600 _ _ (Or.inr (by decide))).trans pf0
  have hfr : (∀ b j : Nat, (tag b ≠ 46 ∨ j ≠ 0) → (tag b ≠ 46 ∨ j ≠ 6) → fld F b j = fld Fo b j) ∧ (∀ b j : Nat, tag b ≠ 27 → elm F b j = elm Fo b j) := ⟨fun b j n46_0 n46_6 => (h1v28600 b j (fr_ne g0 n46_0)).trans (hfr.1 b j n46_0 n46_6), fun b j a27 => (h2v28600 b j).trans (hfr.2 b j a27)⟩
  refine lv_aload_n hx hb dX13_feed_5 rfl (lv_at hl 0 rfl) ?_
  refine t_get (C := RX13) (T := TX13) (N := 37) X hT m0 g0 rfl rfl 6 (by decide) qw_141 inlX13 rfl dX13_feed_6 (fun v28601 hv28601 ov28601 => ?_)
  obtain rfl : v28601 = .int x0 := hv28601.symm.trans pf0
  refine lv_bipush (v := 20) hx hb dX13_feed_9 (by decide) ?_
  refine lv_iadd hx hb dX13_feed_11 ?_
  refine lv_topi (fun z28602 ez28602 => ?_)
  have hz28602 : z28602.toInt = x0.toInt + 20 := ar_add ez28602 (rfl : x0.toInt = x0.toInt) (by decide : (20 : Int32).toInt = 20) (by omega) (by omega)
  have rz28602 : 20 ≤ z28602.toInt ∧ z28602.toInt ≤ 1020 := by omega
  refine lv_sipush (v := 1000) hx hb dX13_feed_12 (by decide) ?_
  refine lv_icmp_le (tgt := 20) hx hb dX13_feed_15 (by decide) (fun c28603 => ?_) (fun c28603 => ?_)
  · have w28604 := cv_le (rfl : z28602.toInt = z28602.toInt) (by decide : (1000 : Int32).toInt = 1000) c28603
    refine lv_iconst (v := 0) hx hb dX13_feed_20 (by decide) ?_
    refine lv_istore (lv' := [(6, .int 0), (0, .ref p0), (1, .int p1), (2, .int p2), (3, .int p3), (4, .int p4), (5, .int p5)]) hx hb dX13_feed_21 hl (by decide) rfl (fun ls hl => ?_)
    have k28605 : (0 : Int32).toInt = 0 := by decide
    have k28606 : (0 : Int32).toInt = 0 := by decide
    exact K23 21 0 x0 0 _ _ _ _ (by omega) (by decide) (by omega) (by decide) hT hfr pf0 v28600 (by omega) (by omega) (lv_sub hl [1, 2, 3, 4, 5, 6, 0] rfl)
  · have w28607 := cv_nle (rfl : z28602.toInt = z28602.toInt) (by decide : (1000 : Int32).toInt = 1000) c28603
    refine lv_iconst (v := (-1)) hx hb dX13_feed_18 (by decide) ?_
    have k28608 : ((-1) : Int32).toInt = (-1) := by decide
    exact t_iret hQ X hT (⟨rg_all _, hfr, ⟨_, pf0, by omega, by omega⟩⟩) (Nat.le_of_ble_eq_true rfl) (Nat.le_of_ble_eq_true rfl) dX13_feed_19
