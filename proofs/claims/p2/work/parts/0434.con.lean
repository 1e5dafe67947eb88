theorem kp_X13_latest (l : Launch) (G : KG) (tag : Nat → Nat) (L : List Nat) (Fo : Nat → va_E) (ho : okT G ttC tag L Fo) (p0 : Nat) (p1 : Int32) (m0 : p0 ∈ L) (g0 : tag p0 = 46) : TMi l yX13_latest cX13_latest 2 (some .int) { frames := 4, cells := 0, slots := 0, locals := 91 } G ttC tag L Fo [.ref p0, .int p1] (fun r F1 => ((-2147483648) ≤ r.toInt ∧ r.toInt ≤ 2147483647) ∧ ((∀ b j : Nat, (tag b ≠ 46 ∨ j ≠ 0) → (tag b ≠ 46 ∨ j ≠ 1) → (tag b ≠ 46 ∨ j ≠ 2) → (tag b ≠ 46 ∨ j ≠ 36) → fld F1 b j = fld Fo b j) ∧ (∀ b j : Nat, tag b ≠ 33 → tag b ≠ 43 → elm F1 b j = elm Fo b j))) := by
  rcases t_fldn ho m0 g0 rfl 3 rfl with h9 | ⟨b9, h9, m9, t9⟩
  · exact km240_X13_latest l G tag L Fo ho p0 p1  m0 g0 h9 
  · exact km239_X13_latest l G tag L Fo ho p0 p1 b9  m0 g0 m9 (tg_of t9) h9 
set_option maxHeartbeats 4000000 in
set_option maxRecDepth 100000 in
theorem km242_X13_surely (l : Launch) (G : KG) (tag : Nat → Nat) (L : List Nat) (Fo : Nat → va_E) (ho : okT G ttC tag L Fo) (p0 : Nat) (p1 : Int32) (p2 : Int32) (x0 : Nat) (m0 : p0 ∈ L) (g0 : tag p0 = 46) (mx0 : x0 ∈ L) (gx0 : tag x0 = 45) (pf0 : fld Fo p0 3 = .ref x0) : TMi l yX13_surely cX13_surely 3 (some .int) { frames := 4, cells := 0, slots := 0, locals := 91 } G ttC tag L Fo [.ref p0, .int p1, .int p2] (fun r F1 => ((-2147483648) ≤ r.toInt ∧ r.toInt ≤ 2147483647) ∧ ((∀ b j : Nat, (tag b ≠ 46 ∨ j ≠ 0) → (tag b ≠ 46 ∨ j ≠ 1) → (tag b ≠ 46 ∨ j ≠ 2) → (tag b ≠ 46 ∨ j ≠ 36) → fld F1 b j = fld Fo b j) ∧ (∀ b j : Nat, tag b ≠ 33 → tag b ≠ 43 → elm F1 b j = elm Fo b j))) := by
  refine t_bodyi (y := yX13_surely) (cd := cX13_surely) (mL := 3) (rt := (some .int)) (rm := { frames := 4, cells := 0, slots := 0, locals := 91 }) (av := [.ref p0, .int p1, .int p2]) (by decide) (Nat.le_of_ble_eq_true rfl) ho ?_
  intro p e s m args below meth c ls A Q hQ X hT hl
  have hx := X.1.1
  have hb := X.1.2.1
  have hl : lv_has ls 3 [(0, .ref p0), (1, .int p1), (2, .int p2)] := hl
  have rp1 := rg_all p1
  have rp2 := rg_all p2
  obtain ⟨F, hFo⟩ : ∃ F : Nat → va_E, F = Fo := ⟨_, rfl⟩
  rw [← hFo] at hT pf0
  have hfr : (∀ b j : Nat, (tag b ≠ 46 ∨ j ≠ 0) → (tag b ≠ 46 ∨ j ≠ 1) → (tag b ≠ 46 ∨ j ≠ 2) → (tag b ≠ 46 ∨ j ≠ 36) → fld F b j = fld Fo b j) ∧ (∀ b j : Nat, tag b ≠ 33 → tag b ≠ 43 → elm F b j = elm Fo b j) := by
    rw [hFo]
    exact ⟨by intros; rfl, by intros; rfl⟩
  refine lv_aload_n hx hb dX13_surely_0 rfl (lv_at hl 0 rfl) ?_
  refine lv_iconst (v := 0) hx hb dX13_surely_1 (by decide) ?_
  refine t_put (C := RX13) (T := TX13) (N := 37) (v := .int 0) X hT m0 g0 rfl tyX13 tyX13_ok nmX13 rfl 0 (by decide) qw_140 inlX13 rfl (by first | rfl | decide) (by first | rfl | decide) rfl (⟨_, rfl, (show (-2147483648) ≤ (0 : Int32).toInt from (by decide)), (show (0 : Int32).toInt ≤ 2147483647 from (by decide))⟩) dX13_surely_2 (fun F H locs hT v74330 h1v74330 h2v74330 => ?_)
  have pf0 := (h1v74330 _ _ (Or.inr (by decide))).trans pf0
  have hfr : (∀ b j : Nat, (tag b ≠ 46 ∨ j ≠ 0) → (tag b ≠ 46 ∨ j ≠ 1) → (tag b ≠ 46 ∨ j ≠ 2) → (tag b ≠ 46 ∨ j ≠ 36) → fld F b j = fld Fo b j) ∧ (∀ b j : Nat, tag b ≠ 33 → tag b ≠ 43 → elm F b j = elm Fo b j) := ⟨fun b j n46_0 n46_1 n46_2 n46_36 => (h1v74330 b j (fr_ne g0 n46_0)).trans (hfr.1 b j n46_0 n46_1 n46_2 n46_36), fun b j a33 a43 => (h2v74330 b j).trans (hfr.2 b j a33 a43)⟩
  refine lv_aload_n hx hb dX13_surely_5 rfl (lv_at hl 0 rfl) ?_
  refine lv_iload_n hx hb dX13_surely_6 rfl (lv_at hl 1 rfl) ?_
  refine t_cVi (n := 1) (C := RX13) (T := TX13) (N := 37) (As := [.int p1]) (rest := []) X hT (km231_X13_isWall l G tag L F hT.2.2.2 p0 p1 x0 m0 g0 mx0 gx0 pf0) m0 g0 rfl rfl qw_1392 qw_1393 qw_1394 qw_5 qw_1395 ⟨rfl, by decide +kernel, by decide +kernel, by decide +kernel⟩ ⟨Nat.le_of_ble_eq_true rfl, Nat.le_of_ble_eq_true rfl⟩ hl rfl rfl (Nat.le_of_ble_eq_true rfl) dX13_surely_7 ⟨Nat.le_of_ble_eq_true rfl, Nat.le_of_ble_eq_true rfl⟩ (fun z74331 F9 H locs hT hz74331 => ?_)
  obtain ⟨fz74331, hz74331⟩ := hz74331
  rw [fz74331] at hT
  obtain ⟨hz74331, iz74331⟩ := hz74331
  refine lv_if_eq (tgt := 26) hx hb dX13_surely_10 (by decide) (fun c74332 => ?_) (fun c74332 => ?_)
  · have w74333 := cv_eq (rfl : z74331.toInt = z74331.toInt) (by decide : (0 : Int32).toInt = 0) c74332
    refine lv_aload_n hx hb dX13_surely_26 rfl (lv_at hl 0 rfl) ?_
    refine lv_iconst (v := 1) hx hb dX13_surely_27 (by decide) ?_
    refine t_cVi (n := 1) (C := RX13) (T := TX13) (N := 37) (As := [.int 1]) (rest := []) X hT (km88_X13_refused l G tag L F hT.2.2.2 p0 1 m0 g0) m0 g0 rfl rfl qw_484 qw_485 qw_486 qw_5 qw_487 ⟨rfl, by decide +kernel, by decide +kernel, by decide +kernel⟩ ⟨Nat.le_of_ble_eq_true rfl, Nat.le_of_ble_eq_true rfl⟩ hl rfl rfl (Nat.le_of_ble_eq_true rfl) dX13_surely_28 ⟨Nat.le_of_ble_eq_true rfl, Nat.le_of_ble_eq_true rfl⟩ (fun z74334 F H locs hT hz74334 => ?_)
    obtain ⟨hz74334, yz74334⟩ := hz74334
    have pf0 := (yz74334.1 _ 3 (Or.inr (by decide)) (Or.inr (by decide))).trans pf0
    have v74330 := (yz74334.1 _ 0 (Or.inr (by decide)) (Or.inr (by decide))).trans v74330
    have hfr : (∀ b j : Nat, (tag b ≠ 46 ∨ j ≠ 0) → (tag b ≠ 46 ∨ j ≠ 1) → (tag b ≠ 46 ∨ j ≠ 2) → (tag b ≠ 46 ∨ j ≠ 36) → fld F b j = fld Fo b j) ∧ (∀ b j : Nat, tag b ≠ 33 → tag b ≠ 43 → elm F b j = elm Fo b j) := ⟨fun b j n46_0 n46_1 n46_2 n46_36 => (yz74334.1 b j n46_1 n46_2).trans (hfr.1 b j n46_0 n46_1 n46_2 n46_36), fun b j a33 a43 => (yz74334.2 b j ).trans (hfr.2 b j a33 a43)⟩
    exact t_iret hQ X hT (⟨rg_all _, hfr⟩) (Nat.le_of_ble_eq_true rfl) (Nat.le_of_ble_eq_true rfl) dX13_surely_31
  · have w74335 := cv_ne (rfl : z74331.toInt = z74331.toInt) (by decide : (0 : Int32).toInt = 0) c74332
    have w74336 := (fun h => (iz74331 h)) (by omega)
    refine lv_aload_n hx hb dX13_surely_13 rfl (lv_at hl 0 rfl) ?_
    refine lv_iload_n hx hb dX13_surely_14 rfl (lv_at hl 2 rfl) ?_
    refine t_cVi (n := 1) (C := RX13) (T := TX13) (N := 37) (As := [.int p2]) (rest := []) X hT (km231_X13_isWall l G tag L F hT.2.2.2 p0 p2 x0 m0 g0 mx0 gx0 pf0) m0 g0 rfl rfl qw_1392 qw_1393 qw_1394 qw_5 qw_1395 ⟨rfl, by decide +kernel, by decide +kernel, by decide +kernel⟩ ⟨Nat.le_of_ble_eq_true rfl, Nat.le_of_ble_eq_true rfl⟩ hl rfl rfl (Nat.le_of_ble_eq_true rfl) dX13_surely_15 ⟨Nat.le_of_ble_eq_true rfl, Nat.le_of_ble_eq_true rfl⟩ (fun z74337 F9 H locs hT hz74337 => ?_)
    obtain ⟨fz74337, hz74337⟩ := hz74337
    rw [fz74337] at hT
    obtain ⟨hz74337, iz74337⟩ := hz74337
    refine lv_if_eq (tgt := 26) hx hb dX13_surely_18 (by decide) (fun c74338 => ?_) (fun c74338 => ?_)
    · have w74339 := cv_eq (rfl : z74337.toInt = z74337.toInt) (by decide : (0 : Int32).toInt = 0) c74338
      refine lv_aload_n hx hb dX13_surely_26 rfl (lv_at hl 0 rfl) ?_
      refine lv_iconst (v := 1) hx hb dX13_surely_27 (by decide) ?_
      refine t_cVi (n := 1) (C := RX13) (T := TX13) (N := 37) (As := [.int 1]) (rest := []) X hT (km88_X13_refused l G tag L F hT.2.2.2 p0 1 m0 g0) m0 g0 rfl rfl qw_484 qw_485 qw_486 qw_5 qw_487 ⟨rfl, by decide +kernel, by decide +kernel, by decide +kernel⟩ ⟨Nat.le_of_ble_eq_true rfl, Nat.le_of_ble_eq_true rfl⟩ hl rfl rfl (Nat.le_of_ble_eq_true rfl) dX13_surely_28 ⟨Nat.le_of_ble_eq_true rfl, Nat.le_of_ble_eq_true rfl⟩ (fun z74340 F H locs hT hz74340 => ?_)
      obtain ⟨hz74340, yz74340⟩ := hz74340
      have pf0 := (yz74340.1 _ 3 (Or.inr (by decide)) (Or.inr (by decide))).trans pf0
      have v74330 := (yz74340.1 _ 0 (Or.inr (by decide)) (Or.inr (by decide))).trans v74330
      have hfr : (∀ b j : Nat, (tag b ≠ 46 ∨ j ≠ 0) → (tag b ≠ 46 ∨ j ≠ 1) → (tag b ≠ 46 ∨ j ≠ 2) → (tag b ≠ 46 ∨ j ≠ 36) → fld F b j = fld Fo b j) ∧ (∀ b j : Nat, tag b ≠ 33 → tag b ≠ 43 → elm F b j = elm Fo b j) := ⟨fun b j n46_0 n46_1 n46_2 n46_36 => (yz74340.1 b j n46_1 n46_2).trans (hfr.1 b j n46_0 n46_1 n46_2 n46_36), fun b j a33 a43 => (yz74340.2 b j ).trans (hfr.2 b j a33 a43)⟩
      exact t_iret hQ X hT (⟨rg_all _, hfr⟩) (Nat.le_of_ble_eq_true rfl) (Nat.le_of_ble_eq_true rfl) dX13_surely_31
    · have w74341 := cv_ne (rfl : z74337.toInt = z74337.toInt) (by decide : (0 : Int32).toInt = 0) c74338
      have w74342 := (fun h => (iz74337 h)) (by omega)
      refine lv_iload_n hx hb dX13_surely_21 rfl (lv_at hl 1 rfl) ?_
      refine lv_iload_n hx hb dX13_surely_22 rfl (lv_at hl 2 rfl) ?_
      refine lv_icmp_ne (tgt := 32) hx hb dX13_surely_23 (by decide) (fun c74343 => ?_) (fun c74343 => ?_)
      · have w74344 := cv_ne (rfl : p1.toInt = p1.toInt) (rfl : p2.toInt = p2.toInt) c74343
        refine lv_aload_n hx hb dX13_surely_32 rfl (lv_at hl 0 rfl) ?_
        refine lv_iconst (v := (-1)) hx hb dX13_surely_33 (by decide) ?_
        obtain ⟨z74345, qz74345, mz74345, gz74345⟩ := t_fldr hT m0 g0 rfl 29 rfl
        have gz74345 : tag z74345 = 43 := tg_of gz74345
        refine t_cVv (n := 1) (C := RX13) (T := TX13) (N := 37) (As := [.int (-1)]) (rest := []) X hT (km227_X13_findsOrders l G tag L F hT.2.2.2 p0 (-1) x0 z74345 m0 g0 mx0 gx0 pf0 mz74345 gz74345 qz74345) m0 g0 rfl rfl qw_1362 qw_1363 qw_1364 qw_5 qw_1365 ⟨rfl, by decide +kernel, by decide +kernel, by decide +kernel⟩ ⟨Nat.le_of_ble_eq_true rfl, Nat.le_of_ble_eq_true rfl⟩ hl rfl rfl (Nat.le_of_ble_eq_true rfl) dX13_surely_34 ⟨Nat.le_of_ble_eq_true rfl, Nat.le_of_ble_eq_true rfl⟩ (fun F H locs hT hz74346 => ?_)
        have yz74346 := hz74346
        have pf0 := (yz74346.1 _ 3 (Or.inr (by decide))).trans pf0
        have v74330 := (yz74346.1 _ 0 (Or.inr (by decide))).trans v74330
        have qz74345 := (yz74346.1 _ 29 (Or.inr (by decide))).trans qz74345
        have hfr : (∀ b j : Nat, (tag b ≠ 46 ∨ j ≠ 0) → (tag b ≠ 46 ∨ j ≠ 1) → (tag b ≠ 46 ∨ j ≠ 2) → (tag b ≠ 46 ∨ j ≠ 36) → fld F b j = fld Fo b j) ∧ (∀ b j : Nat, tag b ≠ 33 → tag b ≠ 43 → elm F b j = elm Fo b j) := ⟨fun b j n46_0 n46_1 n46_2 n46_36 => (yz74346.1 b j n46_36).trans (hfr.1 b j n46_0 n46_1 n46_2 n46_36), fun b j a33 a43 => (yz74346.2 b j a33 a43).trans (hfr.2 b j a33 a43)⟩
        refine lv_aload_n hx hb dX13_surely_37 rfl (lv_at hl 0 rfl) ?_
        refine lv_aload_n hx hb dX13_surely_38 rfl (lv_at hl 0 rfl) ?_
        refine t_get (C := RX13) (T := TX13) (N := 37) X hT m0 g0 rfl rfl 36 (by decide) qw_1361 inlX13 rfl dX13_surely_39 (fun v74347 hv74347 ov74347 => ?_)
        obtain ⟨z74348, rfl, rz74348⟩ := okV_i ov74347
        refine lv_if_le (tgt := 62) hx hb dX13_surely_42 (by decide) (fun c74349 => ?_) (fun c74349 => ?_)
        · have w74350 := cv_le (rfl : z74348.toInt = z74348.toInt) (by decide : (0 : Int32).toInt = 0) c74349
          refine lv_iconst (v := 0) hx hb dX13_surely_62 (by decide) ?_
          refine t_cVi (n := 1) (C := RX13) (T := TX13) (N := 37) (As := [.int 0]) (rest := []) X hT (km93_X13_good l G tag L F hT.2.2.2 p0 0 m0 g0) m0 g0 rfl rfl qw_687 qw_688 qw_689 qw_5 qw_690 ⟨rfl, by decide +kernel, by decide +kernel, by decide +kernel⟩ ⟨Nat.le_of_ble_eq_true rfl, Nat.le_of_ble_eq_true rfl⟩ hl rfl rfl (Nat.le_of_ble_eq_true rfl) dX13_surely_63 ⟨Nat.le_of_ble_eq_true rfl, Nat.le_of_ble_eq_true rfl⟩ (fun z74351 F H locs hT hz74351 => ?_)
          obtain ⟨hz74351, yz74351⟩ := hz74351
          have pf0 := (yz74351.1 _ 3 (Or.inr (by decide)) (Or.inr (by decide))).trans pf0
          have v74330 := (yz74351.1 _ 0 (Or.inr (by decide)) (Or.inr (by decide))).trans v74330
          have qz74345 := (yz74351.1 _ 29 (Or.inr (by decide)) (Or.inr (by decide))).trans qz74345
          have hv74347 := (yz74351.1 _ 36 (Or.inr (by decide)) (Or.inr (by decide))).trans hv74347
          have hfr : (∀ b j : Nat, (tag b ≠ 46 ∨ j ≠ 0) → (tag b ≠ 46 ∨ j ≠ 1) → (tag b ≠ 46 ∨ j ≠ 2) → (tag b ≠ 46 ∨ j ≠ 36) → fld F b j = fld Fo b j) ∧ (∀ b j : Nat, tag b ≠ 33 → tag b ≠ 43 → elm F b j = elm Fo b j) := ⟨fun b j n46_0 n46_1 n46_2 n46_36 => (yz74351.1 b j n46_1 n46_2).trans (hfr.1 b j n46_0 n46_1 n46_2 n46_36), fun b j a33 a43 => (yz74351.2 b j ).trans (hfr.2 b j a33 a43)⟩
          exact t_iret hQ X hT (⟨rg_all _, hfr⟩) (Nat.le_of_ble_eq_true rfl) (Nat.le_of_ble_eq_true rfl) dX13_surely_66
        · have w74352 := cv_nle (rfl : z74348.toInt = z74348.toInt) (by decide : (0 : Int32).toInt = 0) c74349
          refine lv_aload_n hx hb dX13_surely_45 rfl (lv_at hl 0 rfl) ?_
          refine t_get (C := RX13) (T := TX13) (N := 37) X hT m0 g0 rfl rfl 32 (by decide) qw_123 inlX13 rfl dX13_surely_46 (fun v74353 hv74353 ov74353 => ?_)
          obtain ⟨b74354, rfl, mb74354, gb74354⟩ := okV_r ov74353
          have gb74354 : tag b74354 = 33 := tg_of gb74354
          refine lv_iload_n hx hb dX13_surely_49 rfl (lv_at hl 2 rfl) ?_
          refine t_ild X hT mb74354 gb74354 rfl (by omega) dX13_surely_50 (fun z74355 vz74355 rz74355 => ?_)
          have rz74355 : (-2147483648) ≤ z74355.toInt ∧ z74355.toInt ≤ 2147483647 := rz74355
          refine lv_iload_n hx hb dX13_surely_51 rfl (lv_at hl 1 rfl) ?_
          refine t_cSi (n := 2) (As := [.int z74355, .int p1]) (rest := [.ref p0]) X hT (km24_X13_bit l G tag L F hT.2.2.2 z74355 p1 ) qw_676 qw_677 qw_5 qw_678 ⟨by decide +kernel, by decide +kernel, by decide +kernel⟩ ⟨Nat.le_of_ble_eq_true rfl, Nat.le_of_ble_eq_true rfl⟩ hl rfl rfl (Nat.le_of_ble_eq_true rfl) dX13_surely_52 ⟨Nat.le_of_ble_eq_true rfl, Nat.le_of_ble_eq_true rfl⟩ (fun z74356 F9 H locs hT hz74356 => ?_)
          obtain ⟨fz74356, hz74356⟩ := hz74356
          rw [fz74356] at hT
          refine lv_if_eq (tgt := 62) hx hb dX13_surely_55 (by decide) (fun c74357 => ?_) (fun c74357 => ?_)
          · have w74358 := cv_eq (rfl : z74356.toInt = z74356.toInt) (by decide : (0 : Int32).toInt = 0) c74357
            refine lv_iconst (v := 0) hx hb dX13_surely_62 (by decide) ?_
            refine t_cVi (n := 1) (C := RX13) (T := TX13) (N := 37) (As := [.int 0]) (rest := []) X hT (km93_X13_good l G tag L F hT.2.2.2 p0 0 m0 g0) m0 g0 rfl rfl qw_687 qw_688 qw_689 qw_5 qw_690 ⟨rfl, by decide +kernel, by decide +kernel, by decide +kernel⟩ ⟨Nat.le_of_ble_eq_true rfl, Nat.le_of_ble_eq_true rfl⟩ hl rfl rfl (Nat.le_of_ble_eq_true rfl) dX13_surely_63 ⟨Nat.le_of_ble_eq_true rfl, Nat.le_of_ble_eq_true rfl⟩ (fun z74359 F H locs hT hz74359 => ?_)
            obtain ⟨hz74359, yz74359⟩ := hz74359
            have pf0 := (yz74359.1 _ 3 (Or.inr (by decide)) (Or.inr (by decide))).trans pf0
            have v74330 := (yz74359.1 _ 0 (Or.inr (by decide)) (Or.inr (by decide))).trans v74330
            have qz74345 := (yz74359.1 _ 29 (Or.inr (by decide)) (Or.inr (by decide))).trans qz74345
            have hv74347 := (yz74359.1 _ 36 (Or.inr (by decide)) (Or.inr (by decide))).trans hv74347
            have hv74353 := (yz74359.1 _ 32 (Or.inr (by decide)) (Or.inr (by decide))).trans hv74353
            have vz74355 := (yz74359.2 _ _ ).trans vz74355
            have hfr : (∀ b j : Nat, (tag b ≠ 46 ∨ j ≠ 0) → (tag b ≠ 46 ∨ j ≠ 1) → (tag b ≠ 46 ∨ j ≠ 2) → (tag b ≠ 46 ∨ j ≠ 36) → fld F b j = fld Fo b j) ∧ (∀ b j : Nat, tag b ≠ 33 → tag b ≠ 43 → elm F b j = elm Fo b j) := ⟨fun b j n46_0 n46_1 n46_2 n46_36 => (yz74359.1 b j n46_1 n46_2).trans (hfr.1 b j n46_0 n46_1 n46_2 n46_36), fun b j a33 a43 => (yz74359.2 b j ).trans (hfr.2 b j a33 a43)⟩
            exact t_iret hQ X hT (⟨rg_all _, hfr⟩) (Nat.le_of_ble_eq_true rfl) (Nat.le_of_ble_eq_true rfl) dX13_surely_66
          · have w74360 := cv_ne (rfl : z74356.toInt = z74356.toInt) (by decide : (0 : Int32).toInt = 0) c74357
            refine lv_iconst (v := 1) hx hb dX13_surely_58 (by decide) ?_
            refine lv_goto (tgt := 63) hx hb dX13_surely_59 (by decide) ?_
            refine t_cVi (n := 1) (C := RX13) (T := TX13) (N := 37) (As := [.int 1]) (rest := []) X hT (km93_X13_good l G tag L F hT.2.2.2 p0 1 m0 g0) m0 g0 rfl rfl qw_687 qw_688 qw_689 qw_5 qw_690 ⟨rfl, by decide +kernel, by decide +kernel, by decide +kernel⟩ ⟨Nat.le_of_ble_eq_true rfl, Nat.le_of_ble_eq_true rfl⟩ hl rfl rfl (Nat.le_of_ble_eq_true rfl) dX13_surely_63 ⟨Nat.le_of_ble_eq_true rfl, Nat.le_of_ble_eq_true rfl⟩ (fun z74361 F H locs hT hz74361 => ?_)
            obtain ⟨hz74361, yz74361⟩ := hz74361
            have pf0 := (yz74361.1 _ 3 (Or.inr (by decide)) (Or.inr (by decide))).trans pf0
            have v74330 := (yz74361.1 _ 0 (Or.inr (by decide)) (Or.inr (by decide))).trans v74330
            have qz74345 := (yz74361.1 _ 29 (Or.inr (by decide)) (Or.inr (by decide))).trans qz74345
            have hv74347 := (yz74361.1 _ 36 (Or.inr (by decide)) (Or.inr (by decide))).trans hv74347
            have hv74353 := (yz74361.1 _ 32 (Or.inr (by decide)) (Or.inr (by decide))).trans hv74353
            have vz74355 := (yz74361.2 _ _ ).trans vz74355
            have hfr : (∀ b j : Nat, (tag b ≠ 46 ∨ j ≠ 0) → (tag b ≠ 46 ∨ j ≠ 1) → (tag b ≠ 46 ∨ j ≠ 2) → (tag b ≠ 46 ∨ j ≠ 36) → fld F b j = fld Fo b j) ∧ (∀ b j : Nat, tag b ≠ 33 → tag b ≠ 43 → elm F b j = elm Fo b j) := ⟨fun b j n46_0 n46_1 n46_2 n46_36 => (yz74361.1 b j n46_1 n46_2).trans (hfr.1 b j n46_0 n46_1 n46_2 n46_36), fun b j a33 a43 => (yz74361.2 b j ).trans (hfr.2 b j a33 a43)⟩
            exact t_iret hQ X hT (⟨rg_all _, hfr⟩) (Nat.le_of_ble_eq_true rfl) (Nat.le_of_ble_eq_true rfl) dX13_surely_66
      · have w74362 := cv_eq (rfl : p1.toInt = p1.toInt) (rfl : p2.toInt = p2.toInt) c74343
        refine lv_aload_n hx hb dX13_surely_26 rfl (lv_at hl 0 rfl) ?_
        refine lv_iconst (v := 1) hx hb dX13_surely_27 (by decide) ?_
        refine t_cVi (n := 1) (C := RX13) (T := TX13) (N := 37) (As := [.int 1]) (rest := []) X hT (km88_X13_refused l G tag L F hT.2.2.2 p0 1 m0 g0) m0 g0 rfl rfl qw_484 qw_485 qw_486 qw_5 qw_487 ⟨rfl, by decide +kernel, by decide +kernel, by decide +kernel⟩ ⟨Nat.le_of_ble_eq_true rfl, Nat.le_of_ble_eq_true rfl⟩ hl rfl rfl (Nat.le_of_ble_eq_true rfl) dX13_surely_28 ⟨Nat.le_of_ble_eq_true rfl, Nat.le_of_ble_eq_true rfl⟩ (fun z74363 F H locs hT hz74363 => ?_)
        obtain ⟨hz74363, yz74363⟩ := hz74363
        have pf0 := (yz74363.1 _ 3 (Or.inr (by decide)) (Or.inr (by decide))).trans pf0
        have v74330 := (yz74363.1 _ 0 (Or.inr (by decide)) (Or.inr (by decide))).trans v74330
        have hfr : (∀ b j : Nat, (tag b ≠ 46 ∨ j ≠ 0) → (tag b ≠ 46 ∨ j ≠ 1) → (tag b ≠ 46 ∨ j ≠ 2) → (tag b ≠ 46 ∨ j ≠ 36) → fld F b j = fld Fo b j) ∧ (∀ b j : Nat, tag b ≠ 33 → tag b ≠ 43 → elm F b j = elm Fo b j) := ⟨fun b j n46_0 n46_1 n46_2 n46_36 => (yz74363.1 b j n46_1 n46_2).trans (hfr.1 b j n46_0 n46_1 n46_2 n46_36), fun b j a33 a43 => (yz74363.2 b j ).trans (hfr.2 b j a33 a43)⟩
        exact t_iret hQ X hT (⟨rg_all _, hfr⟩) (Nat.le_of_ble_eq_true rfl) (Nat.le_of_ble_eq_true rfl) dX13_surely_31
set_option maxHeartbeats 4000000 in
set_option maxRecDepth 100000 in
theorem km243_X13_surely (l : Launch) (G : KG) (tag : Nat → Nat) (L : List Nat) (Fo : Nat → va_E) (ho : okT G ttC tag L Fo) (p0 : Nat) (p1 : Int32) (p2 : Int32) (m0 : p0 ∈ L) (g0 : tag p0 = 46) (pf0 : fld Fo p0 3 = .null) : TMi l yX13_surely cX13_surely 3 (some .int) { frames := 4, cells := 0, slots := 0, locals := 91 } G ttC tag L Fo [.ref p0, .int p1, .int p2] (fun r F1 => ((-2147483648) ≤ r.toInt ∧ r.toInt ≤ 2147483647) ∧ ((∀ b j : Nat, (tag b ≠ 46 ∨ j ≠ 0) → (tag b ≠ 46 ∨ j ≠ 1) → (tag b ≠ 46 ∨ j ≠ 2) → (tag b ≠ 46 ∨ j ≠ 36) → fld F1 b j = fld Fo b j) ∧ (∀ b j : Nat, tag b ≠ 33 → tag b ≠ 43 → elm F1 b j = elm Fo b j))) := by
  refine t_bodyi (y := yX13_surely) (cd := cX13_surely) (mL := 3) (rt := (some .int)) (rm := { frames := 4, cells := 0, slots := 0, locals := 91 }) (av := [.ref p0, .int p1, .int p2]) (by decide) (Nat.le_of_ble_eq_true rfl) ho ?_
  intro p e s m args below meth c ls A Q hQ X hT hl
  have hx := X.1.1
  have hb := X.1.2.1
  have hl : lv_has ls 3 [(0, .ref p0), (1, .int p1), (2, .int p2)] := hl
  have rp1 := rg_all p1
  have rp2 := rg_all p2
  obtain ⟨F, hFo⟩ : ∃ F : Nat → va_E, F = Fo := ⟨_, rfl⟩
  rw [← hFo] at hT pf0
  have hfr : (∀ b j : Nat, (tag b ≠ 46 ∨ j ≠ 0) → (tag b ≠ 46 ∨ j ≠ 1) → (tag b ≠ 46 ∨ j ≠ 2) → (tag b ≠ 46 ∨ j ≠ 36) → fld F b j = fld Fo b j) ∧ (∀ b j : Nat, tag b ≠ 33 → tag b ≠ 43 → elm F b j = elm Fo b j) := by
    rw [hFo]
    exact ⟨by intros; rfl, by intros; rfl⟩
  refine lv_aload_n hx hb dX13_surely_0 rfl (lv_at hl 0 rfl) ?_
  refine lv_iconst (v := 0) hx hb dX13_surely_1 (by decide) ?_
  refine t_put (C := RX13) (T := TX13) (N := 37) (v := .int 0) X hT m0 g0 rfl tyX13 tyX13_ok nmX13 rfl 0 (by decide) qw_140 inlX13 rfl (by first | rfl | decide) (by first | rfl | decide) rfl (⟨_, rfl, (show (-2147483648) ≤ (0 : Int32).toInt from (by decide)), (show (0 : Int32).toInt ≤ 2147483647 from (by decide))⟩) dX13_surely_2 (fun F H locs hT v74430 h1v74430 h2v74430 => ?_)
  have pf0 := (h1v74430 _ _ (Or.inr (by decide))).trans pf0
  have hfr : (∀ b j : Nat, (tag b ≠ 46 ∨ j ≠ 0) → (tag b ≠ 46 ∨ j ≠ 1) → (tag b ≠ 46 ∨ j ≠ 2) → (tag b ≠ 46 ∨ j ≠ 36) → fld F b j = fld Fo b j) ∧ (∀ b j : Nat, tag b ≠ 33 → tag b ≠ 43 → elm F b j = elm Fo b j) := ⟨fun b j n46_0 n46_1 n46_2 n46_36 => (h1v74430 b j (fr_ne g0 n46_0)).trans (hfr.1 b j n46_0 n46_1 n46_2 n46_36), fun b j a33 a43 => (h2v74430 b j).trans (hfr.2 b j a33 a43)⟩
  refine lv_aload_n hx hb dX13_surely_5 rfl (lv_at hl 0 rfl) ?_
  refine lv_iload_n hx hb dX13_surely_6 rfl (lv_at hl 1 rfl) ?_
  refine t_cVi (n := 1) (C := RX13) (T := TX13) (N := 37) (As := [.int p1]) (rest := []) X hT (km233_X13_isWall l G tag L F hT.2.2.2 p0 p1 m0 g0 pf0) m0 g0 rfl rfl qw_1392 qw_1393 qw_1394 qw_5 qw_1395 ⟨rfl, by decide +kernel, by decide +kernel, by decide +kernel⟩ ⟨Nat.le_of_ble_eq_true rfl, Nat.le_of_ble_eq_true rfl⟩ hl rfl rfl (Nat.le_of_ble_eq_true rfl) dX13_surely_7 ⟨Nat.le_of_ble_eq_true rfl, Nat.le_of_ble_eq_true rfl⟩ (fun z74431 F9 H locs hT hz74431 => ?_)
  obtain ⟨fz74431, hz74431⟩ := hz74431
  rw [fz74431] at hT
  refine lv_if_eq (tgt := 26) hx hb dX13_surely_10 (by decide) (fun c74432 => ?_) (fun c74432 => ?_)
  · have w74433 := cv_eq (rfl : z74431.toInt = z74431.toInt) (by decide : (0 : Int32).toInt = 0) c74432
    refine lv_aload_n hx hb dX13_surely_26 rfl (lv_at hl 0 rfl) ?_
    refine lv_iconst (v := 1) hx hb dX13_surely_27 (by decide) ?_
    refine t_cVi (n := 1) (C := RX13) (T := TX13) (N := 37) (As := [.int 1]) (rest := []) X hT (km88_X13_refused l G tag L F hT.2.2.2 p0 1 m0 g0) m0 g0 rfl rfl qw_484 qw_485 qw_486 qw_5 qw_487 ⟨rfl, by decide +kernel, by decide +kernel, by decide +kernel⟩ ⟨Nat.le_of_ble_eq_true rfl, Nat.le_of_ble_eq_true rfl⟩ hl rfl rfl (Nat.le_of_ble_eq_true rfl) dX13_surely_28 ⟨Nat.le_of_ble_eq_true rfl, Nat.le_of_ble_eq_true rfl⟩ (fun z74434 F H locs hT hz74434 => ?_)
    obtain ⟨hz74434, yz74434⟩ := hz74434
    have pf0 := (yz74434.1 _ 3 (Or.inr (by decide)) (Or.inr (by decide))).trans pf0
    have v74430 := (yz74434.1 _ 0 (Or.inr (by decide)) (Or.inr (by decide))).trans v74430
    have hfr : (∀ b j : Nat, (tag b ≠ 46 ∨ j ≠ 0) → (tag b ≠ 46 ∨ j ≠ 1) → (tag b ≠ 46 ∨ j ≠ 2) → (tag b ≠ 46 ∨ j ≠ 36) → fld F b j = fld Fo b j) ∧ (∀ b j : Nat, tag b ≠ 33 → tag b ≠ 43 → elm F b j = elm Fo b j) := ⟨fun b j n46_0 n46_1 n46_2 n46_36 => (yz74434.1 b j n46_1 n46_2).trans (hfr.1 b j n46_0 n46_1 n46_2 n46_36), fun b j a33 a43 => (yz74434.2 b j ).trans (hfr.2 b j a33 a43)⟩
    exact t_iret hQ X hT (⟨rg_all _, hfr⟩) (Nat.le_of_ble_eq_true rfl) (Nat.le_of_ble_eq_true rfl) dX13_surely_31
  · have w74435 := cv_ne (rfl : z74431.toInt = z74431.toInt) (by decide : (0 : Int32).toInt = 0) c74432
    exfalso
    omega
theorem kp_X13_surely (l : Launch) (G : KG) (tag : Nat → Nat) (L : List Nat) (Fo : Nat → va_E) (ho : okT G ttC tag L Fo) (p0 : Nat) (p1 : Int32) (p2 : Int32) (m0 : p0 ∈ L) (g0 : tag p0 = 46) : TMi l yX13_surely cX13_surely 3 (some .int) { frames := 4, cells := 0, slots := 0, locals := 91 } G ttC tag L Fo [.ref p0, .int p1, .int p2] (fun r F1 => ((-2147483648) ≤ r.toInt ∧ r.toInt ≤ 2147483647) ∧ ((∀ b j : Nat, (tag b ≠ 46 ∨ j ≠ 0) → (tag b ≠ 46 ∨ j ≠ 1) → (tag b ≠ 46 ∨ j ≠ 2) → (tag b ≠ 46 ∨ j ≠ 36) → fld F1 b j = fld Fo b j) ∧ (∀ b j : Nat, tag b ≠ 33 → tag b ≠ 43 → elm F1 b j = elm Fo b j))) := by
  rcases t_fldn ho m0 g0 rfl 3 rfl with h9 | ⟨b9, h9, m9, t9⟩
  · exact km243_X13_surely l G tag L Fo ho p0 p1 p2  m0 g0 h9 
  · exact km242_X13_surely l G tag L Fo ho p0 p1 p2 b9  m0 g0 m9 (tg_of t9) h9 
set_option maxHeartbeats 4000000 in
set_option maxRecDepth 100000 in
theorem km245_X13_keeps (l : Launch) (G : KG) (tag : Nat → Nat) (L : List Nat) (Fo : Nat → va_E) (ho : okT G ttC tag L Fo) (p0 : Nat) (m0 : p0 ∈ L) (g0 : tag p0 = 46) : TMv l yX13_keeps cX13_keeps 2 { frames := 0, cells := 0, slots := 0, locals := 0 } G ttC tag L Fo [.ref p0] (fun F1 => ((∀ b j : Nat, (tag b ≠ 46 ∨ j ≠ 20) → fld F1 b j = fld Fo b j) ∧ (∀ b j : Nat, tag b ≠ 38 → elm F1 b j = elm Fo b j))) := by
  refine t_bodyv (y := yX13_keeps) (cd := cX13_keeps) (mL := 2) (rm := { frames := 0, cells := 0, slots := 0, locals := 0 }) (av := [.ref p0]) (by decide) (Nat.le_of_ble_eq_true rfl) ho ?_
  intro p e s m args below meth c ls A Q hQ X hT hl
  have hx := X.1.1
  have hb := X.1.2.1
  have hl : lv_has ls 2 [(0, .ref p0)] := hl
  obtain ⟨F, hFo⟩ : ∃ F : Nat → va_E, F = Fo := ⟨_, rfl⟩
  rw [← hFo] at hT
  have hfr : (∀ b j : Nat, (tag b ≠ 46 ∨ j ≠ 20) → fld F b j = fld Fo b j) ∧ (∀ b j : Nat, tag b ≠ 38 → elm F b j = elm Fo b j) := by
    rw [hFo]
    exact ⟨by intros; rfl, by intros; rfl⟩
  have K52 : ∀ (n : Nat) (z75680 : Int32) (z75681 : Int32) (F : Nat → va_E) (H : Heap) (locs : List Loc) (ls : Array Slot), (212 - z75680.toInt < (n : Int)) → (0 ≤ z75680.toInt ∧ z75680.toInt ≤ 212) → (0 ≤ z75681.toInt ∧ z75681.toInt ≤ 9) → TH G ttC A s tag L F H locs → ((∀ b j : Nat, (tag b ≠ 46 ∨ j ≠ 20) → fld F b j = fld Fo b j) ∧ (∀ b j : Nat, tag b ≠ 38 → elm F b j = elm Fo b j)) → (fld F p0 20 = .int z75681) → lv_has ls 2 [(0, .ref p0), (1, .int z75680)] → W p l e { frames := 0, cells := 0, slots := 0, locals := 0 } s m args below meth c H locs 0 0 Q (F0 m 52 ls []) := by
    intro n
    induction n with
    | zero =>
      intro z75680 z75681 F H locs ls hn rz75680 rz75681 hT hfr qz75681 hl
      exfalso
      omega
    | succ n ih52 =>
      intro z75680 z75681 F H locs ls hn rz75680 rz75681 hT hfr qz75681 hl
      refine lv_iload_n hx hb dX13_keeps_52 rfl (lv_at hl 1 rfl) ?_
      refine lv_sipush (v := 212) hx hb dX13_keeps_53 (by decide) ?_
      refine lv_icmp_ge (tgt := 86) hx hb dX13_keeps_56 (by decide) (fun c75682 => ?_) (fun c75682 => ?_)
      · have w75683 := cv_le (by decide : (212 : Int32).toInt = 212) (rfl : z75680.toInt = z75680.toInt) c75682
        refine lv_aload_n hx hb dX13_keeps_86 rfl (lv_at hl 0 rfl) ?_
        refine lv_dup hx hb dX13_keeps_87 rfl ?_
        refine t_get (C := RX13) (T := TX13) (N := 37) X hT m0 g0 rfl rfl 20 (by decide) qw_482 inlX13 rfl dX13_keeps_88 (fun v75684 hv75684 ov75684 => ?_)
        obtain rfl : v75684 = .int z75681 := hv75684.symm.trans qz75681
        refine lv_iconst (v := 1) hx hb dX13_keeps_91 (by decide) ?_
        refine lv_iadd hx hb dX13_keeps_92 ?_
        refine lv_topi (fun z75685 ez75685 => ?_)
        have hz75685 : z75685.toInt = z75681.toInt + 1 := ar_add ez75685 (rfl : z75681.toInt = z75681.toInt) (by decide : (1 : Int32).toInt = 1) (by omega) (by omega)
        have rz75685 : 1 ≤ z75685.toInt ∧ z75685.toInt ≤ 10 := by omega
        refine t_put (C := RX13) (T := TX13) (N := 37) (v := .int z75685) X hT m0 g0 rfl tyX13 tyX13_ok nmX13 rfl 20 (by decide) qw_482 inlX13 rfl (by first | rfl | decide) (by first | rfl | decide) rfl (⟨_, rfl, (show 0 ≤ (z75685 : Int32).toInt from (by omega)), (show (z75685 : Int32).toInt ≤ 10 from (by omega))⟩) dX13_keeps_93 (fun F H locs hT v75686 h1v75686 h2v75686 => ?_)
        have hfr : (∀ b j : Nat, (tag b ≠ 46 ∨ j ≠ 20) → fld F b j = fld Fo b j) ∧ (∀ b j : Nat, tag b ≠ 38 → elm F b j = elm Fo b j) := ⟨fun b j n46_20 => (h1v75686 b j (fr_ne g0 n46_20)).trans (hfr.1 b j n46_20), fun b j a38 => (h2v75686 b j).trans (hfr.2 b j a38)⟩
        exact t_vret hQ X hT hfr (Nat.le_of_ble_eq_true rfl) (Nat.le_of_ble_eq_true rfl) dX13_keeps_96
      · have w75687 := cv_nle (by decide : (212 : Int32).toInt = 212) (rfl : z75680.toInt = z75680.toInt) c75682
        refine lv_aload_n hx hb dX13_keeps_59 rfl (lv_at hl 0 rfl) ?_
        refine t_get (C := RX13) (T := TX13) (N := 37) X hT m0 g0 rfl rfl 18 (by decide) qw_114 inlX13 rfl dX13_keeps_60 (fun v75688 hv75688 ov75688 => ?_)
        obtain ⟨b75689, rfl, mb75689, gb75689⟩ := okV_r ov75688
        have gb75689 : tag b75689 = 38 := tg_of gb75689
        refine lv_sipush (v := 212) hx hb dX13_keeps_63 (by decide) ?_
        refine lv_aload_n hx hb dX13_keeps_66 rfl (lv_at hl 0 rfl) ?_
        refine t_get (C := RX13) (T := TX13) (N := 37) X hT m0 g0 rfl rfl 20 (by decide) qw_482 inlX13 rfl dX13_keeps_67 (fun v75690 hv75690 ov75690 => ?_)
        obtain rfl : v75690 = .int z75681 := hv75690.symm.trans qz75681
        refine lv_imul hx hb dX13_keeps_70 ?_
        refine lv_topi (fun z75691 ez75691 => ?_)
        have hz75691 : z75691.toInt = 212 * z75681.toInt := ar_mul ez75691 (by decide : (212 : Int32).toInt = 212) (rfl : z75681.toInt = z75681.toInt) (by omega) (by omega)
        have rz75691 : 0 ≤ z75691.toInt ∧ z75691.toInt ≤ 1908 := by omega
        refine lv_iload_n hx hb dX13_keeps_71 rfl (lv_at hl 1 rfl) ?_
        refine lv_iadd hx hb dX13_keeps_72 ?_
        refine lv_topi (fun z75692 ez75692 => ?_)
        have hz75692 : z75692.toInt = z75691.toInt + z75680.toInt := ar_add ez75692 (rfl : z75691.toInt = z75691.toInt) (rfl : z75680.toInt = z75680.toInt) (by omega) (by omega)
        have rz75692 : 0 ≤ z75692.toInt ∧ z75692.toInt ≤ 2119 := by omega
        refine lv_aload_n hx hb dX13_keeps_73 rfl (lv_at hl 0 rfl) ?_
        refine t_get (C := RX13) (T := TX13) (N := 37) X hT m0 g0 rfl rfl 16 (by decide) qw_112 inlX13 rfl dX13_keeps_74 (fun v75693 hv75693 ov75693 => ?_)
        obtain ⟨b75694, rfl, mb75694, gb75694⟩ := okV_r ov75693
        have gb75694 : tag b75694 = 37 := tg_of gb75694
        refine lv_iload_n hx hb dX13_keeps_77 rfl (lv_at hl 1 rfl) ?_
        refine t_ild X hT mb75694 gb75694 rfl (by omega) dX13_keeps_78 (fun z75695 vz75695 rz75695 => ?_)
        have oz75695 := rz75695
        have rz75695 := rg_all z75695
        refine t_ist X hT mb75689 gb75689 rfl (by omega) (row_c1 (a := z75681.toInt) (by omega) (by omega) (by omega) oz75695) dX13_keeps_79 (fun F H locs hT v75696 h1v75696 h2v75696 => ?_)
        have qz75681 := (h2v75696 _ _).trans qz75681
        have hv75688 := (h2v75696 _ _).trans hv75688
        have hv75693 := (h2v75696 _ _).trans hv75693
        have vz75695 := (h1v75696 _ _ (Or.inl (tne gb75694 gb75689 (by decide)))).trans vz75695
        have hfr : (∀ b j : Nat, (tag b ≠ 46 ∨ j ≠ 20) → fld F b j = fld Fo b j) ∧ (∀ b j : Nat, tag b ≠ 38 → elm F b j = elm Fo b j) := ⟨fun b j n46_20 => (h2v75696 b j).trans (hfr.1 b j n46_20), fun b j a38 => (h1v75696 b j (Or.inl (at_ne gb75689 a38))).trans (hfr.2 b j a38)⟩
        obtain ⟨z75697, ez75697⟩ : ∃ y : Int32, y = z75680 + 1 := ⟨_, rfl⟩
        have hz75697 : z75697.toInt = z75680.toInt + 1 := ar_add ez75697 rfl (by decide : (1 : Int32).toInt = 1) (by omega) (by omega)
        refine lv_iinc (v := z75697) (lv' := [(1, .int z75697), (0, .ref p0)]) hx hb dX13_keeps_80 hl (k := 1) rfl (by rw [ez75697]; rfl) (by decide) rfl (fun ls hl => ?_)
        refine lv_goto (tgt := 52) hx hb dX13_keeps_83 (by decide) ?_
        exact ih52 z75697 z75681 _ _ _ _ (by omega) (by omega) (by omega) hT hfr qz75681 (lv_sub hl [1, 0] rfl)
  have K50 : ∀ (z75698 : Int32) (F : Nat → va_E) (H : Heap) (locs : List Loc) (ls : Array Slot), (0 ≤ z75698.toInt ∧ z75698.toInt ≤ 9) → TH G ttC A s tag L F H locs → ((∀ b j : Nat, (tag b ≠ 46 ∨ j ≠ 20) → fld F b j = fld Fo b j) ∧ (∀ b j : Nat, tag b ≠ 38 → elm F b j = elm Fo b j)) → (fld F p0 20 = .int z75698) → lv_has ls 2 [(0, .ref p0)] → W p l e { frames := 0, cells := 0, slots := 0, locals := 0 } s m args below meth c H locs 0 0 Q (F0 m 50 ls []) := by
    intro z75698 F H locs ls rz75698 hT hfr qz75698 hl
    refine lv_iconst (v := 0) hx hb dX13_keeps_50 (by decide) ?_
    refine lv_istore_n (lv' := [(1, .int 0), (0, .ref p0)]) hx hb dX13_keeps_51 rfl hl (by decide) rfl (fun ls hl => ?_)
    have k75699 : (0 : Int32).toInt = 0 := by decide
    exact K52 213 0 z75698 _ _ _ _ (by omega) (by decide) (by omega) hT hfr qz75698 (lv_sub hl [1, 0] rfl)
  have K11 : ∀ (n : Nat) (z75700 : Int32) (z75701 : Int32) (F : Nat → va_E) (H : Heap) (locs : List Loc) (ls : Array Slot), (1908 - z75700.toInt < (n : Int)) → (0 ≤ z75700.toInt ∧ z75700.toInt ≤ 1908) → (10 ≤ z75701.toInt ∧ z75701.toInt ≤ 10) → TH G ttC A s tag L F H locs → ((∀ b j : Nat, (tag b ≠ 46 ∨ j ≠ 20) → fld F b j = fld Fo b j) ∧ (∀ b j : Nat, tag b ≠ 38 → elm F b j = elm Fo b j)) → (fld F p0 20 = .int z75701) → lv_has ls 2 [(0, .ref p0), (1, .int z75700)] → W p l e { frames := 0, cells := 0, slots := 0, locals := 0 } s m args below meth c H locs 0 0 Q (F0 m 11 ls []) := by
    intro n
    induction n with
    | zero =>
      intro z75700 z75701 F H locs ls hn rz75700 rz75701 hT hfr qz75701 hl
      exfalso
      omega
    | succ n ih11 =>
      intro z75700 z75701 F H locs ls hn rz75700 rz75701 hT hfr qz75701 hl
      refine lv_iload_n hx hb dX13_keeps_11 rfl (lv_at hl 1 rfl) ?_
      refine lv_sipush (v := 1908) hx hb dX13_keeps_12 (by decide) ?_
      refine lv_icmp_ge (tgt := 40) hx hb dX13_keeps_15 (by decide) (fun c75702 => ?_) (fun c75702 => ?_)
      · have w75703 := cv_le (by decide : (1908 : Int32).toInt = 1908) (rfl : z75700.toInt = z75700.toInt) c75702
        refine lv_aload_n hx hb dX13_keeps_40 rfl (lv_at hl 0 rfl) ?_
        refine lv_dup hx hb dX13_keeps_41 rfl ?_
        refine t_get (C := RX13) (T := TX13) (N := 37) X hT m0 g0 rfl rfl 20 (by decide) qw_482 inlX13 rfl dX13_keeps_42 (fun v75704 hv75704 ov75704 => ?_)
        obtain rfl : v75704 = .int z75701 := hv75704.symm.trans qz75701
        refine lv_iconst (v := 1) hx hb dX13_keeps_45 (by decide) ?_
        refine lv_isub hx hb dX13_keeps_46 ?_
        refine lv_topi (fun z75705 ez75705 => ?_)
        have hz75705 : z75705.toInt = z75701.toInt - 1 := ar_sub ez75705 (rfl : z75701.toInt = z75701.toInt) (by decide : (1 : Int32).toInt = 1) (by omega) (by omega)
        have rz75705 : 9 ≤ z75705.toInt ∧ z75705.toInt ≤ 9 := by omega
        refine t_put (C := RX13) (T := TX13) (N := 37) (v := .int z75705) X hT m0 g0 rfl tyX13 tyX13_ok nmX13 rfl 20 (by decide) qw_482 inlX13 rfl (by first | rfl | decide) (by first | rfl | decide) rfl (⟨_, rfl, (show 0 ≤ (z75705 : Int32).toInt from (by omega)), (show (z75705 : Int32).toInt ≤ 10 from (by omega))⟩) dX13_keeps_47 (fun F H locs hT v75706 h1v75706 h2v75706 => ?_)
        have hfr : (∀ b j : Nat, (tag b ≠ 46 ∨ j ≠ 20) → fld F b j = fld Fo b j) ∧ (∀ b j : Nat, tag b ≠ 38 → elm F b j = elm Fo b j) := ⟨fun b j n46_20 => (h1v75706 b j (fr_ne g0 n46_20)).trans (hfr.1 b j n46_20), fun b j a38 => (h2v75706 b j).trans (hfr.2 b j a38)⟩
        exact K50 z75705 _ _ _ _ (by omega) hT hfr v75706 (lv_sub hl [0] rfl)
      · have w75707 := cv_nle (by decide : (1908 : Int32).toInt = 1908) (rfl : z75700.toInt = z75700.toInt) c75702
        refine lv_aload_n hx hb dX13_keeps_18 rfl (lv_at hl 0 rfl) ?_
        refine t_get (C := RX13) (T := TX13) (N := 37) X hT m0 g0 rfl rfl 18 (by decide) qw_114 inlX13 rfl dX13_keeps_19 (fun v75708 hv75708 ov75708 => ?_)
        obtain ⟨b75709, rfl, mb75709, gb75709⟩ := okV_r ov75708
        have gb75709 : tag b75709 = 38 := tg_of gb75709
        refine lv_iload_n hx hb dX13_keeps_22 rfl (lv_at hl 1 rfl) ?_
        refine lv_aload_n hx hb dX13_keeps_23 rfl (lv_at hl 0 rfl) ?_
        refine t_get (C := RX13) (T := TX13) (N := 37) X hT m0 g0 rfl rfl 18 (by decide) qw_114 inlX13 rfl dX13_keeps_24 (fun v75710 hv75710 ov75710 => ?_)
        obtain rfl : v75710 = .ref b75709 := hv75710.symm.trans hv75708
        refine lv_iload_n hx hb dX13_keeps_27 rfl (lv_at hl 1 rfl) ?_
        refine lv_sipush (v := 212) hx hb dX13_keeps_28 (by decide) ?_
        refine lv_iadd hx hb dX13_keeps_31 ?_
        refine lv_topi (fun z75711 ez75711 => ?_)
        have hz75711 : z75711.toInt = z75700.toInt + 212 := ar_add ez75711 (rfl : z75700.toInt = z75700.toInt) (by decide : (212 : Int32).toInt = 212) (by omega) (by omega)
        have rz75711 : 212 ≤ z75711.toInt ∧ z75711.toInt ≤ 2119 := by omega
        refine t_ild X hT mb75709 gb75709 rfl (by omega) dX13_keeps_32 (fun z75712 vz75712 rz75712 => ?_)
        have oz75712 := rz75712
        have rz75712 := rg_all z75712
        refine t_ist X hT mb75709 gb75709 rfl (by omega) (row_c3 (by omega) (by omega) oz75712) dX13_keeps_33 (fun F H locs hT v75713 h1v75713 h2v75713 => ?_)
        have qz75701 := (h2v75713 _ _).trans qz75701
        have hv75708 := (h2v75713 _ _).trans hv75708
        have hfr : (∀ b j : Nat, (tag b ≠ 46 ∨ j ≠ 20) → fld F b j = fld Fo b j) ∧ (∀ b j : Nat, tag b ≠ 38 → elm F b j = elm Fo b j) := ⟨fun b j n46_20 => (h2v75713 b j).trans (hfr.1 b j n46_20), fun b j a38 => (h1v75713 b j (Or.inl (at_ne gb75709 a38))).trans (hfr.2 b j a38)⟩
        obtain ⟨z75714, ez75714⟩ : ∃ y : Int32, y = z75700 + 1 := ⟨_, rfl⟩
        have hz75714 : z75714.toInt = z75700.toInt + 1 := ar_add ez75714 rfl (by decide : (1 : Int32).toInt = 1) (by omega) (by omega)
        refine lv_iinc (v := z75714) (lv' := [(1, .int z75714), (0, .ref p0)]) hx hb dX13_keeps_34 hl (k := 1) rfl (by rw [ez75714]; rfl) (by decide) rfl (fun ls hl => ?_)
        refine lv_goto (tgt := 11) hx hb dX13_keeps_37 (by decide) ?_
        exact ih11 z75714 z75701 _ _ _ _ (by omega) (by omega) (by omega) hT hfr qz75701 (lv_sub hl [1, 0] rfl)
  refine lv_aload_n hx hb dX13_keeps_0 rfl (lv_at hl 0 rfl) ?_
  refine t_get (C := RX13) (T := TX13) (N := 37) X hT m0 g0 rfl rfl 20 (by decide) qw_482 inlX13 rfl dX13_keeps_1 (fun v75715 hv75715 ov75715 => ?_)
  obtain ⟨z75716, rfl, rz75716⟩ := okV_i ov75715
  refine lv_bipush (v := 10) hx hb dX13_keeps_4 (by decide) ?_
  refine lv_icmp_ne (tgt := 50) hx hb dX13_keeps_6 (by decide) (fun c75717 => ?_) (fun c75717 => ?_)
  · have w75718 := cv_ne (rfl : z75716.toInt = z75716.toInt) (by decide : (10 : Int32).toInt = 10) c75717
    exact K50 z75716 _ _ _ _ (by omega) hT hfr hv75715 (lv_sub hl [0] rfl)
  · have w75719 := cv_eq (rfl : z75716.toInt = z75716.toInt) (by decide : (10 : Int32).toInt = 10) c75717
    refine lv_iconst (v := 0) hx hb dX13_keeps_9 (by decide) ?_
    refine lv_istore_n (lv' := [(1, .int 0), (0, .ref p0)]) hx hb dX13_keeps_10 rfl hl (by decide) rfl (fun ls hl => ?_)
    have k75720 : (0 : Int32).toInt = 0 := by decide
    exact K11 1909 0 z75716 _ _ _ _ (by omega) (by decide) (by omega) hT hfr hv75715 (lv_sub hl [1, 0] rfl)
set_option maxHeartbeats 4000000 in
set_option maxRecDepth 100000 in
theorem km246_X13_years (l : Launch) (G : KG) (tag : Nat → Nat) (L : List Nat) (Fo : Nat → va_E) (ho : okT G ttC tag L Fo) (p0 : Nat) (p1 : Int32) (x0 : Nat) (m0 : p0 ∈ L) (g0 : tag p0 = 46) (mx0 : x0 ∈ L) (gx0 : tag x0 = 45) (pf0 : fld Fo p0 3 = .ref x0) : TMi l yX13_years cX13_years 3 (some .int) { frames := 7, cells := 0, slots := 0, locals := 170 } G ttC tag L Fo [.ref p0, .int p1] (fun r F1 => ((-2147483648) ≤ r.toInt ∧ r.toInt ≤ 2147483647) ∧ ((∀ b j : Nat, (tag b ≠ 46 ∨ j ≠ 0) → (tag b ≠ 46 ∨ j ≠ 1) → (tag b ≠ 46 ∨ j ≠ 2) → (tag b ≠ 46 ∨ j ≠ 20) → (tag b ≠ 46 ∨ j ≠ 22) → (tag b ≠ 46 ∨ j ≠ 23) → fld F1 b j = fld Fo b j) ∧ (∀ b j : Nat, tag b ≠ 37 → tag b ≠ 38 → tag b ≠ 40 → elm F1 b j = elm Fo b j))) := by
  refine t_bodyi (y := yX13_years) (cd := cX13_years) (mL := 3) (rt := (some .int)) (rm := { frames := 7, cells := 0, slots := 0, locals := 170 }) (av := [.ref p0, .int p1]) (by decide) (Nat.le_of_ble_eq_true rfl) ho ?_
  intro p e s m args below meth c ls A Q hQ X hT hl
  have hx := X.1.1
  have hb := X.1.2.1
  have hl : lv_has ls 3 [(0, .ref p0), (1, .int p1)] := hl
  have rp1 := rg_all p1
  obtain ⟨F, hFo⟩ : ∃ F : Nat → va_E, F = Fo := ⟨_, rfl⟩
  rw [← hFo] at hT pf0
  have hfr : (∀ b j : Nat, (tag b ≠ 46 ∨ j ≠ 0) → (tag b ≠ 46 ∨ j ≠ 1) → (tag b ≠ 46 ∨ j ≠ 2) → (tag b ≠ 46 ∨ j ≠ 20) → (tag b ≠ 46 ∨ j ≠ 22) → (tag b ≠ 46 ∨ j ≠ 23) → fld F b j = fld Fo b j) ∧ (∀ b j : Nat, tag b ≠ 37 → tag b ≠ 38 → tag b ≠ 40 → elm F b j = elm Fo b j) := by
    rw [hFo]
    exact ⟨by intros; rfl, by intros; rfl⟩
  have K66 : ∀ (n : Nat) (z76232 : Int32) (z76233 : Int32) (F : Nat → va_E) (H : Heap) (locs : List Loc) (ls : Array Slot), (20 - z76232.toInt < (n : Int)) → (0 ≤ z76232.toInt ∧ z76232.toInt ≤ 20) → (0 ≤ z76233.toInt ∧ z76233.toInt ≤ 0) → (1 ≤ p1.toInt ∧ p1.toInt ≤ 20) → TH G ttC A s tag L F H locs → ((∀ b j : Nat, (tag b ≠ 46 ∨ j ≠ 0) → (tag b ≠ 46 ∨ j ≠ 1) → (tag b ≠ 46 ∨ j ≠ 2) → (tag b ≠ 46 ∨ j ≠ 20) → (tag b ≠ 46 ∨ j ≠ 22) → (tag b ≠ 46 ∨ j ≠ 23) → fld F b j = fld Fo b j) ∧ (∀ b j : Nat, tag b ≠ 37 → tag b ≠ 38 → tag b ≠ 40 → elm F b j = elm Fo b j)) → (fld F p0 3 = .ref x0) → (fld F p0 0 = .int z76233) → lv_has ls 3 [(0, .ref p0), (1, .int p1), (2, .int z76232)] → W p l e { frames := 7, cells := 0, slots := 0, locals := 170 } s m args below meth c H locs 0 0 Q (F0 m 66 ls []) := by
    intro n
    induction n with
    | zero =>
      intro z76232 z76233 F H locs ls hn rz76232 rz76233 r9s76231 hT hfr pf0 qz76233 hl
      exfalso
      omega
    | succ n ih66 =>
      intro z76232 z76233 F H locs ls hn rz76232 rz76233 r9s76231 hT hfr pf0 qz76233 hl
      refine lv_iload_n hx hb dX13_years_66 rfl (lv_at hl 2 rfl) ?_
      refine lv_iload_n hx hb dX13_years_67 rfl (lv_at hl 1 rfl) ?_
      refine lv_icmp_ge (tgt := 85) hx hb dX13_years_68 (by decide) (fun c76234 => ?_) (fun c76234 => ?_)
      · have w76235 := cv_le (rfl : p1.toInt = p1.toInt) (rfl : z76232.toInt = z76232.toInt) c76234
        refine lv_aload_n hx hb dX13_years_85 rfl (lv_at hl 0 rfl) ?_
        refine lv_aload_n hx hb dX13_years_86 rfl (lv_at hl 0 rfl) ?_
        refine t_get (C := RX13) (T := TX13) (N := 37) X hT m0 g0 rfl rfl 16 (by decide) qw_112 inlX13 rfl dX13_years_87 (fun v76236 hv76236 ov76236 => ?_)
        obtain ⟨b76237, rfl, mb76237, gb76237⟩ := okV_r ov76236
        have gb76237 : tag b76237 = 37 := tg_of gb76237
        refine t_cSi (n := 1) (As := [.ref b76237]) (rest := [.ref p0]) X hT (km187_X13_allSkins l G tag L F hT.2.2.2 b76237 mb76237 gb76237) qw_1190 qw_1191 qw_5 qw_1192 ⟨by decide +kernel, by decide +kernel, by decide +kernel⟩ ⟨Nat.le_of_ble_eq_true rfl, Nat.le_of_ble_eq_true rfl⟩ hl rfl rfl (Nat.le_of_ble_eq_true rfl) dX13_years_90 ⟨Nat.le_of_ble_eq_true rfl, Nat.le_of_ble_eq_true rfl⟩ (fun z76238 F9 H locs hT hz76238 => ?_)
        obtain ⟨fz76238, hz76238⟩ := hz76238
        rw [fz76238] at hT
        refine t_cVi (n := 1) (C := RX13) (T := TX13) (N := 37) (As := [.int z76238]) (rest := []) X hT (km93_X13_good l G tag L F hT.2.2.2 p0 z76238 m0 g0) m0 g0 rfl rfl qw_687 qw_688 qw_689 qw_5 qw_690 ⟨rfl, by decide +kernel, by decide +kernel, by decide +kernel⟩ ⟨Nat.le_of_ble_eq_true rfl, Nat.le_of_ble_eq_true rfl⟩ hl rfl rfl (Nat.le_of_ble_eq_true rfl) dX13_years_93 ⟨Nat.le_of_ble_eq_true rfl, Nat.le_of_ble_eq_true rfl⟩ (fun z76239 F H locs hT hz76239 => ?_)
        obtain ⟨hz76239, yz76239⟩ := hz76239
        have qz76233 := (yz76239.1 _ 0 (Or.inr (by decide)) (Or.inr (by decide))).trans qz76233
        have pf0 := (yz76239.1 _ 3 (Or.inr (by decide)) (Or.inr (by decide))).trans pf0
        have hv76236 := (yz76239.1 _ 16 (Or.inr (by decide)) (Or.inr (by decide))).trans hv76236
        have hfr : (∀ b j : Nat, (tag b ≠ 46 ∨ j ≠ 0) → (tag b ≠ 46 ∨ j ≠ 1) → (tag b ≠ 46 ∨ j ≠ 2) → (tag b ≠ 46 ∨ j ≠ 20) → (tag b ≠ 46 ∨ j ≠ 22) → (tag b ≠ 46 ∨ j ≠ 23) → fld F b j = fld Fo b j) ∧ (∀ b j : Nat, tag b ≠ 37 → tag b ≠ 38 → tag b ≠ 40 → elm F b j = elm Fo b j) := ⟨fun b j n46_0 n46_1 n46_2 n46_20 n46_22 n46_23 => (yz76239.1 b j n46_1 n46_2).trans (hfr.1 b j n46_0 n46_1 n46_2 n46_20 n46_22 n46_23), fun b j a37 a38 a40 => (yz76239.2 b j ).trans (hfr.2 b j a37 a38 a40)⟩
        exact t_iret hQ X hT (⟨rg_all _, hfr⟩) (Nat.le_of_ble_eq_true rfl) (Nat.le_of_ble_eq_true rfl) dX13_years_96
      · have w76240 := cv_nle (rfl : p1.toInt = p1.toInt) (rfl : z76232.toInt = z76232.toInt) c76234
        refine lv_aload_n hx hb dX13_years_71 rfl (lv_at hl 0 rfl) ?_
        refine lv_aload_n hx hb dX13_years_72 rfl (lv_at hl 0 rfl) ?_
        refine t_get (C := RX13) (T := TX13) (N := 37) X hT m0 g0 rfl rfl 16 (by decide) qw_112 inlX13 rfl dX13_years_73 (fun v76241 hv76241 ov76241 => ?_)
        obtain ⟨b76242, rfl, mb76242, gb76242⟩ := okV_r ov76241
        have gb76242 : tag b76242 = 37 := tg_of gb76242
        refine t_cVv (n := 1) (C := RX13) (T := TX13) (N := 37) (As := [.ref b76242]) (rest := []) X hT (km181_X13_goesBy l G tag L F hT.2.2.2 p0 b76242 x0 m0 g0 mb76242 gb76242 mx0 gx0 pf0) m0 g0 rfl rfl qw_1160 qw_1161 qw_1162 qw_5 qw_1163 ⟨rfl, by decide +kernel, by decide +kernel, by decide +kernel⟩ ⟨Nat.le_of_ble_eq_true rfl, Nat.le_of_ble_eq_true rfl⟩ hl rfl rfl (Nat.le_of_ble_eq_true rfl) dX13_years_76 ⟨Nat.le_of_ble_eq_true rfl, Nat.le_of_ble_eq_true rfl⟩ (fun F H locs hT hz76243 => ?_)
        have yz76243 := hz76243
        have qz76233 := (yz76243.1 _ 0 (Or.inr (by decide)) (Or.inr (by decide))).trans qz76233
        have pf0 := (yz76243.1 _ 3 (Or.inr (by decide)) (Or.inr (by decide))).trans pf0
        have hv76241 := (yz76243.1 _ 16 (Or.inr (by decide)) (Or.inr (by decide))).trans hv76241
        have hfr : (∀ b j : Nat, (tag b ≠ 46 ∨ j ≠ 0) → (tag b ≠ 46 ∨ j ≠ 1) → (tag b ≠ 46 ∨ j ≠ 2) → (tag b ≠ 46 ∨ j ≠ 20) → (tag b ≠ 46 ∨ j ≠ 22) → (tag b ≠ 46 ∨ j ≠ 23) → fld F b j = fld Fo b j) ∧ (∀ b j : Nat, tag b ≠ 37 → tag b ≠ 38 → tag b ≠ 40 → elm F b j = elm Fo b j) := ⟨fun b j n46_0 n46_1 n46_2 n46_20 n46_22 n46_23 => (yz76243.1 b j n46_22 n46_23).trans (hfr.1 b j n46_0 n46_1 n46_2 n46_20 n46_22 n46_23), fun b j a37 a38 a40 => (yz76243.2 b j a37).trans (hfr.2 b j a37 a38 a40)⟩
        obtain ⟨z76244, ez76244⟩ : ∃ y : Int32, y = z76232 + 1 := ⟨_, rfl⟩
        have hz76244 : z76244.toInt = z76232.toInt + 1 := ar_add ez76244 rfl (by decide : (1 : Int32).toInt = 1) (by omega) (by omega)
        refine lv_iinc (v := z76244) (lv' := [(2, .int z76244), (0, .ref p0), (1, .int p1)]) hx hb dX13_years_79 hl (k := 2) rfl (by rw [ez76244]; rfl) (by decide) rfl (fun ls hl => ?_)
        refine lv_goto (tgt := 66) hx hb dX13_years_82 (by decide) ?_
        exact ih66 z76244 z76233 _ _ _ _ (by omega) (by omega) (by omega) (by omega) hT hfr pf0 qz76233 (lv_sub hl [1, 2, 0] rfl)
  refine lv_aload_n hx hb dX13_years_0 rfl (lv_at hl 0 rfl) ?_
  refine lv_iconst (v := 0) hx hb dX13_years_1 (by decide) ?_
  refine t_put (C := RX13) (T := TX13) (N := 37) (v := .int 0) X hT m0 g0 rfl tyX13 tyX13_ok nmX13 rfl 0 (by decide) qw_140 inlX13 rfl (by first | rfl | decide) (by first | rfl | decide) rfl (⟨_, rfl, (show (-2147483648) ≤ (0 : Int32).toInt from (by decide)), (show (0 : Int32).toInt ≤ 2147483647 from (by decide))⟩) dX13_years_2 (fun F H locs hT v76245 h1v76245 h2v76245 => ?_)
  have pf0 := (h1v76245 _ _ (Or.inr (by decide))).trans pf0
  have hfr : (∀ b j : Nat, (tag b ≠ 46 ∨ j ≠ 0) → (tag b ≠ 46 ∨ j ≠ 1) → (tag b ≠ 46 ∨ j ≠ 2) → (tag b ≠ 46 ∨ j ≠ 20) → (tag b ≠ 46 ∨ j ≠ 22) → (tag b ≠ 46 ∨ j ≠ 23) → fld F b j = fld Fo b j) ∧ (∀ b j : Nat, tag b ≠ 37 → tag b ≠ 38 → tag b ≠ 40 → elm F b j = elm Fo b j) := ⟨fun b j n46_0 n46_1 n46_2 n46_20 n46_22 n46_23 => (h1v76245 b j (fr_ne g0 n46_0)).trans (hfr.1 b j n46_0 n46_1 n46_2 n46_20 n46_22 n46_23), fun b j a37 a38 a40 => (h2v76245 b j).trans (hfr.2 b j a37 a38 a40)⟩
  refine lv_aload_n hx hb dX13_years_5 rfl (lv_at hl 0 rfl) ?_
  refine t_get (C := RX13) (T := TX13) (N := 37) X hT m0 g0 rfl rfl 3 (by decide) qw_481 inlX13 rfl dX13_years_6 (fun v76246 hv76246 ov76246 => ?_)
  obtain rfl : v76246 = .ref x0 := hv76246.symm.trans pf0
  refine lv_ifnonnull (tgt := 18) hx hb dX13_years_9 (by decide) ?_
  refine lv_iload_n hx hb dX13_years_18 rfl (lv_at hl 1 rfl) ?_
  refine lv_iconst (v := 1) hx hb dX13_years_19 (by decide) ?_
  refine lv_bipush (v := 20) hx hb dX13_years_20 (by decide) ?_
  refine t_cSi (n := 3) (As := [.int p1, .int 1, .int 20]) (rest := []) X hT (km19_X13_within l G tag L F hT.2.2.2 p1 1 20 ) qw_568 qw_569 qw_5 qw_570 ⟨by decide +kernel, by decide +kernel, by decide +kernel⟩ ⟨Nat.le_of_ble_eq_true rfl, Nat.le_of_ble_eq_true rfl⟩ hl rfl rfl (Nat.le_of_ble_eq_true rfl) dX13_years_22 ⟨Nat.le_of_ble_eq_true rfl, Nat.le_of_ble_eq_true rfl⟩ (fun z76247 F9 H locs hT hz76247 => ?_)
  obtain ⟨fz76247, hz76247, xz76247_0⟩ := hz76247
  rw [fz76247] at hT
  have k76248 : (1 : Int32).toInt = 1 := by decide
  have k76249 : (20 : Int32).toInt = 20 := by decide
  refine lv_if_ne (tgt := 34) hx hb dX13_years_25 (by decide) (fun c76250 => ?_) (fun c76250 => ?_)
  · have w76251 := cv_ne (rfl : z76247.toInt = z76247.toInt) (by decide : (0 : Int32).toInt = 0) c76250
    have w76252 := xz76247_0 (by omega)
    refine lv_aload_n hx hb dX13_years_34 rfl (lv_at hl 0 rfl) ?_
    refine t_get (C := RX13) (T := TX13) (N := 37) X hT m0 g0 rfl rfl 16 (by decide) qw_112 inlX13 rfl dX13_years_35 (fun v76253 hv76253 ov76253 => ?_)
    obtain ⟨b76254, rfl, mb76254, gb76254⟩ := okV_r ov76253
    have gb76254 : tag b76254 = 37 := tg_of gb76254
    refine lv_sipush (v := 210) hx hb dX13_years_38 (by decide) ?_
    refine t_ild X hT mb76254 gb76254 rfl (by decide) dX13_years_41 (fun z76255 vz76255 rz76255 => ?_)
    have oz76255 := rz76255
    have rz76255 := rg_all z76255
    refine lv_iload_n hx hb dX13_years_42 rfl (lv_at hl 1 rfl) ?_
    refine lv_iadd hx hb dX13_years_43 ?_
    refine lv_topi (fun z76256 ez76256 => ?_)
    have rz76256 := rg_all z76256
    refine lv_sipush (v := 999) hx hb dX13_years_44 (by decide) ?_
    refine lv_icmp_le (tgt := 56) hx hb dX13_years_47 (by decide) (fun c76257 => ?_) (fun c76257 => ?_)
    · have w76258 := cv_le (rfl : z76256.toInt = z76256.toInt) (by decide : (999 : Int32).toInt = 999) c76257
      refine lv_aload_n hx hb dX13_years_56 rfl (lv_at hl 0 rfl) ?_
      refine t_cVv (n := 0) (C := RX13) (T := TX13) (N := 37) (As := []) (rest := []) X hT (km245_X13_keeps l G tag L F hT.2.2.2 p0 m0 g0) m0 g0 rfl rfl qw_1437 qw_1438 qw_1439 qw_5 qw_1440 ⟨rfl, by decide +kernel, by decide +kernel, by decide +kernel⟩ ⟨Nat.le_of_ble_eq_true rfl, Nat.le_of_ble_eq_true rfl⟩ hl rfl rfl (Nat.le_of_ble_eq_true rfl) dX13_years_57 ⟨Nat.le_of_ble_eq_true rfl, Nat.le_of_ble_eq_true rfl⟩ (fun F H locs hT hz76259 => ?_)
      have yz76259 := hz76259
      have pf0 := (yz76259.1 _ 3 (Or.inr (by decide))).trans pf0
      have v76245 := (yz76259.1 _ 0 (Or.inr (by decide))).trans v76245
      have hv76253 := (yz76259.1 _ 16 (Or.inr (by decide))).trans hv76253
      have vz76255 := (yz76259.2 _ _ (by rw [gb76254]; decide)).trans vz76255
      have hfr : (∀ b j : Nat, (tag b ≠ 46 ∨ j ≠ 0) → (tag b ≠ 46 ∨ j ≠ 1) → (tag b ≠ 46 ∨ j ≠ 2) → (tag b ≠ 46 ∨ j ≠ 20) → (tag b ≠ 46 ∨ j ≠ 22) → (tag b ≠ 46 ∨ j ≠ 23) → fld F b j = fld Fo b j) ∧ (∀ b j : Nat, tag b ≠ 37 → tag b ≠ 38 → tag b ≠ 40 → elm F b j = elm Fo b j) := ⟨fun b j n46_0 n46_1 n46_2 n46_20 n46_22 n46_23 => (yz76259.1 b j n46_20).trans (hfr.1 b j n46_0 n46_1 n46_2 n46_20 n46_22 n46_23), fun b j a37 a38 a40 => (yz76259.2 b j a38).trans (hfr.2 b j a37 a38 a40)⟩
      refine lv_aload_n hx hb dX13_years_60 rfl (lv_at hl 0 rfl) ?_
      obtain ⟨z76260, qz76260, mz76260, gz76260⟩ := t_fldr hT m0 g0 rfl 24 rfl
      have gz76260 : tag z76260 = 40 := tg_of gz76260
      refine t_cVv (n := 0) (C := RX13) (T := TX13) (N := 37) (As := []) (rest := []) X hT (km177_X13_byNumbers l G tag L F hT.2.2.2 p0 z76260 m0 g0 mz76260 gz76260 qz76260) m0 g0 rfl rfl qw_1156 qw_1157 qw_1158 qw_5 qw_1159 ⟨rfl, by decide +kernel, by decide +kernel, by decide +kernel⟩ ⟨Nat.le_of_ble_eq_true rfl, Nat.le_of_ble_eq_true rfl⟩ hl rfl rfl (Nat.le_of_ble_eq_true rfl) dX13_years_61 ⟨Nat.le_of_ble_eq_true rfl, Nat.le_of_ble_eq_true rfl⟩ (fun F H locs hT hz76261 => ?_)
      obtain ⟨yz76261, xz76261_0⟩ := hz76261
      have pf0 := (yz76261.1 _ 3 ).trans pf0
      have v76245 := (yz76261.1 _ 0 ).trans v76245
      have hv76253 := (yz76261.1 _ 16 ).trans hv76253
      have vz76255 := (yz76261.2 _ _ (by rw [gb76254]; decide)).trans vz76255
      have qz76260 := (yz76261.1 _ 24 ).trans qz76260
      have hfr : (∀ b j : Nat, (tag b ≠ 46 ∨ j ≠ 0) → (tag b ≠ 46 ∨ j ≠ 1) → (tag b ≠ 46 ∨ j ≠ 2) → (tag b ≠ 46 ∨ j ≠ 20) → (tag b ≠ 46 ∨ j ≠ 22) → (tag b ≠ 46 ∨ j ≠ 23) → fld F b j = fld Fo b j) ∧ (∀ b j : Nat, tag b ≠ 37 → tag b ≠ 38 → tag b ≠ 40 → elm F b j = elm Fo b j) := ⟨fun b j n46_0 n46_1 n46_2 n46_20 n46_22 n46_23 => (yz76261.1 b j ).trans (hfr.1 b j n46_0 n46_1 n46_2 n46_20 n46_22 n46_23), fun b j a37 a38 a40 => (yz76261.2 b j a40).trans (hfr.2 b j a37 a38 a40)⟩
      refine lv_iconst (v := 0) hx hb dX13_years_64 (by decide) ?_
      refine lv_istore_n (lv' := [(2, .int 0), (0, .ref p0), (1, .int p1)]) hx hb dX13_years_65 rfl hl (by decide) rfl (fun ls hl => ?_)
      have k76262 : (0 : Int32).toInt = 0 := by decide
      have k76263 : (0 : Int32).toInt = 0 := by decide
      exact K66 21 0 0 _ _ _ _ (by omega) (by decide) (by decide) (by omega) hT hfr pf0 v76245 (lv_sub hl [1, 2, 0] rfl)
    · have w76264 := cv_nle (rfl : z76256.toInt = z76256.toInt) (by decide : (999 : Int32).toInt = 999) c76257
      refine lv_aload_n hx hb dX13_years_50 rfl (lv_at hl 0 rfl) ?_
      refine lv_iconst (v := 3) hx hb dX13_years_51 (by decide) ?_
      refine t_cVi (n := 1) (C := RX13) (T := TX13) (N := 37) (As := [.int 3]) (rest := []) X hT (km88_X13_refused l G tag L F hT.2.2.2 p0 3 m0 g0) m0 g0 rfl rfl qw_484 qw_485 qw_486 qw_5 qw_487 ⟨rfl, by decide +kernel, by decide +kernel, by decide +kernel⟩ ⟨Nat.le_of_ble_eq_true rfl, Nat.le_of_ble_eq_true rfl⟩ hl rfl rfl (Nat.le_of_ble_eq_true rfl) dX13_years_52 ⟨Nat.le_of_ble_eq_true rfl, Nat.le_of_ble_eq_true rfl⟩ (fun z76265 F H locs hT hz76265 => ?_)
      obtain ⟨hz76265, yz76265⟩ := hz76265
      have pf0 := (yz76265.1 _ 3 (Or.inr (by decide)) (Or.inr (by decide))).trans pf0
      have v76245 := (yz76265.1 _ 0 (Or.inr (by decide)) (Or.inr (by decide))).trans v76245
      have hv76253 := (yz76265.1 _ 16 (Or.inr (by decide)) (Or.inr (by decide))).trans hv76253
      have vz76255 := (yz76265.2 _ _ ).trans vz76255
      have hfr : (∀ b j : Nat, (tag b ≠ 46 ∨ j ≠ 0) → (tag b ≠ 46 ∨ j ≠ 1) → (tag b ≠ 46 ∨ j ≠ 2) → (tag b ≠ 46 ∨ j ≠ 20) → (tag b ≠ 46 ∨ j ≠ 22) → (tag b ≠ 46 ∨ j ≠ 23) → fld F b j = fld Fo b j) ∧ (∀ b j : Nat, tag b ≠ 37 → tag b ≠ 38 → tag b ≠ 40 → elm F b j = elm Fo b j) := ⟨fun b j n46_0 n46_1 n46_2 n46_20 n46_22 n46_23 => (yz76265.1 b j n46_1 n46_2).trans (hfr.1 b j n46_0 n46_1 n46_2 n46_20 n46_22 n46_23), fun b j a37 a38 a40 => (yz76265.2 b j ).trans (hfr.2 b j a37 a38 a40)⟩
      exact t_iret hQ X hT (⟨rg_all _, hfr⟩) (Nat.le_of_ble_eq_true rfl) (Nat.le_of_ble_eq_true rfl) dX13_years_55
  · have w76266 := cv_eq (rfl : z76247.toInt = z76247.toInt) (by decide : (0 : Int32).toInt = 0) c76250
    refine lv_aload_n hx hb dX13_years_28 rfl (lv_at hl 0 rfl) ?_
    refine lv_iconst (v := 2) hx hb dX13_years_29 (by decide) ?_
    refine t_cVi (n := 1) (C := RX13) (T := TX13) (N := 37) (As := [.int 2]) (rest := []) X hT (km88_X13_refused l G tag L F hT.2.2.2 p0 2 m0 g0) m0 g0 rfl rfl qw_484 qw_485 qw_486 qw_5 qw_487 ⟨rfl, by decide +kernel, by decide +kernel, by decide +kernel⟩ ⟨Nat.le_of_ble_eq_true rfl, Nat.le_of_ble_eq_true rfl⟩ hl rfl rfl (Nat.le_of_ble_eq_true rfl) dX13_years_30 ⟨Nat.le_of_ble_eq_true rfl, Nat.le_of_ble_eq_true rfl⟩ (fun z76267 F H locs hT hz76267 => ?_)
    obtain ⟨hz76267, yz76267⟩ := hz76267
    have pf0 := (yz76267.1 _ 3 (Or.inr (by decide)) (Or.inr (by decide))).trans pf0
    have v76245 := (yz76267.1 _ 0 (Or.inr (by decide)) (Or.inr (by decide))).trans v76245
    have hfr : (∀ b j : Nat, (tag b ≠ 46 ∨ j ≠ 0) → (tag b ≠ 46 ∨ j ≠ 1) → (tag b ≠ 46 ∨ j ≠ 2) → (tag b ≠ 46 ∨ j ≠ 20) → (tag b ≠ 46 ∨ j ≠ 22) → (tag b ≠ 46 ∨ j ≠ 23) → fld F b j = fld Fo b j) ∧ (∀ b j : Nat, tag b ≠ 37 → tag b ≠ 38 → tag b ≠ 40 → elm F b j = elm Fo b j) := ⟨fun b j n46_0 n46_1 n46_2 n46_20 n46_22 n46_23 => (yz76267.1 b j n46_1 n46_2).trans (hfr.1 b j n46_0 n46_1 n46_2 n46_20 n46_22 n46_23), fun b j a37 a38 a40 => (yz76267.2 b j ).trans (hfr.2 b j a37 a38 a40)⟩
    exact t_iret hQ X hT (⟨rg_all _, hfr⟩) (Nat.le_of_ble_eq_true rfl) (Nat.le_of_ble_eq_true rfl) dX13_years_33
set_option maxHeartbeats 4000000 in
set_option maxRecDepth 100000 in
theorem km247_X13_years (l : Launch) (G : KG) (tag : Nat → Nat) (L : List Nat) (Fo : Nat → va_E) (ho : okT G ttC tag L Fo) (p0 : Nat) (p1 : Int32) (m0 : p0 ∈ L) (g0 : tag p0 = 46) (pf0 : fld Fo p0 3 = .null) : TMi l yX13_years cX13_years 3 (some .int) { frames := 7, cells := 0, slots := 0, locals := 170 } G ttC tag L Fo [.ref p0, .int p1] (fun r F1 => ((-2147483648) ≤ r.toInt ∧ r.toInt ≤ 2147483647) ∧ ((∀ b j : Nat, (tag b ≠ 46 ∨ j ≠ 0) → (tag b ≠ 46 ∨ j ≠ 1) → (tag b ≠ 46 ∨ j ≠ 2) → (tag b ≠ 46 ∨ j ≠ 20) → (tag b ≠ 46 ∨ j ≠ 22) → (tag b ≠ 46 ∨ j ≠ 23) → fld F1 b j = fld Fo b j) ∧ (∀ b j : Nat, tag b ≠ 37 → tag b ≠ 38 → tag b ≠ 40 → elm F1 b j = elm Fo b j))) := by
  refine t_bodyi (y := yX13_years) (cd := cX13_years) (mL := 3) (rt := (some .int)) (rm := { frames := 7, cells := 0, slots := 0, locals := 170 }) (av := [.ref p0, .int p1]) (by decide) (Nat.le_of_ble_eq_true rfl) ho ?_
  intro p e s m args below meth c ls A Q hQ X hT hl
  have hx := X.1.1
  have hb := X.1.2.1
  have hl : lv_has ls 3 [(0, .ref p0), (1, .int p1)] := hl
  have rp1 := rg_all p1
  obtain ⟨F, hFo⟩ : ∃ F : Nat → va_E, F = Fo := ⟨_, rfl⟩
  rw [← hFo] at hT pf0
  have hfr : (∀ b j : Nat, (tag b ≠ 46 ∨ j ≠ 0) → (tag b ≠ 46 ∨ j ≠ 1) → (tag b ≠ 46 ∨ j ≠ 2) → (tag b ≠ 46 ∨ j ≠ 20) → (tag b ≠ 46 ∨ j ≠ 22) → (tag b ≠ 46 ∨ j ≠ 23) → fld F b j = fld Fo b j) ∧ (∀ b j : Nat, tag b ≠ 37 → tag b ≠ 38 → tag b ≠ 40 → elm F b j = elm Fo b j) := by
    rw [hFo]
    exact ⟨by intros; rfl, by intros; rfl⟩
  refine lv_aload_n hx hb dX13_years_0 rfl (lv_at hl 0 rfl) ?_
  refine lv_iconst (v := 0) hx hb dX13_years_1 (by decide) ?_
  refine t_put (C := RX13) (T := TX13) (N := 37) (v := .int 0) X hT m0 g0 rfl tyX13 tyX13_ok nmX13 rfl 0 (by decide) qw_140 inlX13 rfl (by first | rfl | decide) (by first | rfl | decide) rfl (⟨_, rfl, (show (-2147483648) ≤ (0 : Int32).toInt from (by decide)), (show (0 : Int32).toInt ≤ 2147483647 from (by decide))⟩) dX13_years_2 (fun F H locs hT v76301 h1v76301 h2v76301 => ?_)
  have pf0 := (h1v76301 _ _ (Or.inr (by decide))).trans pf0
  have hfr : (∀ b j : Nat, (tag b ≠ 46 ∨ j ≠ 0) → (tag b ≠ 46 ∨ j ≠ 1) → (tag b ≠ 46 ∨ j ≠ 2) → (tag b ≠ 46 ∨ j ≠ 20) → (tag b ≠ 46 ∨ j ≠ 22) → (tag b ≠ 46 ∨ j ≠ 23) → fld F b j = fld Fo b j) ∧ (∀ b j : Nat, tag b ≠ 37 → tag b ≠ 38 → tag b ≠ 40 → elm F b j = elm Fo b j) := ⟨fun b j n46_0 n46_1 n46_2 n46_20 n46_22 n46_23 => (h1v76301 b j (fr_ne g0 n46_0)).trans (hfr.1 b j n46_0 n46_1 n46_2 n46_20 n46_22 n46_23), fun b j a37 a38 a40 => (h2v76301 b j).trans (hfr.2 b j a37 a38 a40)⟩
  refine lv_aload_n hx hb dX13_years_5 rfl (lv_at hl 0 rfl) ?_
  refine t_get (C := RX13) (T := TX13) (N := 37) X hT m0 g0 rfl rfl 3 (by decide) qw_481 inlX13 rfl dX13_years_6 (fun v76302 hv76302 ov76302 => ?_)
  obtain rfl : v76302 = .null := hv76302.symm.trans pf0
  refine lv_ifnonnullN hx hb dX13_years_9 ?_
  refine lv_aload_n hx hb dX13_years_12 rfl (lv_at hl 0 rfl) ?_
  refine lv_iconst (v := 1) hx hb dX13_years_13 (by decide) ?_
  refine t_cVi (n := 1) (C := RX13) (T := TX13) (N := 37) (As := [.int 1]) (rest := []) X hT (km88_X13_refused l G tag L F hT.2.2.2 p0 1 m0 g0) m0 g0 rfl rfl qw_484 qw_485 qw_486 qw_5 qw_487 ⟨rfl, by decide +kernel, by decide +kernel, by decide +kernel⟩ ⟨Nat.le_of_ble_eq_true rfl, Nat.le_of_ble_eq_true rfl⟩ hl rfl rfl (Nat.le_of_ble_eq_true rfl) dX13_years_14 ⟨Nat.le_of_ble_eq_true rfl, Nat.le_of_ble_eq_true rfl⟩ (fun z76303 F H locs hT hz76303 => ?_)
  obtain ⟨hz76303, yz76303⟩ := hz76303
  have pf0 := (yz76303.1 _ 3 (Or.inr (by decide)) (Or.inr (by decide))).trans pf0
  have v76301 := (yz76303.1 _ 0 (Or.inr (by decide)) (Or.inr (by decide))).trans v76301
  have hfr : (∀ b j : Nat, (tag b ≠ 46 ∨ j ≠ 0) → (tag b ≠ 46 ∨ j ≠ 1) → (tag b ≠ 46 ∨ j ≠ 2) → (tag b ≠ 46 ∨ j ≠ 20) → (tag b ≠ 46 ∨ j ≠ 22) → (tag b ≠ 46 ∨ j ≠ 23) → fld F b j = fld Fo b j) ∧ (∀ b j : Nat, tag b ≠ 37 → tag b ≠ 38 → tag b ≠ 40 → elm F b j = elm Fo b j) := ⟨fun b j n46_0 n46_1 n46_2 n46_20 n46_22 n46_23 => (yz76303.1 b j n46_1 n46_2).trans (hfr.1 b j n46_0 n46_1 n46_2 n46_20 n46_22 n46_23), fun b j a37 a38 a40 => (yz76303.2 b j ).trans (hfr.2 b j a37 a38 a40)⟩
  exact t_iret hQ X hT (⟨rg_all _, hfr⟩) (Nat.le_of_ble_eq_true rfl) (Nat.le_of_ble_eq_true rfl) dX13_years_17
