theorem kp_X13_latest (l : Launch) (G : KG) (tag : Nat → Nat) (L : List Nat) (Fo : Nat → va_E) (ho : okT G ttC tag L Fo) (p0 : Nat) (p1 : Int32) (m0 : p0 ∈ L) (g0 : tag p0 = 46) : TMi l yX13_latest cX13_latest 2 (some .int) { frames := 4, cells := 0, slots := 0, locals := 91 } G ttC tag L Fo [.ref p0, .int p1] (fun r F1 => ((-2147483648) ≤ r.toInt ∧ r.toInt ≤ 2147483647) ∧ ((∀ b j : Nat, (tag b ≠ 46 ∨ j ≠ 0) → (tag b ≠ 46 ∨ j ≠ 1) → (tag b ≠ 46 ∨ j ≠ 2) → (tag b ≠ 46 ∨ j ≠ 36) → fld F1 b j = fld Fo b j) ∧ (∀ b j : Nat, tag b ≠ 33 → tag b ≠ 43 → elm F1 b j = elm Fo b j))) := by
  rcases t_fldn ho m0 g0 rfl 3 rfl with h9 | ⟨b9, h9, m9, t9⟩
  · exact km240_X13_latest l G tag L Fo ho p0 p1  m0 g0 h9 
  · exact km239_X13_latest l G tag L Fo ho p0 p1 b9  m0 g0 m9 (tg_of t9) h9 
set_option maxHeartbeats 4000000 in
set_option maxRecDepth 100000 in
theorem km242_X13_surely (l : Launch) (G : KG) (tag : Nat → Nat) (L : List Nat) (Fo : Nat → va_E) (ho : okT G ttC tag L Fo) (p0 : Nat) (p1 : Int32) (p2 : Int32) (x0 : Nat) (m0 : p0 ∈ L) (g0 : tag p0 = 46) (mx0 : x0 ∈ L) (gx0 : tag x0 = 45) (pf0 : fld Fo p0 3 = .ref x0) : TMi l yX13_surely cX13_surely 3 (some .int) { frames := 4, cells := 0, slots := 0, locals := 91 } G ttC tag L Fo [.ref p0, .int p1, .int p2] (fun r F1 => ((-2147483648) ≤ r.toInt ∧ r.toInt ≤ 2147483647) ∧ ((∀ b j : Nat, (tag b ≠ 46 ∨ j ≠ 0) → (tag b ≠ 46 ∨ j ≠ 1) → (tag b ≠ 46 ∨ j ≠ 2) → (tag b ≠ 46 ∨ j ≠ 36) → fld F1 b j = fld Fo b j) ∧ (∀ b j : Nat, tag b ≠ 33 → tag b ≠ 43 → elm F1 b j = elm Fo b j))) := by
  refine t_bodyi (y := yX13_surely) (cd := cX13_surely) (mL := 3) (rt := (some .int)) (rm := { frames := 4, cells := 0, slots := 0, locals := 91 }) (av := [.ref p0, .int p1, .int p2]) (by decide) (Nat.le_of_ble_eq_true rfl) ho ?_
  intro p e s m args below meth c ls A Q hQ X hT hl
  have hx := X.1.1
  have hb := X.1.2.1
  have hl : lv_has ls 3 [(0, .ref p0), (1, .int p1), (2, .int p2)] := hl
  have rp1 := rg_all p1
  have rp2 := rg_all p2
  obtain ⟨F, hFo⟩ : ∃ F : Nat → va_E, F = Fo := ⟨_, rfl⟩
  rw [← hFo] at hT pf0
  have hfr : (∀ b j : Nat, (tag b ≠ 46 ∨ j ≠ 0) → (tag b ≠ 46 ∨ j ≠ 1) → (tag b ≠ 46 ∨ j ≠ 2) → (tag b ≠ 46 ∨ j ≠ 36) → fld F b j = fld Fo b j) ∧ (∀ b j : Nat, tag b ≠ 33 → tag b ≠ 43 → elm F b j = elm Fo b j) := by
    rw [hFo]
    exact ⟨by intros; rfl, by intros; rfl⟩
  refine lv_aload_n hx hb dX13_surely_0 rfl (lv_at hl 0 rfl) ?_
  refine lv_iconst (v := 0) hx hb dX13_surely_1 (by decide) ?_
  refine t_put (C := RX13) (T := TX13) (N := 37) (v := .int 0) X hT m0 g0 rfl tyX13 tyX13_ok nmX13 rfl 0 (by decide) qw_140 inlX13 rfl (by first | rfl | decide) (by first | rfl | decide) rfl (⟨_, rfl, (show (-2147483648) ≤ (0 : Int32).toInt from (by decide)), (show (0 : Int32).toInt ≤ 2147483647 from (by decide))⟩) dX13_surely_2 (fun F H locs hT v74507 h1v74507 h2v74507 => ?_)
  have pf0 := (h1v74507 _ _ (Or.inr (by decide))).trans pf0
  have hfr : (∀ b j : Nat, (tag b ≠ 46 ∨ j ≠ 0) → (tag b ≠ 46 ∨ j ≠ 1) → (tag b ≠ 46 ∨ j ≠ 2) → (tag b ≠ 46 ∨ j ≠ 36) → fld F b j = fld Fo b j) ∧ (∀ b j : Nat, tag b ≠ 33 → tag b ≠ 43 → elm F b j = elm Fo b j) := ⟨fun b j n46_0 n46_1 n46_2 n46_36 => (h1v74507 b j (fr_ne g0 n46_0)).trans (hfr.1 b j n46_0 n46_1 n46_2 n46_36), fun b j a33 a43 => (h2v74507 b j).trans (hfr.2 b j a33 a43)⟩
  refine lv_aload_n hx hb dX13_surely_5 rfl (lv_at hl 0 rfl) ?_
  refine lv_iload_n hx hb dX13_surely_6 rfl (lv_at hl 1 rfl) ?_
  refine t_cVi (n := 1) (C := RX13) (T := TX13) (N := 37) (As := [.int p1]) (rest := []) X hT (km231_X13_isWall l G tag L F hT.2.2.2 p0 p1 x0 m0 g0 mx0 gx0 pf0) m0 g0 rfl rfl qw_1392 qw_1393 qw_1394 qw_5 qw_1395 ⟨rfl, by decide +kernel, by decide +kernel, by decide +kernel⟩ ⟨Nat.le_of_ble_eq_true rfl, Nat.le_of_ble_eq_true rfl⟩ hl rfl rfl (Nat.le_of_ble_eq_true rfl) dX13_surely_7 ⟨Nat.le_of_ble_eq_true rfl, Nat.le_of_ble_eq_true rfl⟩ (fun z74508 F9 H locs hT hz74508 => ?_)
  obtain ⟨fz74508, hz74508⟩ := hz74508
  rw [fz74508] at hT
  obtain ⟨hz74508, iz74508⟩ := hz74508
  refine lv_if_eq (tgt := 26) hx hb dX13_surely_10 (by decide) (fun c74509 => ?_) (fun c74509 => ?_)
  · have w74510 := cv_eq (rfl : z74508.toInt = z74508.toInt) (by decide : (0 : Int32).toInt = 0) c74509
    refine lv_aload_n hx hb dX13_surely_26 rfl (lv_at hl 0 rfl) ?_
    refine lv_iconst (v := 1) hx hb dX13_surely_27 (by decide) ?_
    refine t_cVi (n := 1) (C := RX13) (T := TX13) (N := 37) (As := [.int 1]) (rest := []) X hT (km88_X13_refused l G tag L F hT.2.2.2 p0 1 m0 g0) m0 g0 rfl rfl qw_484 qw_485 qw_486 qw_5 qw_487 ⟨rfl, by decide +kernel, by decide +kernel, by decide +kernel⟩ ⟨Nat.le_of_ble_eq_true rfl, Nat.le_of_ble_eq_true rfl⟩ hl rfl rfl (Nat.le_of_ble_eq_true rfl) dX13_surely_28 ⟨Nat.le_of_ble_eq_true rfl, Nat.le_of_ble_eq_true rfl⟩ (fun z74511 F H locs hT hz74511 => ?_)
    obtain ⟨hz74511, yz74511⟩ := hz74511
    have pf0 := (yz74511.1 _ 3 (Or.inr (by decide)) (Or.inr (by decide))).trans pf0
    have v74507 := (yz74511.1 _ 0 (Or.inr (by decide)) (Or.inr (by decide))).trans v74507
    have hfr : (∀ b j : Nat, (tag b ≠ 46 ∨ j ≠ 0) → (tag b ≠ 46 ∨ j ≠ 1) → (tag b ≠ 46 ∨ j ≠ 2) → (tag b ≠ 46 ∨ j ≠ 36) → fld F b j = fld Fo b j) ∧ (∀ b j : Nat, tag b ≠ 33 → tag b ≠ 43 → elm F b j = elm Fo b j) := ⟨fun b j n46_0 n46_1 n46_2 n46_36 => (yz74511.1 b j n46_1 n46_2).trans (hfr.1 b j n46_0 n46_1 n46_2 n46_36), fun b j a33 a43 => (yz74511.2 b j ).trans (hfr.2 b j a33 a43)⟩
    exact t_iret hQ X hT (⟨rg_all _, hfr⟩) (Nat.le_of_ble_eq_true rfl) (Nat.le_of_ble_eq_true rfl) dX13_surely_31
  · have w74512 := cv_ne (rfl : z74508.toInt = z74508.toInt) (by decide : (0 : Int32).toInt = 0) c74509
    have w74513 := (fun h => (iz74508 h)) (by omega)
    refine lv_aload_n hx hb dX13_surely_13 rfl (lv_at hl 0 rfl) ?_
    refine lv_iload_n hx hb dX13_surely_14 rfl (lv_at hl 2 rfl) ?_
    refine t_cVi (n := 1) (C := RX13) (T := TX13) (N := 37) (As := [.int p2]) (rest := []) X hT (km231_X13_isWall l G tag L F hT.2.2.2 p0 p2 x0 m0 g0 mx0 gx0 pf0) m0 g0 rfl rfl qw_1392 qw_1393 qw_1394 qw_5 qw_1395 ⟨rfl, by decide +kernel, by decide +kernel, by decide +kernel⟩ ⟨Nat.le_of_ble_eq_true rfl, Nat.le_of_ble_eq_true rfl⟩ hl rfl rfl (Nat.le_of_ble_eq_true rfl) dX13_surely_15 ⟨Nat.le_of_ble_eq_true rfl, Nat.le_of_ble_eq_true rfl⟩ (fun z74514 F9 H locs hT hz74514 => ?_)
    obtain ⟨fz74514, hz74514⟩ := hz74514
    rw [fz74514] at hT
    obtain ⟨hz74514, iz74514⟩ := hz74514
    refine lv_if_eq (tgt := 26) hx hb dX13_surely_18 (by decide) (fun c74515 => ?_) (fun c74515 => ?_)
    · have w74516 := cv_eq (rfl : z74514.toInt = z74514.toInt) (by decide : (0 : Int32).toInt = 0) c74515
      refine lv_aload_n hx hb dX13_surely_26 rfl (lv_at hl 0 rfl) ?_
      refine lv_iconst (v := 1) hx hb dX13_surely_27 (by decide) ?_
      refine t_cVi (n := 1) (C := RX13) (T := TX13) (N := 37) (As := [.int 1]) (rest := []) X hT (km88_X13_refused l G tag L F hT.2.2.2 p0 1 m0 g0) m0 g0 rfl rfl qw_484 qw_485 qw_486 qw_5 qw_487 ⟨rfl, by decide +kernel, by decide +kernel, by decide +kernel⟩ ⟨Nat.le_of_ble_eq_true rfl, Nat.le_of_ble_eq_true rfl⟩ hl rfl rfl (Nat.le_of_ble_eq_true rfl) dX13_surely_28 ⟨Nat.le_of_ble_eq_true rfl, Nat.le_of_ble_eq_true rfl⟩ (fun z74517 F H locs hT hz74517 => ?_)
      obtain ⟨hz74517, yz74517⟩ := hz74517
      have pf0 := (yz74517.1 _ 3 (Or.inr (by decide)) (Or.inr (by decide))).trans pf0
      have v74507 := (yz74517.1 _ 0 (Or.inr (by decide)) (Or.inr (by decide))).trans v74507
      have hfr : (∀ b j : Nat, (tag b ≠ 46 ∨ j ≠ 0) → (tag b ≠ 46 ∨ j ≠ 1) → (tag b ≠ 46 ∨ j ≠ 2) → (tag b ≠ 46 ∨ j ≠ 36) → fld F b j = fld Fo b j) ∧ (∀ b j : Nat, tag b ≠ 33 → tag b ≠ 43 → elm F b j = elm Fo b j) := ⟨fun b j n46_0 n46_1 n46_2 n46_36 => (yz74517.1 b j n46_1 n46_2).trans (hfr.1 b j n46_0 n46_1 n46_2 n46_36), fun b j a33 a43 => (yz74517.2 b j ).trans (hfr.2 b j a33 a43)⟩
      exact t_iret hQ X hT (⟨rg_all _, hfr⟩) (Nat.le_of_ble_eq_true rfl) (Nat.le_of_ble_eq_true rfl) dX13_surely_31
    · have w74518 := cv_ne (rfl : z74514.toInt = z74514.toInt) (by decide : (0 : Int32).toInt = 0) c74515
      have w74519 := (fun h => (iz74514 h)) (by omega)
      refine lv_iload_n hx hb dX13_surely_21 rfl (lv_at hl 1 rfl) ?_
      refine lv_iload_n hx hb dX13_surely_22 rfl (lv_at hl 2 rfl) ?_
      refine lv_icmp_ne (tgt := 32) hx hb dX13_surely_23 (by decide) (fun c74520 => ?_) (fun c74520 => ?_)
      · have w74521 := cv_ne (rfl : p1.toInt = p1.toInt) (rfl : p2.toInt = p2.toInt) c74520
        refine lv_aload_n hx hb dX13_surely_32 rfl (lv_at hl 0 rfl) ?_
        refine lv_iconst (v := (-1)) hx hb dX13_surely_33 (by decide) ?_
        obtain ⟨z74522, qz74522, mz74522, gz74522⟩ := t_fldr hT m0 g0 rfl 29 rfl
        have gz74522 : tag z74522 = 43 := tg_of gz74522
        refine t_cVv (n := 1) (C := RX13) (T := TX13) (N := 37) (As := [.int (-1)]) (rest := []) X hT (km227_X13_findsOrders l G tag L F hT.2.2.2 p0 (-1) x0 z74522 m0 g0 mx0 gx0 pf0 mz74522 gz74522 qz74522) m0 g0 rfl rfl qw_1362 qw_1363 qw_1364 qw_5 qw_1365 ⟨rfl, by decide +kernel, by decide +kernel, by decide +kernel⟩ ⟨Nat.le_of_ble_eq_true rfl, Nat.le_of_ble_eq_true rfl⟩ hl rfl rfl (Nat.le_of_ble_eq_true rfl) dX13_surely_34 ⟨Nat.le_of_ble_eq_true rfl, Nat.le_of_ble_eq_true rfl⟩ (fun F H locs hT hz74523 => ?_)
        have yz74523 := hz74523
        have pf0 := (yz74523.1 _ 3 (Or.inr (by decide))).trans pf0
        have v74507 := (yz74523.1 _ 0 (Or.inr (by decide))).trans v74507
        have qz74522 := (yz74523.1 _ 29 (Or.inr (by decide))).trans qz74522
        have hfr : (∀ b j : Nat, (tag b ≠ 46 ∨ j ≠ 0) → (tag b ≠ 46 ∨ j ≠ 1) → (tag b ≠ 46 ∨ j ≠ 2) → (tag b ≠ 46 ∨ j ≠ 36) → fld F b j = fld Fo b j) ∧ (∀ b j : Nat, tag b ≠ 33 → tag b ≠ 43 → elm F b j = elm Fo b j) := ⟨fun b j n46_0 n46_1 n46_2 n46_36 => (yz74523.1 b j n46_36).trans (hfr.1 b j n46_0 n46_1 n46_2 n46_36), fun b j a33 a43 => (yz74523.2 b j a33 a43).trans (hfr.2 b j a33 a43)⟩
        refine lv_aload_n hx hb dX13_surely_37 rfl (lv_at hl 0 rfl) ?_
        refine lv_aload_n hx hb dX13_surely_38 rfl (lv_at hl 0 rfl) ?_
        refine t_get (C := RX13) (T := TX13) (N := 37) X hT m0 g0 rfl rfl 36 (by decide) qw_1361 inlX13 rfl dX13_surely_39 (fun v74524 hv74524 ov74524 => ?_)
        obtain ⟨z74525, rfl, rz74525⟩ := okV_i ov74524
        refine lv_if_le (tgt := 62) hx hb dX13_surely_42 (by decide) (fun c74526 => ?_) (fun c74526 => ?_)
        · have w74527 := cv_le (rfl : z74525.toInt = z74525.toInt) (by decide : (0 : Int32).toInt = 0) c74526
          refine lv_iconst (v := 0) hx hb dX13_surely_62 (by decide) ?_
          refine t_cVi (n := 1) (C := RX13) (T := TX13) (N := 37) (As := [.int 0]) (rest := []) X hT (km93_X13_good l G tag L F hT.2.2.2 p0 0 m0 g0) m0 g0 rfl rfl qw_687 qw_688 qw_689 qw_5 qw_690 ⟨rfl, by decide +kernel, by decide +kernel, by decide +kernel⟩ ⟨Nat.le_of_ble_eq_true rfl, Nat.le_of_ble_eq_true rfl⟩ hl rfl rfl (Nat.le_of_ble_eq_true rfl) dX13_surely_63 ⟨Nat.le_of_ble_eq_true rfl, Nat.le_of_ble_eq_true rfl⟩ (fun z74528 F H locs hT hz74528 => ?_)
          obtain ⟨hz74528, yz74528⟩ := hz74528
          have pf0 := (yz74528.1 _ 3 (Or.inr (by decide)) (Or.inr (by decide))).trans pf0
          have v74507 := (yz74528.1 _ 0 (Or.inr (by decide)) (Or.inr (by decide))).trans v74507
          have qz74522 := (yz74528.1 _ 29 (Or.inr (by decide)) (Or.inr (by decide))).trans qz74522
          have hv74524 := (yz74528.1 _ 36 (Or.inr (by decide)) (Or.inr (by decide))).trans hv74524
          have hfr : (∀ b j : Nat, (tag b ≠ 46 ∨ j ≠ 0) → (tag b ≠ 46 ∨ j ≠ 1) → (tag b ≠ 46 ∨ j ≠ 2) → (tag b ≠ 46 ∨ j ≠ 36) → fld F b j = fld Fo b j) ∧ (∀ b j : Nat, tag b ≠ 33 → tag b ≠ 43 → elm F b j = elm Fo b j) := ⟨fun b j n46_0 n46_1 n46_2 n46_36 => (yz74528.1 b j n46_1 n46_2).trans (hfr.1 b j n46_0 n46_1 n46_2 n46_36), fun b j a33 a43 => (yz74528.2 b j ).trans (hfr.2 b j a33 a43)⟩
          exact t_iret hQ X hT (⟨rg_all _, hfr⟩) (Nat.le_of_ble_eq_true rfl) (Nat.le_of_ble_eq_true rfl) dX13_surely_66
        · have w74529 := cv_nle (rfl : z74525.toInt = z74525.toInt) (by decide : (0 : Int32).toInt = 0) c74526
          refine lv_aload_n hx hb dX13_surely_45 rfl (lv_at hl 0 rfl) ?_
          refine t_get (C := RX13) (T := TX13) (N := 37) X hT m0 g0 rfl rfl 32 (by decide) qw_123 inlX13 rfl dX13_surely_46 (fun v74530 hv74530 ov74530 => ?_)
          obtain ⟨b74531, rfl, mb74531, gb74531⟩ := okV_r ov74530
          have gb74531 : tag b74531 = 33 := tg_of gb74531
          refine lv_iload_n hx hb dX13_surely_49 rfl (lv_at hl 2 rfl) ?_
          refine t_ild X hT mb74531 gb74531 rfl (by omega) dX13_surely_50 (fun z74532 vz74532 rz74532 => ?_)
          have rz74532 : (-2147483648) ≤ z74532.toInt ∧ z74532.toInt ≤ 2147483647 := rz74532
          refine lv_iload_n hx hb dX13_surely_51 rfl (lv_at hl 1 rfl) ?_
          refine t_cSi (n := 2) (As := [.int z74532, .int p1]) (rest := [.ref p0]) X hT (km24_X13_bit l G tag L F hT.2.2.2 z74532 p1 ) qw_676 qw_677 qw_5 qw_678 ⟨by decide +kernel, by decide +kernel, by decide +kernel⟩ ⟨Nat.le_of_ble_eq_true rfl, Nat.le_of_ble_eq_true rfl⟩ hl rfl rfl (Nat.le_of_ble_eq_true rfl) dX13_surely_52 ⟨Nat.le_of_ble_eq_true rfl, Nat.le_of_ble_eq_true rfl⟩ (fun z74533 F9 H locs hT hz74533 => ?_)
          obtain ⟨fz74533, hz74533⟩ := hz74533
          rw [fz74533] at hT
          refine lv_if_eq (tgt := 62) hx hb dX13_surely_55 (by decide) (fun c74534 => ?_) (fun c74534 => ?_)
          · have w74535 := cv_eq (rfl : z74533.toInt = z74533.toInt) (by decide : (0 : Int32).toInt = 0) c74534
            refine lv_iconst (v := 0) hx hb dX13_surely_62 (by decide) ?_
            refine t_cVi (n := 1) (C := RX13) (T := TX13) (N := 37) (As := [.int 0]) (rest := []) X hT (km93_X13_good l G tag L F hT.2.2.2 p0 0 m0 g0) m0 g0 rfl rfl qw_687 qw_688 qw_689 qw_5 qw_690 ⟨rfl, by decide +kernel, by decide +kernel, by decide +kernel⟩ ⟨Nat.le_of_ble_eq_true rfl, Nat.le_of_ble_eq_true rfl⟩ hl rfl rfl (Nat.le_of_ble_eq_true rfl) dX13_surely_63 ⟨Nat.le_of_ble_eq_true rfl, Nat.le_of_ble_eq_true rfl⟩ (fun z74536 F H locs hT hz74536 => ?_)
            obtain ⟨hz74536, yz74536⟩ := hz74536
            have pf0 := (yz74536.1 _ 3 (Or.inr (by decide)) (Or.inr (by decide))).trans pf0
            have v74507 := (yz74536.1 _ 0 (Or.inr (by decide)) (Or.inr (by decide))).trans v74507
            have qz74522 := (yz74536.1 _ 29 (Or.inr (by decide)) (Or.inr (by decide))).trans qz74522
            have hv74524 := (yz74536.1 _ 36 (Or.inr (by decide)) (Or.inr (by decide))).trans hv74524
            have hv74530 := (yz74536.1 _ 32 (Or.inr (by decide)) (Or.inr (by decide))).trans hv74530
            have vz74532 := (yz74536.2 _ _ ).trans vz74532
            have hfr : (∀ b j : Nat, (tag b ≠ 46 ∨ j ≠ 0) → (tag b ≠ 46 ∨ j ≠ 1) → (tag b ≠ 46 ∨ j ≠ 2) → (tag b ≠ 46 ∨ j ≠ 36) → fld F b j = fld Fo b j) ∧ (∀ b j : Nat, tag b ≠ 33 → tag b ≠ 43 → elm F b j = elm Fo b j) := ⟨fun b j n46_0 n46_1 n46_2 n46_36 => (yz74536.1 b j n46_1 n46_2).trans (hfr.1 b j n46_0 n46_1 n46_2 n46_36), fun b j a33 a43 => (yz74536.2 b j ).trans (hfr.2 b j a33 a43)⟩
            exact t_iret hQ X hT (⟨rg_all _, hfr⟩) (Nat.le_of_ble_eq_true rfl) (Nat.le_of_ble_eq_true rfl) dX13_surely_66
          · have w74537 := cv_ne (rfl : z74533.toInt = z74533.toInt) (by decide : (0 : Int32).toInt = 0) c74534
            refine lv_iconst (v := 1) hx hb dX13_surely_58 (by decide) ?_
            refine lv_goto (tgt := 63) hx hb dX13_surely_59 (by decide) ?_
            refine t_cVi (n := 1) (C := RX13) (T := TX13) (N := 37) (As := [.int 1]) (rest := []) X hT (km93_X13_good l G tag L F hT.2.2.2 p0 1 m0 g0) m0 g0 rfl rfl qw_687 qw_688 qw_689 qw_5 qw_690 ⟨rfl, by decide +kernel, by decide +kernel, by decide +kernel⟩ ⟨Nat.le_of_ble_eq_true rfl, Nat.le_of_ble_eq_true rfl⟩ hl rfl rfl (Nat.le_of_ble_eq_true rfl) dX13_surely_63 ⟨Nat.le_of_ble_eq_true rfl, Nat.le_of_ble_eq_true rfl⟩ (fun z74538 F H locs hT hz74538 => ?_)
            obtain ⟨hz74538, yz74538⟩ := hz74538
            have pf0 := (yz74538.1 _ 3 (Or.inr (by decide)) (Or.inr (by decide))).trans pf0
            have v74507 := (yz74538.1 _ 0 (Or.inr (by decide)) (Or.inr (by decide))).trans v74507
            have qz74522 := (yz74538.1 _ 29 (Or.inr (by decide)) (Or.inr (by decide))).trans qz74522
            have hv74524 := (yz74538.1 _ 36 (Or.inr (by decide)) (Or.inr (by decide))).trans hv74524
            have hv74530 := (yz74538.1 _ 32 (Or.inr (by decide)) (Or.inr (by decide))).trans hv74530
            have vz74532 := (yz74538.2 _ _ ).trans vz74532
            have hfr : (∀ b j : Nat, (tag b ≠ 46 ∨ j ≠ 0) → (tag b ≠ 46 ∨ j ≠ 1) → (tag b ≠ 46 ∨ j ≠ 2) → (tag b ≠ 46 ∨ j ≠ 36) → fld F b j = fld Fo b j) ∧ (∀ b j : Nat, tag b ≠ 33 → tag b ≠ 43 → elm F b j = elm Fo b j) := ⟨fun b j n46_0 n46_1 n46_2 n46_36 => (yz74538.1 b j n46_1 n46_2).trans (hfr.1 b j n46_0 n46_1 n46_2 n46_36), fun b j a33 a43 => (yz74538.2 b j ).trans (hfr.2 b j a33 a43)⟩
            exact t_iret hQ X hT (⟨rg_all _, hfr⟩) (Nat.le_of_ble_eq_true rfl) (Nat.le_of_ble_eq_true rfl) dX13_surely_66
      · have w74539 := cv_eq (rfl : p1.toInt = p1.toInt) (rfl : p2.toInt = p2.toInt) c74520
        refine lv_aload_n hx hb dX13_surely_26 rfl (lv_at hl 0 rfl) ?_
        refine lv_iconst (v := 1) hx hb dX13_surely_27 (by decide) ?_
        refine t_cVi (n := 1) (C := RX13) (T := TX13) (N := 37) (As := [.int 1]) (rest := []) X hT (km88_X13_refused l G tag L F hT.2.2.2 p0 1 m0 g0) m0 g0 rfl rfl qw_484 qw_485 qw_486 qw_5 qw_487 ⟨rfl, by decide +kernel, by decide +kernel, by decide +kernel⟩ ⟨Nat.le_of_ble_eq_true rfl, Nat.le_of_ble_eq_true rfl⟩ hl rfl rfl (Nat.le_of_ble_eq_true rfl) dX13_surely_28 ⟨Nat.le_of_ble_eq_true rfl, Nat.le_of_ble_eq_true rfl⟩ (fun z74540 F H locs hT hz74540 => ?_)
        obtain ⟨hz74540, yz74540⟩ := hz74540
        have pf0 := (yz74540.1 _ 3 (Or.inr (by decide)) (Or.inr (by decide))).trans pf0
        have v74507 := (yz74540.1 _ 0 (Or.inr (by decide)) (Or.inr (by decide))).trans v74507
        have hfr : (∀ b j : Nat, (tag b ≠ 46 ∨ j ≠ 0) → (tag b ≠ 46 ∨ j ≠ 1) → (tag b ≠ 46 ∨ j ≠ 2) → (tag b ≠ 46 ∨ j ≠ 36) → fld F b j = fld Fo b j) ∧ (∀ b j : Nat, tag b ≠ 33 → tag b ≠ 43 → elm F b j = elm Fo b j) := ⟨fun b j n46_0 n46_1 n46_2 n46_36 => (yz74540.1 b j n46_1 n46_2).trans (hfr.1 b j n46_0 n46_1 n46_2 n46_36), fun b j a33 a43 => (yz74540.2 b j ).trans (hfr.2 b j a33 a43)⟩
        exact t_iret hQ X hT (⟨rg_all _, hfr⟩) (Nat.le_of_ble_eq_true rfl) (Nat.le_of_ble_eq_true rfl) dX13_surely_31
set_option maxHeartbeats 4000000 in
set_option maxRecDepth 100000 in
theorem km243_X13_surely (l : Launch) (G : KG) (tag : Nat → Nat) (L : List Nat) (Fo : Nat → va_E) (ho : okT G ttC tag L Fo) (p0 : Nat) (p1 : Int32) (p2 : Int32) (m0 : p0 ∈ L) (g0 : tag p0 = 46) (pf0 : fld Fo p0 3 = .null) : TMi l yX13_surely cX13_surely 3 (some .int) { frames := 4, cells := 0, slots := 0, locals := 91 } G ttC tag L Fo [.ref p0, .int p1, .int p2] (fun r F1 => ((-2147483648) ≤ r.toInt ∧ r.toInt ≤ 2147483647) ∧ ((∀ b j : Nat, (tag b ≠ 46 ∨ j ≠ 0) → (tag b ≠ 46 ∨ j ≠ 1) → (tag b ≠ 46 ∨ j ≠ 2) → (tag b ≠ 46 ∨ j ≠ 36) → fld F1 b j = fld Fo b j) ∧ (∀ b j : Nat, tag b ≠ 33 → tag b ≠ 43 → elm F1 b j = elm Fo b j))) := by
  refine t_bodyi (y := yX13_surely) (cd := cX13_surely) (mL := 3) (rt := (some .int)) (rm := { frames := 4, cells := 0, slots := 0, locals := 91 }) (av := [.ref p0, .int p1, .int p2]) (by decide) (Nat.le_of_ble_eq_true rfl) ho ?_
  intro p e s m args below meth c ls A Q hQ X hT hl
  have hx := X.1.1
  have hb := X.1.2.1
  have hl : lv_has ls 3 [(0, .ref p0), (1, .int p1), (2, .int p2)] := hl
  have rp1 := rg_all p1
  have rp2 := rg_all p2
  obtain ⟨F, hFo⟩ : ∃ F : Nat → va_E, F = Fo := ⟨_, rfl⟩
  rw [← hFo] at hT pf0
  have hfr : (∀ b j : Nat, (tag b ≠ 46 ∨ j ≠ 0) → (tag b ≠ 46 ∨ j ≠ 1) → (tag b ≠ 46 ∨ j ≠ 2) → (tag b ≠ 46 ∨ j ≠ 36) → fld F b j = fld Fo b j) ∧ (∀ b j : Nat, tag b ≠ 33 → tag b ≠ 43 → elm F b j = elm Fo b j) := by
    rw [hFo]
    exact ⟨by intros; rfl, by intros; rfl⟩
  refine lv_aload_n hx hb dX13_surely_0 rfl (lv_at hl 0 rfl) ?_
  refine lv_iconst (v := 0) hx hb dX13_surely_1 (by decide) ?_
  refine t_put (C := RX13) (T := TX13) (N := 37) (v := .int 0) X hT m0 g0 rfl tyX13 tyX13_ok nmX13 rfl 0 (by decide) qw_140 inlX13 rfl (by first | rfl | decide) (by first | rfl | decide) rfl (⟨_, rfl, (show (-2147483648) ≤ (0 : Int32).toInt from (by decide)), (show (0 : Int32).toInt ≤ 2147483647 from (by decide))⟩) dX13_surely_2 (fun F H locs hT v74607 h1v74607 h2v74607 => ?_)
  have pf0 := (h1v74607 _ _ (Or.inr (by decide))).trans pf0
  have hfr : (∀ b j : Nat, (tag b ≠ 46 ∨ j ≠ 0) → (tag b ≠ 46 ∨ j ≠ 1) → (tag b ≠ 46 ∨ j ≠ 2) → (tag b ≠ 46 ∨ j ≠ 36) → fld F b j = fld Fo b j) ∧ (∀ b j : Nat, tag b ≠ 33 → tag b ≠ 43 → elm F b j = elm Fo b j) := ⟨fun b j n46_0 n46_1 n46_2 n46_36 => (h1v74607 b j (fr_ne g0 n46_0)).trans (hfr.1 b j n46_0 n46_1 n46_2 n46_36), fun b j a33 a43 => (h2v74607 b j).trans (hfr.2 b j a33 a43)⟩
  refine lv_aload_n hx hb dX13_surely_5 rfl (lv_at hl 0 rfl) ?_
  refine lv_iload_n hx hb dX13_surely_6 rfl (lv_at hl 1 rfl) ?_
  refine t_cVi (n := 1) (C := RX13) (T := TX13) (N := 37) (As := [.int p1]) (rest := []) X hT (km233_X13_isWall l G tag L F hT.2.2.2 p0 p1 m0 g0 pf0) m0 g0 rfl rfl qw_1392 qw_1393 qw_1394 qw_5 qw_1395 ⟨rfl, by decide +kernel, by decide +kernel, by decide +kernel⟩ ⟨Nat.le_of_ble_eq_true rfl, Nat.le_of_ble_eq_true rfl⟩ hl rfl rfl (Nat.le_of_ble_eq_true rfl) dX13_surely_7 ⟨Nat.le_of_ble_eq_true rfl, Nat.le_of_ble_eq_true rfl⟩ (fun z74608 F9 H locs hT hz74608 => ?_)
  obtain ⟨fz74608, hz74608⟩ := hz74608
  rw [fz74608] at hT
  refine lv_if_eq (tgt := 26) hx hb dX13_surely_10 (by decide) (fun c74609 => ?_) (fun c74609 => ?_)
  · have w74610 := cv_eq (rfl : z74608.toInt = z74608.toInt) (by decide : (0 : Int32).toInt = 0) c74609
    refine lv_aload_n hx hb dX13_surely_26 rfl (lv_at hl 0 rfl) ?_
    refine lv_iconst (v := 1) hx hb dX13_surely_27 (by decide) ?_
    refine t_cVi (n := 1) (C := RX13) (T := TX13) (N := 37) (As := [.int 1]) (rest := []) X hT (km88_X13_refused l G tag L F hT.2.2.2 p0 1 m0 g0) m0 g0 rfl rfl qw_484 qw_485 qw_486 qw_5 qw_487 ⟨rfl, by decide +kernel, by decide +kernel, by decide +kernel⟩ ⟨Nat.le_of_ble_eq_true rfl, Nat.le_of_ble_eq_true rfl⟩ hl rfl rfl (Nat.le_of_ble_eq_true rfl) dX13_surely_28 ⟨Nat.le_of_ble_eq_true rfl, Nat.le_of_ble_eq_true rfl⟩ (fun z74611 F H locs hT hz74611 => ?_)
    obtain ⟨hz74611, yz74611⟩ := hz74611
    have pf0 := (yz74611.1 _ 3 (Or.inr (by decide)) (Or.inr (by decide))).trans pf0
    have v74607 := (yz74611.1 _ 0 (Or.inr (by decide)) (Or.inr (by decide))).trans v74607
    have hfr : (∀ b j : Nat, (tag b ≠ 46 ∨ j ≠ 0) → (tag b ≠ 46 ∨ j ≠ 1) → (tag b ≠ 46 ∨ j ≠ 2) → (tag b ≠ 46 ∨ j ≠ 36) → fld F b j = fld Fo b j) ∧ (∀ b j : Nat, tag b ≠ 33 → tag b ≠ 43 → elm F b j = elm Fo b j) := ⟨fun b j n46_0 n46_1 n46_2 n46_36 => (yz74611.1 b j n46_1 n46_2).trans (hfr.1 b j n46_0 n46_1 n46_2 n46_36), fun b j a33 a43 => (yz74611.2 b j ).trans (hfr.2 b j a33 a43)⟩
    exact t_iret hQ X hT (⟨rg_all _, hfr⟩) (Nat.le_of_ble_eq_true rfl) (Nat.le_of_ble_eq_true rfl) dX13_surely_31
  · have w74612 := cv_ne (rfl : z74608.toInt = z74608.toInt) (by decide : (0 : Int32).toInt = 0) c74609
    exfalso
    omega
theorem kp_X13_surely (l : Launch) (G : KG) (tag : Nat → Nat) (L : List Nat) (Fo : Nat → va_E) (ho : okT G ttC tag L Fo) (p0 : Nat) (p1 : Int32) (p2 : Int32) (m0 : p0 ∈ L) (g0 : tag p0 = 46) : TMi l yX13_surely cX13_surely 3 (some .int) { frames := 4, cells := 0, slots := 0, locals := 91 } G ttC tag L Fo [.ref p0, .int p1, .int p2] (fun r F1 => ((-2147483648) ≤ r.toInt ∧ r.toInt ≤ 2147483647) ∧ ((∀ b j : Nat, (tag b ≠ 46 ∨ j ≠ 0) → (tag b ≠ 46 ∨ j ≠ 1) → (tag b ≠ 46 ∨ j ≠ 2) → (tag b ≠ 46 ∨ j ≠ 36) → fld F1 b j = fld Fo b j) ∧ (∀ b j : Nat, tag b ≠ 33 → tag b ≠ 43 → elm F1 b j = elm Fo b j))) := by
  rcases t_fldn ho m0 g0 rfl 3 rfl with h9 | ⟨b9, h9, m9, t9⟩
  · exact km243_X13_surely l G tag L Fo ho p0 p1 p2  m0 g0 h9 
  · exact km242_X13_surely l G tag L Fo ho p0 p1 p2 b9  m0 g0 m9 (tg_of t9) h9 
set_option maxHeartbeats 4000000 in
set_option maxRecDepth 100000 in
theorem km245_X13_keeps (l : Launch) (G : KG) (tag : Nat → Nat) (L : List Nat) (Fo : Nat → va_E) (ho : okT G ttC tag L Fo) (p0 : Nat) (m0 : p0 ∈ L) (g0 : tag p0 = 46) : TMv l yX13_keeps cX13_keeps 2 { frames := 0, cells := 0, slots := 0, locals := 0 } G ttC tag L Fo [.ref p0] (fun F1 => ((∀ b j : Nat, (tag b ≠ 46 ∨ j ≠ 20) → fld F1 b j = fld Fo b j) ∧ (∀ b j : Nat, tag b ≠ 38 → elm F1 b j = elm Fo b j))) := by
  refine t_bodyv (y := yX13_keeps) (cd := cX13_keeps) (mL := 2) (rm := { frames := 0, cells := 0, slots := 0, locals := 0 }) (av := [.ref p0]) (by decide) (Nat.le_of_ble_eq_true rfl) ho ?_
  intro p e s m args below meth c ls A Q hQ X hT hl
  have hx := X.1.1
  have hb := X.1.2.1
  have hl : lv_has ls 2 [(0, .ref p0)] := hl
  obtain ⟨F, hFo⟩ : ∃ F : Nat → va_E, F = Fo := ⟨_, rfl⟩
  rw [← hFo] at hT
  have hfr : (∀ b j : Nat, (tag b ≠ 46 ∨ j ≠ 20) → fld F b j = fld Fo b j) ∧ (∀ b j : Nat, tag b ≠ 38 → elm F b j = elm Fo b j) := by
    rw [hFo]
    exact ⟨by intros; rfl, by intros; rfl⟩
  have K52 : ∀ (n : Nat) (z75857 : Int32) (z75858 : Int32) (F : Nat → va_E) (H : Heap) (locs : List Loc) (ls : Array Slot), (212 - z75857.toInt < (n : Int)) → (0 ≤ z75857.toInt ∧ z75857.toInt ≤ 212) → (0 ≤ z75858.toInt ∧ z75858.toInt ≤ 9) → TH G ttC A s tag L F H locs → ((∀ b j : Nat, (tag b ≠ 46 ∨ j ≠ 20) → fld F b j = fld Fo b j) ∧ (∀ b j : Nat, tag b ≠ 38 → elm F b j = elm Fo b j)) → (fld F p0 20 = .int z75858) → lv_has ls 2 [(0, .ref p0), (1, .int z75857)] → W p l e { frames := 0, cells := 0, slots := 0, locals := 0 } s m args below meth c H locs 0 0 Q (F0 m 52 ls []) := by
    intro n
    induction n with
    | zero =>
      intro z75857 z75858 F H locs ls hn rz75857 rz75858 hT hfr qz75858 hl
      exfalso
      omega
    | succ n ih52 =>
      intro z75857 z75858 F H locs ls hn rz75857 rz75858 hT hfr qz75858 hl
      refine lv_iload_n hx hb dX13_keeps_52 rfl (lv_at hl 1 rfl) ?_
      refine lv_sipush (v := 212) hx hb dX13_keeps_53 (by decide) ?_
      refine lv_icmp_ge (tgt := 86) hx hb dX13_keeps_56 (by decide) (fun c75859 => ?_) (fun c75859 => ?_)
      · have w75860 := cv_le (by decide : (212 : Int32).toInt = 212) (rfl : z75857.toInt = z75857.toInt) c75859
        refine lv_aload_n hx hb dX13_keeps_86 rfl (lv_at hl 0 rfl) ?_
        refine lv_dup hx hb dX13_keeps_87 rfl ?_
        refine t_get (C := RX13) (T := TX13) (N := 37) X hT m0 g0 rfl rfl 20 (by decide) qw_482 inlX13 rfl dX13_keeps_88 (fun v75861 hv75861 ov75861 => ?_)
        obtain rfl : v75861 = .int z75858 := hv75861.symm.trans qz75858
        refine lv_iconst (v := 1) hx hb dX13_keeps_91 (by decide) ?_
        refine lv_iadd hx hb dX13_keeps_92 ?_
        refine lv_topi (fun z75862 ez75862 => ?_)
        have hz75862 : z75862.toInt = z75858.toInt + 1 := ar_add ez75862 (rfl : z75858.toInt = z75858.toInt) (by decide : (1 : Int32).toInt = 1) (by omega) (by omega)
        have rz75862 : 1 ≤ z75862.toInt ∧ z75862.toInt ≤ 10 := by omega
        refine t_put (C := RX13) (T := TX13) (N := 37) (v := .int z75862) X hT m0 g0 rfl tyX13 tyX13_ok nmX13 rfl 20 (by decide) qw_482 inlX13 rfl (by first | rfl | decide) (by first | rfl | decide) rfl (⟨_, rfl, (show 0 ≤ (z75862 : Int32).toInt from (by omega)), (show (z75862 : Int32).toInt ≤ 10 from (by omega))⟩) dX13_keeps_93 (fun F H locs hT v75863 h1v75863 h2v75863 => ?_)
        have hfr : (∀ b j : Nat, (tag b ≠ 46 ∨ j ≠ 20) → fld F b j = fld Fo b j) ∧ (∀ b j : Nat, tag b ≠ 38 → elm F b j = elm Fo b j) := ⟨fun b j n46_20 => (h1v75863 b j (fr_ne g0 n46_20)).trans (hfr.1 b j n46_20), fun b j a38 => (h2v75863 b j).trans (hfr.2 b j a38)⟩
        exact t_vret hQ X hT hfr (Nat.le_of_ble_eq_true rfl) (Nat.le_of_ble_eq_true rfl) dX13_keeps_96
      · have w75864 := cv_nle (by decide : (212 : Int32).toInt = 212) (rfl : z75857.toInt = z75857.toInt) c75859
        refine lv_aload_n hx hb dX13_keeps_59 rfl (lv_at hl 0 rfl) ?_
        refine t_get (C := RX13) (T := TX13) (N := 37) X hT m0 g0 rfl rfl 18 (by decide) qw_114 inlX13 rfl dX13_keeps_60 (fun v75865 hv75865 ov75865 => ?_)
        obtain ⟨b75866, rfl, mb75866, gb75866⟩ := okV_r ov75865
        have gb75866 : tag b75866 = 38 := tg_of gb75866
        refine lv_sipush (v := 212) hx hb dX13_keeps_63 (by decide) ?_
        refine lv_aload_n hx hb dX13_keeps_66 rfl (lv_at hl 0 rfl) ?_
        refine t_get (C := RX13) (T := TX13) (N := 37) X hT m0 g0 rfl rfl 20 (by decide) qw_482 inlX13 rfl dX13_keeps_67 (fun v75867 hv75867 ov75867 => ?_)
        obtain rfl : v75867 = .int z75858 := hv75867.symm.trans qz75858
        refine lv_imul hx hb dX13_keeps_70 ?_
        refine lv_topi (fun z75868 ez75868 => ?_)
        have hz75868 : z75868.toInt = 212 * z75858.toInt := ar_mul ez75868 (by decide : (212 : Int32).toInt = 212) (rfl : z75858.toInt = z75858.toInt) (by omega) (by omega)
        have rz75868 : 0 ≤ z75868.toInt ∧ z75868.toInt ≤ 1908 := by omega
        refine lv_iload_n hx hb dX13_keeps_71 rfl (lv_at hl 1 rfl) ?_
        refine lv_iadd hx hb dX13_keeps_72 ?_
        refine lv_topi (fun z75869 ez75869 => ?_)
        have hz75869 : z75869.toInt = z75868.toInt + z75857.toInt := ar_add ez75869 (rfl : z75868.toInt = z75868.toInt) (rfl : z75857.toInt = z75857.toInt) (by omega) (by omega)
        have rz75869 : 0 ≤ z75869.toInt ∧ z75869.toInt ≤ 2119 := by omega
        refine lv_aload_n hx hb dX13_keeps_73 rfl (lv_at hl 0 rfl) ?_
        refine t_get (C := RX13) (T := TX13) (N := 37) X hT m0 g0 rfl rfl 16 (by decide) qw_112 inlX13 rfl dX13_keeps_74 (fun v75870 hv75870 ov75870 => ?_)
        obtain ⟨b75871, rfl, mb75871, gb75871⟩ := okV_r ov75870
        have gb75871 : tag b75871 = 37 := tg_of gb75871
        refine lv_iload_n hx hb dX13_keeps_77 rfl (lv_at hl 1 rfl) ?_
        refine t_ild X hT mb75871 gb75871 rfl (by omega) dX13_keeps_78 (fun z75872 vz75872 rz75872 => ?_)
        have oz75872 := rz75872
        have rz75872 := rg_all z75872
        refine t_ist X hT mb75866 gb75866 rfl (by omega) (row_c1 (a := z75858.toInt) (by omega) (by omega) (by omega) oz75872) dX13_keeps_79 (fun F H locs hT v75873 h1v75873 h2v75873 => ?_)
        have qz75858 := (h2v75873 _ _).trans qz75858
        have hv75865 := (h2v75873 _ _).trans hv75865
        have hv75870 := (h2v75873 _ _).trans hv75870
        have vz75872 := (h1v75873 _ _ (Or.inl (tne gb75871 gb75866 (by decide)))).trans vz75872
        have hfr : (∀ b j : Nat, (tag b ≠ 46 ∨ j ≠ 20) → fld F b j = fld Fo b j) ∧ (∀ b j : Nat, tag b ≠ 38 → elm F b j = elm Fo b j) := ⟨fun b j n46_20 => (h2v75873 b j).trans (hfr.1 b j n46_20), fun b j a38 => (h1v75873 b j (Or.inl (at_ne gb75866 a38))).trans (hfr.2 b j a38)⟩
        obtain ⟨z75874, ez75874⟩ : ∃ y : Int32, y = z75857 + 1 := ⟨_, rfl⟩
        have hz75874 : z75874.toInt = z75857.toInt + 1 := ar_add ez75874 rfl (by decide : (1 : Int32).toInt = 1) (by omega) (by omega)
        refine lv_iinc (v := z75874) (lv' := [(1, .int z75874), (0, .ref p0)]) hx hb dX13_keeps_80 hl (k := 1) rfl (by rw [ez75874]; rfl) (by decide) rfl (fun ls hl => ?_)
        refine lv_goto (tgt := 52) hx hb dX13_keeps_83 (by decide) ?_
        exact ih52 z75874 z75858 _ _ _ _ (by omega) (by omega) (by omega) hT hfr qz75858 (lv_sub hl [1, 0] rfl)
  have K50 : ∀ (z75875 : Int32) (F : Nat → va_E) (H : Heap) (locs : List Loc) (ls : Array Slot), (0 ≤ z75875.toInt ∧ z75875.toInt ≤ 9) → TH G ttC A s tag L F H locs → ((∀ b j : Nat, (tag b ≠ 46 ∨ j ≠ 20) → fld F b j = fld Fo b j) ∧ (∀ b j : Nat, tag b ≠ 38 → elm F b j = elm Fo b j)) → (fld F p0 20 = .int z75875) → lv_has ls 2 [(0, .ref p0)] → W p l e { frames := 0, cells := 0, slots := 0, locals := 0 } s m args below meth c H locs 0 0 Q (F0 m 50 ls []) := by
    intro z75875 F H locs ls rz75875 hT hfr qz75875 hl
    refine lv_iconst (v := 0) hx hb dX13_keeps_50 (by decide) ?_
    refine lv_istore_n (lv' := [(1, .int 0), (0, .ref p0)]) hx hb dX13_keeps_51 rfl hl (by decide) rfl (fun ls hl => ?_)
    have k75876 : (0 : Int32).toInt = 0 := by decide
    exact K52 213 0 z75875 _ _ _ _ (by omega) (by decide) (by omega) hT hfr qz75875 (lv_sub hl [1, 0] rfl)
  have K11 : ∀ (n : Nat) (z75877 : Int32) (z75878 : Int32) (F : Nat → va_E) (H : Heap) (locs : List Loc) (ls : Array Slot), (1908 - z75877.toInt < (n : Int)) → (0 ≤ z75877.toInt ∧ z75877.toInt ≤ 1908) → (10 ≤ z75878.toInt ∧ z75878.toInt ≤ 10) → TH G ttC A s tag L F H locs → ((∀ b j : Nat, (tag b ≠ 46 ∨ j ≠ 20) → fld F b j = fld Fo b j) ∧ (∀ b j : Nat, tag b ≠ 38 → elm F b j = elm Fo b j)) → (fld F p0 20 = .int z75878) → lv_has ls 2 [(0, .ref p0), (1, .int z75877)] → W p l e { frames := 0, cells := 0, slots := 0, locals := 0 } s m args below meth c H locs 0 0 Q (F0 m 11 ls []) := by
    intro n
    induction n with
    | zero =>
      intro z75877 z75878 F H locs ls hn rz75877 rz75878 hT hfr qz75878 hl
      exfalso
      omega
    | succ n ih11 =>
      intro z75877 z75878 F H locs ls hn rz75877 rz75878 hT hfr qz75878 hl
      refine lv_iload_n hx hb dX13_keeps_11 rfl (lv_at hl 1 rfl) ?_
      refine lv_sipush (v := 1908) hx hb dX13_keeps_12 (by decide) ?_
      refine lv_icmp_ge (tgt := 40) hx hb dX13_keeps_15 (by decide) (fun c75879 => ?_) (fun c75879 => ?_)
      · have w75880 := cv_le (by decide : (1908 : Int32).toInt = 1908) (rfl : z75877.toInt = z75877.toInt) c75879
        refine lv_aload_n hx hb dX13_keeps_40 rfl (lv_at hl 0 rfl) ?_
        refine lv_dup hx hb dX13_keeps_41 rfl ?_
        refine t_get (C := RX13) (T := TX13) (N := 37) X hT m0 g0 rfl rfl 20 (by decide) qw_482 inlX13 rfl dX13_keeps_42 (fun v75881 hv75881 ov75881 => ?_)
        obtain rfl : v75881 = .int z75878 := hv75881.symm.trans qz75878
        refine lv_iconst (v := 1) hx hb dX13_keeps_45 (by decide) ?_
        refine lv_isub hx hb dX13_keeps_46 ?_
        refine lv_topi (fun z75882 ez75882 => ?_)
        have hz75882 : z75882.toInt = z75878.toInt - 1 := ar_sub ez75882 (rfl : z75878.toInt = z75878.toInt) (by decide : (1 : Int32).toInt = 1) (by omega) (by omega)
        have rz75882 : 9 ≤ z75882.toInt ∧ z75882.toInt ≤ 9 := by omega
        refine t_put (C := RX13) (T := TX13) (N := 37) (v := .int z75882) X hT m0 g0 rfl tyX13 tyX13_ok nmX13 rfl 20 (by decide) qw_482 inlX13 rfl (by first | rfl | decide) (by first | rfl | decide) rfl (⟨_, rfl, (show 0 ≤ (z75882 : Int32).toInt from (by omega)), (show (z75882 : Int32).toInt ≤ 10 from (by omega))⟩) dX13_keeps_47 (fun F H locs hT v75883 h1v75883 h2v75883 => ?_)
        have hfr : (∀ b j : Nat, (tag b ≠ 46 ∨ j ≠ 20) → fld F b j = fld Fo b j) ∧ (∀ b j : Nat, tag b ≠ 38 → elm F b j = elm Fo b j) := ⟨fun b j n46_20 => (h1v75883 b j (fr_ne g0 n46_20)).trans (hfr.1 b j n46_20), fun b j a38 => (h2v75883 b j).trans (hfr.2 b j a38)⟩
        exact K50 z75882 _ _ _ _ (by omega) hT hfr v75883 (lv_sub hl [0] rfl)
      · have w75884 := cv_nle (by decide : (1908 : Int32).toInt = 1908) (rfl : z75877.toInt = z75877.toInt) c75879
        refine lv_aload_n hx hb dX13_keeps_18 rfl (lv_at hl 0 rfl) ?_
        refine t_get (C := RX13) (T := TX13) (N := 37) X hT m0 g0 rfl rfl 18 (by decide) qw_114 inlX13 rfl dX13_keeps_19 (fun v75885 hv75885 ov75885 => ?_)
        obtain ⟨b75886, rfl, mb75886, gb75886⟩ := okV_r ov75885
        have gb75886 : tag b75886 = 38 := tg_of gb75886
        refine lv_iload_n hx hb dX13_keeps_22 rfl (lv_at hl 1 rfl) ?_
        refine lv_aload_n hx hb dX13_keeps_23 rfl (lv_at hl 0 rfl) ?_
        refine t_get (C := RX13) (T := TX13) (N := 37) X hT m0 g0 rfl rfl 18 (by decide) qw_114 inlX13 rfl dX13_keeps_24 (fun v75887 hv75887 ov75887 => ?_)
        obtain rfl : v75887 = .ref b75886 := hv75887.symm.trans hv75885
        refine lv_iload_n hx hb dX13_keeps_27 rfl (lv_at hl 1 rfl) ?_
        refine lv_sipush (v := 212) hx hb dX13_keeps_28 (by decide) ?_
        refine lv_iadd hx hb dX13_keeps_31 ?_
        refine lv_topi (fun z75888 ez75888 => ?_)
        have hz75888 : z75888.toInt = z75877.toInt + 212 := ar_add ez75888 (rfl : z75877.toInt = z75877.toInt) (by decide : (212 : Int32).toInt = 212) (by omega) (by omega)
        have rz75888 : 212 ≤ z75888.toInt ∧ z75888.toInt ≤ 2119 := by omega
        refine t_ild X hT mb75886 gb75886 rfl (by omega) dX13_keeps_32 (fun z75889 vz75889 rz75889 => ?_)
        have oz75889 := rz75889
        have rz75889 := rg_all z75889
        refine t_ist X hT mb75886 gb75886 rfl (by omega) (row_c3 (by omega) (by omega) oz75889) dX13_keeps_33 (fun F H locs hT v75890 h1v75890 h2v75890 => ?_)
        have qz75878 := (h2v75890 _ _).trans qz75878
        have hv75885 := (h2v75890 _ _).trans hv75885
        have hfr : (∀ b j : Nat, (tag b ≠ 46 ∨ j ≠ 20) → fld F b j = fld Fo b j) ∧ (∀ b j : Nat, tag b ≠ 38 → elm F b j = elm Fo b j) := ⟨fun b j n46_20 => (h2v75890 b j).trans (hfr.1 b j n46_20), fun b j a38 => (h1v75890 b j (Or.inl (at_ne gb75886 a38))).trans (hfr.2 b j a38)⟩
        obtain ⟨z75891, ez75891⟩ : ∃ y : Int32, y = z75877 + 1 := ⟨_, rfl⟩
        have hz75891 : z75891.toInt = z75877.toInt + 1 := ar_add ez75891 rfl (by decide : (1 : Int32).toInt = 1) (by omega) (by omega)
        refine lv_iinc (v := z75891) (lv' := [(1, .int z75891), (0, .ref p0)]) hx hb dX13_keeps_34 hl (k := 1) rfl (by rw [ez75891]; rfl) (by decide) rfl (fun ls hl => ?_)
        refine lv_goto (tgt := 11) hx hb dX13_keeps_37 (by decide) ?_
        exact ih11 z75891 z75878 _ _ _ _ (by omega) (by omega) (by omega) hT hfr qz75878 (lv_sub hl [1, 0] rfl)
  refine lv_aload_n hx hb dX13_keeps_0 rfl (lv_at hl 0 rfl) ?_
  refine t_get (C := RX13) (T := TX13) (N := 37) X hT m0 g0 rfl rfl 20 (by decide) qw_482 inlX13 rfl dX13_keeps_1 (fun v75892 hv75892 ov75892 => ?_)
  obtain ⟨z75893, rfl, rz75893⟩ := okV_i ov75892
  refine lv_bipush (v := 10) hx hb dX13_keeps_4 (by decide) ?_
  refine lv_icmp_ne (tgt := 50) hx hb dX13_keeps_6 (by decide) (fun c75894 => ?_) (fun c75894 => ?_)
  · have w75895 := cv_ne (rfl : z75893.toInt = z75893.toInt) (by decide : (10 : Int32).toInt = 10) c75894
    exact K50 z75893 _ _ _ _ (by omega) hT hfr hv75892 (lv_sub hl [0] rfl)
  · have w75896 := cv_eq (rfl : z75893.toInt = z75893.toInt) (by decide : (10 : Int32).toInt = 10) c75894
    refine lv_iconst (v := 0) hx hb dX13_keeps_9 (by decide) ?_
    refine lv_istore_n (lv' := [(1, .int 0), (0, .ref p0)]) hx hb dX13_keeps_10 rfl hl (by decide) rfl (fun ls hl => ?_)
    have k75897 : (0 : Int32).toInt = 0 := by decide
    exact K11 1909 0 z75893 _ _ _ _ (by omega) (by decide) (by omega) hT hfr hv75892 (lv_sub hl [1, 0] rfl)
set_option maxHeartbeats 4000000 in
set_option maxRecDepth 100000 in
theorem km246_X13_years (l : Launch) (G : KG) (tag : Nat → Nat) (L : List Nat) (Fo : Nat → va_E) (ho : okT G ttC tag L Fo) (p0 : Nat) (p1 : Int32) (x0 : Nat) (m0 : p0 ∈ L) (g0 : tag p0 = 46) (mx0 : x0 ∈ L) (gx0 : tag x0 = 45) (pf0 : fld Fo p0 3 = .ref x0) : TMi l yX13_years cX13_years 3 (some .int) { frames := 7, cells := 0, slots := 0, locals := 170 } G ttC tag L Fo [.ref p0, .int p1] (fun r F1 => ((-2147483648) ≤ r.toInt ∧ r.toInt ≤ 2147483647) ∧ ((∀ b j : Nat, (tag b ≠ 46 ∨ j ≠ 0) → (tag b ≠ 46 ∨ j ≠ 1) → (tag b ≠ 46 ∨ j ≠ 2) → (tag b ≠ 46 ∨ j ≠ 20) → (tag b ≠ 46 ∨ j ≠ 22) → (tag b ≠ 46 ∨ j ≠ 23) → fld F1 b j = fld Fo b j) ∧ (∀ b j : Nat, tag b ≠ 37 → tag b ≠ 38 → tag b ≠ 40 → elm F1 b j = elm Fo b j))) := by
  refine t_bodyi (y := yX13_years) (cd := cX13_years) (mL := 3) (rt := (some .int)) (rm := { frames := 7, cells := 0, slots := 0, locals := 170 }) (av := [.ref p0, .int p1]) (by decide) (Nat.le_of_ble_eq_true rfl) ho ?_
  intro p e s m args below meth c ls A Q hQ X hT hl
  have hx := X.1.1
  have hb := X.1.2.1
  have hl : lv_has ls 3 [(0, .ref p0), (1, .int p1)] := hl
  have rp1 := rg_all p1
  obtain ⟨F, hFo⟩ : ∃ F : Nat → va_E, F = Fo := ⟨_, rfl⟩
  rw [← hFo] at hT pf0
  have hfr : (∀ b j : Nat, (tag b ≠ 46 ∨ j ≠ 0) → (tag b ≠ 46 ∨ j ≠ 1) → (tag b ≠ 46 ∨ j ≠ 2) → (tag b ≠ 46 ∨ j ≠ 20) → (tag b ≠ 46 ∨ j ≠ 22) → (tag b ≠ 46 ∨ j ≠ 23) → fld F b j = fld Fo b j) ∧ (∀ b j : Nat, tag b ≠ 37 → tag b ≠ 38 → tag b ≠ 40 → elm F b j = elm Fo b j) := by
    rw [hFo]
    exact ⟨by intros; rfl, by intros; rfl⟩
  have K66 : ∀ (n : Nat) (z76409 : Int32) (z76410 : Int32) (F : Nat → va_E) (H : Heap) (locs : List Loc) (ls : Array Slot), (20 - z76409.toInt < (n : Int)) → (0 ≤ z76409.toInt ∧ z76409.toInt ≤ 20) → (0 ≤ z76410.toInt ∧ z76410.toInt ≤ 0) → (1 ≤ p1.toInt ∧ p1.toInt ≤ 20) → TH G ttC A s tag L F H locs → ((∀ b j : Nat, (tag b ≠ 46 ∨ j ≠ 0) → (tag b ≠ 46 ∨ j ≠ 1) → (tag b ≠ 46 ∨ j ≠ 2) → (tag b ≠ 46 ∨ j ≠ 20) → (tag b ≠ 46 ∨ j ≠ 22) → (tag b ≠ 46 ∨ j ≠ 23) → fld F b j = fld Fo b j) ∧ (∀ b j : Nat, tag b ≠ 37 → tag b ≠ 38 → tag b ≠ 40 → elm F b j = elm Fo b j)) → (fld F p0 3 = .ref x0) → (fld F p0 0 = .int z76410) → lv_has ls 3 [(0, .ref p0), (1, .int p1), (2, .int z76409)] → W p l e { frames := 7, cells := 0, slots := 0, locals := 170 } s m args below meth c H locs 0 0 Q (F0 m 66 ls []) := by
    intro n
    induction n with
    | zero =>
      intro z76409 z76410 F H locs ls hn rz76409 rz76410 r9s76408 hT hfr pf0 qz76410 hl
      exfalso
      omega
    | succ n ih66 =>
      intro z76409 z76410 F H locs ls hn rz76409 rz76410 r9s76408 hT hfr pf0 qz76410 hl
      refine lv_iload_n hx hb dX13_years_66 rfl (lv_at hl 2 rfl) ?_
      refine lv_iload_n hx hb dX13_years_67 rfl (lv_at hl 1 rfl) ?_
      refine lv_icmp_ge (tgt := 85) hx hb dX13_years_68 (by decide) (fun c76411 => ?_) (fun c76411 => ?_)
      · have w76412 := cv_le (rfl : p1.toInt = p1.toInt) (rfl : z76409.toInt = z76409.toInt) c76411
        refine lv_aload_n hx hb dX13_years_85 rfl (lv_at hl 0 rfl) ?_
        refine lv_aload_n hx hb dX13_years_86 rfl (lv_at hl 0 rfl) ?_
        refine t_get (C := RX13) (T := TX13) (N := 37) X hT m0 g0 rfl rfl 16 (by decide) qw_112 inlX13 rfl dX13_years_87 (fun v76413 hv76413 ov76413 => ?_)
        obtain ⟨b76414, rfl, mb76414, gb76414⟩ := okV_r ov76413
        have gb76414 : tag b76414 = 37 := tg_of gb76414
        refine t_cSi (n := 1) (As := [.ref b76414]) (rest := [.ref p0]) X hT (km187_X13_allSkins l G tag L F hT.2.2.2 b76414 mb76414 gb76414) qw_1190 qw_1191 qw_5 qw_1192 ⟨by decide +kernel, by decide +kernel, by decide +kernel⟩ ⟨Nat.le_of_ble_eq_true rfl, Nat.le_of_ble_eq_true rfl⟩ hl rfl rfl (Nat.le_of_ble_eq_true rfl) dX13_years_90 ⟨Nat.le_of_ble_eq_true rfl, Nat.le_of_ble_eq_true rfl⟩ (fun z76415 F9 H locs hT hz76415 => ?_)
        obtain ⟨fz76415, hz76415⟩ := hz76415
        rw [fz76415] at hT
        refine t_cVi (n := 1) (C := RX13) (T := TX13) (N := 37) (As := [.int z76415]) (rest := []) X hT (km93_X13_good l G tag L F hT.2.2.2 p0 z76415 m0 g0) m0 g0 rfl rfl qw_687 qw_688 qw_689 qw_5 qw_690 ⟨rfl, by decide +kernel, by decide +kernel, by decide +kernel⟩ ⟨Nat.le_of_ble_eq_true rfl, Nat.le_of_ble_eq_true rfl⟩ hl rfl rfl (Nat.le_of_ble_eq_true rfl) dX13_years_93 ⟨Nat.le_of_ble_eq_true rfl, Nat.le_of_ble_eq_true rfl⟩ (fun z76416 F H locs hT hz76416 => ?_)
        obtain ⟨hz76416, yz76416⟩ := hz76416
        have qz76410 := (yz76416.1 _ 0 (Or.inr (by decide)) (Or.inr (by decide))).trans qz76410
        have pf0 := (yz76416.1 _ 3 (Or.inr (by decide)) (Or.inr (by decide))).trans pf0
        have hv76413 := (yz76416.1 _ 16 (Or.inr (by decide)) (Or.inr (by decide))).trans hv76413
        have hfr : (∀ b j : Nat, (tag b ≠ 46 ∨ j ≠ 0) → (tag b ≠ 46 ∨ j ≠ 1) → (tag b ≠ 46 ∨ j ≠ 2) → (tag b ≠ 46 ∨ j ≠ 20) → (tag b ≠ 46 ∨ j ≠ 22) → (tag b ≠ 46 ∨ j ≠ 23) → fld F b j = fld Fo b j) ∧ (∀ b j : Nat, tag b ≠ 37 → tag b ≠ 38 → tag b ≠ 40 → elm F b j = elm Fo b j) := ⟨fun b j n46_0 n46_1 n46_2 n46_20 n46_22 n46_23 => (yz76416.1 b j n46_1 n46_2).trans (hfr.1 b j n46_0 n46_1 n46_2 n46_20 n46_22 n46_23), fun b j a37 a38 a40 => (yz76416.2 b j ).trans (hfr.2 b j a37 a38 a40)⟩
        exact t_iret hQ X hT (⟨rg_all _, hfr⟩) (Nat.le_of_ble_eq_true rfl) (Nat.le_of_ble_eq_true rfl) dX13_years_96
      · have w76417 := cv_nle (rfl : p1.toInt = p1.toInt) (rfl : z76409.toInt = z76409.toInt) c76411
        refine lv_aload_n hx hb dX13_years_71 rfl (lv_at hl 0 rfl) ?_
        refine lv_aload_n hx hb dX13_years_72 rfl (lv_at hl 0 rfl) ?_
        refine t_get (C := RX13) (T := TX13) (N := 37) X hT m0 g0 rfl rfl 16 (by decide) qw_112 inlX13 rfl dX13_years_73 (fun v76418 hv76418 ov76418 => ?_)
        obtain ⟨b76419, rfl, mb76419, gb76419⟩ := okV_r ov76418
        have gb76419 : tag b76419 = 37 := tg_of gb76419
        refine t_cVv (n := 1) (C := RX13) (T := TX13) (N := 37) (As := [.ref b76419]) (rest := []) X hT (km181_X13_goesBy l G tag L F hT.2.2.2 p0 b76419 x0 m0 g0 mb76419 gb76419 mx0 gx0 pf0) m0 g0 rfl rfl qw_1160 qw_1161 qw_1162 qw_5 qw_1163 ⟨rfl, by decide +kernel, by decide +kernel, by decide +kernel⟩ ⟨Nat.le_of_ble_eq_true rfl, Nat.le_of_ble_eq_true rfl⟩ hl rfl rfl (Nat.le_of_ble_eq_true rfl) dX13_years_76 ⟨Nat.le_of_ble_eq_true rfl, Nat.le_of_ble_eq_true rfl⟩ (fun F H locs hT hz76420 => ?_)
        have yz76420 := hz76420
        have qz76410 := (yz76420.1 _ 0 (Or.inr (by decide)) (Or.inr (by decide))).trans qz76410
        have pf0 := (yz76420.1 _ 3 (Or.inr (by decide)) (Or.inr (by decide))).trans pf0
        have hv76418 := (yz76420.1 _ 16 (Or.inr (by decide)) (Or.inr (by decide))).trans hv76418
        have hfr : (∀ b j : Nat, (tag b ≠ 46 ∨ j ≠ 0) → (tag b ≠ 46 ∨ j ≠ 1) → (tag b ≠ 46 ∨ j ≠ 2) → (tag b ≠ 46 ∨ j ≠ 20) → (tag b ≠ 46 ∨ j ≠ 22) → (tag b ≠ 46 ∨ j ≠ 23) → fld F b j = fld Fo b j) ∧ (∀ b j : Nat, tag b ≠ 37 → tag b ≠ 38 → tag b ≠ 40 → elm F b j = elm Fo b j) := ⟨fun b j n46_0 n46_1 n46_2 n46_20 n46_22 n46_23 => (yz76420.1 b j n46_22 n46_23).trans (hfr.1 b j n46_0 n46_1 n46_2 n46_20 n46_22 n46_23), fun b j a37 a38 a40 => (yz76420.2 b j a37).trans (hfr.2 b j a37 a38 a40)⟩
        obtain ⟨z76421, ez76421⟩ : ∃ y : Int32, y = z76409 + 1 := ⟨_, rfl⟩
        have hz76421 : z76421.toInt = z76409.toInt + 1 := ar_add ez76421 rfl (by decide : (1 : Int32).toInt = 1) (by omega) (by omega)
        refine lv_iinc (v := z76421) (lv' := [(2, .int z76421), (0, .ref p0), (1, .int p1)]) hx hb dX13_years_79 hl (k := 2) rfl (by rw [ez76421]; rfl) (by decide) rfl (fun ls hl => ?_)
        refine lv_goto (tgt := 66) hx hb dX13_years_82 (by decide) ?_
        exact ih66 z76421 z76410 _ _ _ _ (by omega) (by omega) (by omega) (by omega) hT hfr pf0 qz76410 (lv_sub hl [1, 2, 0] rfl)
  refine lv_aload_n hx hb dX13_years_0 rfl (lv_at hl 0 rfl) ?_
  refine lv_iconst (v := 0) hx hb dX13_years_1 (by decide) ?_
  refine t_put (C := RX13) (T := TX13) (N := 37) (v := .int 0) X hT m0 g0 rfl tyX13 tyX13_ok nmX13 rfl 0 (by decide) qw_140 inlX13 rfl (by first | rfl | decide) (by first | rfl | decide) rfl (⟨_, rfl, (show (-2147483648) ≤ (0 : Int32).toInt from (by decide)), (show (0 : Int32).toInt ≤ 2147483647 from (by decide))⟩) dX13_years_2 (fun F H locs hT v76422 h1v76422 h2v76422 => ?_)
  have pf0 := (h1v76422 _ _ (Or.inr (by decide))).trans pf0
  have hfr : (∀ b j : Nat, (tag b ≠ 46 ∨ j ≠ 0) → (tag b ≠ 46 ∨ j ≠ 1) → (tag b ≠ 46 ∨ j ≠ 2) → (tag b ≠ 46 ∨ j ≠ 20) → (tag b ≠ 46 ∨ j ≠ 22) → (tag b ≠ 46 ∨ j ≠ 23) → fld F b j = fld Fo b j) ∧ (∀ b j : Nat, tag b ≠ 37 → tag b ≠ 38 → tag b ≠ 40 → elm F b j = elm Fo b j) := ⟨fun b j n46_0 n46_1 n46_2 n46_20 n46_22 n46_23 => (h1v76422 b j (fr_ne g0 n46_0)).trans (hfr.1 b j n46_0 n46_1 n46_2 n46_20 n46_22 n46_23), fun b j a37 a38 a40 => (h2v76422 b j).trans (hfr.2 b j a37 a38 a40)⟩
  refine lv_aload_n hx hb dX13_years_5 rfl (lv_at hl 0 rfl) ?_
  refine t_get (C := RX13) (T := TX13) (N := 37) X hT m0 g0 rfl rfl 3 (by decide) qw_481 inlX13 rfl dX13_years_6 (fun v76423 hv76423 ov76423 => ?_)
  obtain rfl : v76423 = .ref x0 := hv76423.symm.trans pf0
  refine lv_ifnonnull (tgt := 18) hx hb dX13_years_9 (by decide) ?_
  refine lv_iload_n hx hb dX13_years_18 rfl (lv_at hl 1 rfl) ?_
  refine lv_iconst (v := 1) hx hb dX13_years_19 (by decide) ?_
  refine lv_bipush (v := 20) hx hb dX13_years_20 (by decide) ?_
  refine t_cSi (n := 3) (As := [.int p1, .int 1, .int 20]) (rest := []) X hT (km19_X13_within l G tag L F hT.2.2.2 p1 1 20 ) qw_568 qw_569 qw_5 qw_570 ⟨by decide +kernel, by decide +kernel, by decide +kernel⟩ ⟨Nat.le_of_ble_eq_true rfl, Nat.le_of_ble_eq_true rfl⟩ hl rfl rfl (Nat.le_of_ble_eq_true rfl) dX13_years_22 ⟨Nat.le_of_ble_eq_true rfl, Nat.le_of_ble_eq_true rfl⟩ (fun z76424 F9 H locs hT hz76424 => ?_)
  obtain ⟨fz76424, hz76424, xz76424_0⟩ := hz76424
  rw [fz76424] at hT
  have k76425 : (1 : Int32).toInt = 1 := by decide
  have k76426 : (20 : Int32).toInt = 20 := by decide
  refine lv_if_ne (tgt := 34) hx hb dX13_years_25 (by decide) (fun c76427 => ?_) (fun c76427 => ?_)
  · have w76428 := cv_ne (rfl : z76424.toInt = z76424.toInt) (by decide : (0 : Int32).toInt = 0) c76427
    have w76429 := xz76424_0 (by omega)
    refine lv_aload_n hx hb dX13_years_34 rfl (lv_at hl 0 rfl) ?_
    refine t_get (C := RX13) (T := TX13) (N := 37) X hT m0 g0 rfl rfl 16 (by decide) qw_112 inlX13 rfl dX13_years_35 (fun v76430 hv76430 ov76430 => ?_)
    obtain ⟨b76431, rfl, mb76431, gb76431⟩ := okV_r ov76430
    have gb76431 : tag b76431 = 37 := tg_of gb76431
    refine lv_sipush (v := 210) hx hb dX13_years_38 (by decide) ?_
    refine t_ild X hT mb76431 gb76431 rfl (by decide) dX13_years_41 (fun z76432 vz76432 rz76432 => ?_)
    have oz76432 := rz76432
    have rz76432 := rg_all z76432
    refine lv_iload_n hx hb dX13_years_42 rfl (lv_at hl 1 rfl) ?_
    refine lv_iadd hx hb dX13_years_43 ?_
    refine lv_topi (fun z76433 ez76433 => ?_)
    have rz76433 := rg_all z76433
    refine lv_sipush (v := 999) hx hb dX13_years_44 (by decide) ?_
    refine lv_icmp_le (tgt := 56) hx hb dX13_years_47 (by decide) (fun c76434 => ?_) (fun c76434 => ?_)
    · have w76435 := cv_le (rfl : z76433.toInt = z76433.toInt) (by decide : (999 : Int32).toInt = 999) c76434
      refine lv_aload_n hx hb dX13_years_56 rfl (lv_at hl 0 rfl) ?_
      refine t_cVv (n := 0) (C := RX13) (T := TX13) (N := 37) (As := []) (rest := []) X hT (km245_X13_keeps l G tag L F hT.2.2.2 p0 m0 g0) m0 g0 rfl rfl qw_1437 qw_1438 qw_1439 qw_5 qw_1440 ⟨rfl, by decide +kernel, by decide +kernel, by decide +kernel⟩ ⟨Nat.le_of_ble_eq_true rfl, Nat.le_of_ble_eq_true rfl⟩ hl rfl rfl (Nat.le_of_ble_eq_true rfl) dX13_years_57 ⟨Nat.le_of_ble_eq_true rfl, Nat.le_of_ble_eq_true rfl⟩ (fun F H locs hT hz76436 => ?_)
      have yz76436 := hz76436
      have pf0 := (yz76436.1 _ 3 (Or.inr (by decide))).trans pf0
      have v76422 := (yz76436.1 _ 0 (Or.inr (by decide))).trans v76422
      have hv76430 := (yz76436.1 _ 16 (Or.inr (by decide))).trans hv76430
      have vz76432 := (yz76436.2 _ _ (by rw [gb76431]; decide)).trans vz76432
      have hfr : (∀ b j : Nat, (tag b ≠ 46 ∨ j ≠ 0) → (tag b ≠ 46 ∨ j ≠ 1) → (tag b ≠ 46 ∨ j ≠ 2) → (tag b ≠ 46 ∨ j ≠ 20) → (tag b ≠ 46 ∨ j ≠ 22) → (tag b ≠ 46 ∨ j ≠ 23) → fld F b j = fld Fo b j) ∧ (∀ b j : Nat, tag b ≠ 37 → tag b ≠ 38 → tag b ≠ 40 → elm F b j = elm Fo b j) := ⟨fun b j n46_0 n46_1 n46_2 n46_20 n46_22 n46_23 => (yz76436.1 b j n46_20).trans (hfr.1 b j n46_0 n46_1 n46_2 n46_20 n46_22 n46_23), fun b j a37 a38 a40 => (yz76436.2 b j a38).trans (hfr.2 b j a37 a38 a40)⟩
      refine lv_aload_n hx hb dX13_years_60 rfl (lv_at hl 0 rfl) ?_
      obtain ⟨z76437, qz76437, mz76437, gz76437⟩ := t_fldr hT m0 g0 rfl 24 rfl
      have gz76437 : tag z76437 = 40 := tg_of gz76437
      refine t_cVv (n := 0) (C := RX13) (T := TX13) (N := 37) (As := []) (rest := []) X hT (km177_X13_byNumbers l G tag L F hT.2.2.2 p0 z76437 m0 g0 mz76437 gz76437 qz76437) m0 g0 rfl rfl qw_1156 qw_1157 qw_1158 qw_5 qw_1159 ⟨rfl, by decide +kernel, by decide +kernel, by decide +kernel⟩ ⟨Nat.le_of_ble_eq_true rfl, Nat.le_of_ble_eq_true rfl⟩ hl rfl rfl (Nat.le_of_ble_eq_true rfl) dX13_years_61 ⟨Nat.le_of_ble_eq_true rfl, Nat.le_of_ble_eq_true rfl⟩ (fun F H locs hT hz76438 => ?_)
      obtain ⟨yz76438, xz76438_0⟩ := hz76438
      have pf0 := (yz76438.1 _ 3 ).trans pf0
      have v76422 := (yz76438.1 _ 0 ).trans v76422
      have hv76430 := (yz76438.1 _ 16 ).trans hv76430
      have vz76432 := (yz76438.2 _ _ (by rw [gb76431]; decide)).trans vz76432
      have qz76437 := (yz76438.1 _ 24 ).trans qz76437
      have hfr : (∀ b j : Nat, (tag b ≠ 46 ∨ j ≠ 0) → (tag b ≠ 46 ∨ j ≠ 1) → (tag b ≠ 46 ∨ j ≠ 2) → (tag b ≠ 46 ∨ j ≠ 20) → (tag b ≠ 46 ∨ j ≠ 22) → (tag b ≠ 46 ∨ j ≠ 23) → fld F b j = fld Fo b j) ∧ (∀ b j : Nat, tag b ≠ 37 → tag b ≠ 38 → tag b ≠ 40 → elm F b j = elm Fo b j) := ⟨fun b j n46_0 n46_1 n46_2 n46_20 n46_22 n46_23 => (yz76438.1 b j ).trans (hfr.1 b j n46_0 n46_1 n46_2 n46_20 n46_22 n46_23), fun b j a37 a38 a40 => (yz76438.2 b j a40).trans (hfr.2 b j a37 a38 a40)⟩
      refine lv_iconst (v := 0) hx hb dX13_years_64 (by decide) ?_
      refine lv_istore_n (lv' := [(2, .int 0), (0, .ref p0), (1, .int p1)]) hx hb dX13_years_65 rfl hl (by decide) rfl (fun ls hl => ?_)
      have k76439 : (0 : Int32).toInt = 0 := by decide
      have k76440 : (0 : Int32).toInt = 0 := by decide
      exact K66 21 0 0 _ _ _ _ (by omega) (by decide) (by decide) (by omega) hT hfr pf0 v76422 (lv_sub hl [1, 2, 0] rfl)
    · have w76441 := cv_nle (rfl : z76433.toInt = z76433.toInt) (by decide : (999 : Int32).toInt = 999) c76434
      refine lv_aload_n hx hb dX13_years_50 rfl (lv_at hl 0 rfl) ?_
      refine lv_iconst (v := 3) hx hb dX13_years_51 (by decide) ?_
      refine t_cVi (n := 1) (C := RX13) (T := TX13) (N := 37) (As := [.int 3]) (rest := []) X hT (km88_X13_refused l G tag L F hT.2.2.2 p0 3 m0 g0) m0 g0 rfl rfl qw_484 qw_485 qw_486 qw_5 qw_487 ⟨rfl, by decide +kernel, by decide +kernel, by decide +kernel⟩ ⟨Nat.le_of_ble_eq_true rfl, Nat.le_of_ble_eq_true rfl⟩ hl rfl rfl (Nat.le_of_ble_eq_true rfl) dX13_years_52 ⟨Nat.le_of_ble_eq_true rfl, Nat.le_of_ble_eq_true rfl⟩ (fun z76442 F H locs hT hz76442 => ?_)
      obtain ⟨hz76442, yz76442⟩ := hz76442
      have pf0 := (yz76442.1 _ 3 (Or.inr (by decide)) (Or.inr (by decide))).trans pf0
      have v76422 := (yz76442.1 _ 0 (Or.inr (by decide)) (Or.inr (by decide))).trans v76422
      have hv76430 := (yz76442.1 _ 16 (Or.inr (by decide)) (Or.inr (by decide))).trans hv76430
      have vz76432 := (yz76442.2 _ _ ).trans vz76432
      have hfr : (∀ b j : Nat, (tag b ≠ 46 ∨ j ≠ 0) → (tag b ≠ 46 ∨ j ≠ 1) → (tag b ≠ 46 ∨ j ≠ 2) → (tag b ≠ 46 ∨ j ≠ 20) → (tag b ≠ 46 ∨ j ≠ 22) → (tag b ≠ 46 ∨ j ≠ 23) → fld F b j = fld Fo b j) ∧ (∀ b j : Nat, tag b ≠ 37 → tag b ≠ 38 → tag b ≠ 40 → elm F b j = elm Fo b j) := ⟨fun b j n46_0 n46_1 n46_2 n46_20 n46_22 n46_23 => (yz76442.1 b j n46_1 n46_2).trans (hfr.1 b j n46_0 n46_1 n46_2 n46_20 n46_22 n46_23), fun b j a37 a38 a40 => (yz76442.2 b j ).trans (hfr.2 b j a37 a38 a40)⟩
      exact t_iret hQ X hT (⟨rg_all _, hfr⟩) (Nat.le_of_ble_eq_true rfl) (Nat.le_of_ble_eq_true rfl) dX13_years_55
  · have w76443 := cv_eq (rfl : z76424.toInt = z76424.toInt) (by decide : (0 : Int32).toInt = 0) c76427
    refine lv_aload_n hx hb dX13_years_28 rfl (lv_at hl 0 rfl) ?_
    refine lv_iconst (v := 2) hx hb dX13_years_29 (by decide) ?_
    refine t_cVi (n := 1) (C := RX13) (T := TX13) (N := 37) (As := [.int 2]) (rest := []) X hT (km88_X13_refused l G tag L F hT.2.2.2 p0 2 m0 g0) m0 g0 rfl rfl qw_484 qw_485 qw_486 qw_5 qw_487 ⟨rfl, by decide +kernel, by decide +kernel, by decide +kernel⟩ ⟨Nat.le_of_ble_eq_true rfl, Nat.le_of_ble_eq_true rfl⟩ hl rfl rfl (Nat.le_of_ble_eq_true rfl) dX13_years_30 ⟨Nat.le_of_ble_eq_true rfl, Nat.le_of_ble_eq_true rfl⟩ (fun z76444 F H locs hT hz76444 => ?_)
    obtain ⟨hz76444, yz76444⟩ := hz76444
    have pf0 := (yz76444.1 _ 3 (Or.inr (by decide)) (Or.inr (by decide))).trans pf0
    have v76422 := (yz76444.1 _ 0 (Or.inr (by decide)) (Or.inr (by decide))).trans v76422
    have hfr : (∀ b j : Nat, (tag b ≠ 46 ∨ j ≠ 0) → (tag b ≠ 46 ∨ j ≠ 1) → (tag b ≠ 46 ∨ j ≠ 2) → (tag b ≠ 46 ∨ j ≠ 20) → (tag b ≠ 46 ∨ j ≠ 22) → (tag b ≠ 46 ∨ j ≠ 23) → fld F b j = fld Fo b j) ∧ (∀ b j : Nat, tag b ≠ 37 → tag b ≠ 38 → tag b ≠ 40 → elm F b j = elm Fo b j) := ⟨fun b j n46_0 n46_1 n46_2 n46_20 n46_22 n46_23 => (yz76444.1 b j n46_1 n46_2).trans (hfr.1 b j n46_0 n46_1 n46_2 n46_20 n46_22 n46_23), fun b j a37 a38 a40 => (yz76444.2 b j ).trans (hfr.2 b j a37 a38 a40)⟩
    exact t_iret hQ X hT (⟨rg_all _, hfr⟩) (Nat.le_of_ble_eq_true rfl) (Nat.le_of_ble_eq_true rfl) dX13_years_33
set_option maxHeartbeats 4000000 in
set_option maxRecDepth 100000 in
theorem km247_X13_years (l : Launch) (G : KG) (tag : Nat → Nat) (L : List Nat) (Fo : Nat → va_E) (ho : okT G ttC tag L Fo) (p0 : Nat) (p1 : Int32) (m0 : p0 ∈ L) (g0 : tag p0 = 46) (pf0 : fld Fo p0 3 = .null) : TMi l yX13_years cX13_years 3 (some .int) { frames := 7, cells := 0, slots := 0, locals := 170 } G ttC tag L Fo [.ref p0, .int p1] (fun r F1 => ((-2147483648) ≤ r.toInt ∧ r.toInt ≤ 2147483647) ∧ ((∀ b j : Nat, (tag b ≠ 46 ∨ j ≠ 0) → (tag b ≠ 46 ∨ j ≠ 1) → (tag b ≠ 46 ∨ j ≠ 2) → (tag b ≠ 46 ∨ j ≠ 20) → (tag b ≠ 46 ∨ j ≠ 22) → (tag b ≠ 46 ∨ j ≠ 23) → fld F1 b j = fld Fo b j) ∧ (∀ b j : Nat, tag b ≠ 37 → tag b ≠ 38 → tag b ≠ 40 → elm F1 b j = elm Fo b j))) := by
  refine t_bodyi (y := yX13_years) (cd := cX13_years) (mL := 3) (rt := (some .int)) (rm := { frames := 7, cells := 0, slots := 0, locals := 170 }) (av := [.ref p0, .int p1]) (by decide) (Nat.le_of_ble_eq_true rfl) ho ?_
  intro p e s m args below meth c ls A Q hQ X hT hl
  have hx := X.1.1
  have hb := X.1.2.1
  have hl : lv_has ls 3 [(0, .ref p0), (1, .int p1)] := hl
  have rp1 := rg_all p1
  obtain ⟨F, hFo⟩ : ∃ F : Nat → va_E, F = Fo := ⟨_, rfl⟩
  rw [← hFo] at hT pf0
  have hfr : (∀ b j : Nat, (tag b ≠ 46 ∨ j ≠ 0) → (tag b ≠ 46 ∨ j ≠ 1) → (tag b ≠ 46 ∨ j ≠ 2) → (tag b ≠ 46 ∨ j ≠ 20) → (tag b ≠ 46 ∨ j ≠ 22) → (tag b ≠ 46 ∨ j ≠ 23) → fld F b j = fld Fo b j) ∧ (∀ b j : Nat, tag b ≠ 37 → tag b ≠ 38 → tag b ≠ 40 → elm F b j = elm Fo b j) := by
    rw [hFo]
    exact ⟨by intros; rfl, by intros; rfl⟩
  refine lv_aload_n hx hb dX13_years_0 rfl (lv_at hl 0 rfl) ?_
  refine lv_iconst (v := 0) hx hb dX13_years_1 (by decide) ?_
  refine t_put (C := RX13) (T := TX13) (N := 37) (v := .int 0) X hT m0 g0 rfl tyX13 tyX13_ok nmX13 rfl 0 (by decide) qw_140 inlX13 rfl (by first | rfl | decide) (by first | rfl | decide) rfl (⟨_, rfl, (show (-2147483648) ≤ (0 : Int32).toInt from (by decide)), (show (0 : Int32).toInt ≤ 2147483647 from (by decide))⟩) dX13_years_2 (fun F H locs hT v76478 h1v76478 h2v76478 => ?_)
  have pf0 := (h1v76478 _ _ (Or.inr (by decide))).trans pf0
  have hfr : (∀ b j : Nat, (tag b ≠ 46 ∨ j ≠ 0) → (tag b ≠ 46 ∨ j ≠ 1) → (tag b ≠ 46 ∨ j ≠ 2) → (tag b ≠ 46 ∨ j ≠ 20) → (tag b ≠ 46 ∨ j ≠ 22) → (tag b ≠ 46 ∨ j ≠ 23) → fld F b j = fld Fo b j) ∧ (∀ b j : Nat, tag b ≠ 37 → tag b ≠ 38 → tag b ≠ 40 → elm F b j = elm Fo b j) := ⟨fun b j n46_0 n46_1 n46_2 n46_20 n46_22 n46_23 => (h1v76478 b j (fr_ne g0 n46_0)).trans (hfr.1 b j n46_0 n46_1 n46_2 n46_20 n46_22 n46_23), fun b j a37 a38 a40 => (h2v76478 b j).trans (hfr.2 b j a37 a38 a40)⟩
  refine lv_aload_n hx hb dX13_years_5 rfl (lv_at hl 0 rfl) ?_
  refine t_get (C := RX13) (T := TX13) (N := 37) X hT m0 g0 rfl rfl 3 (by decide) qw_481 inlX13 rfl dX13_years_6 (fun v76479 hv76479 ov76479 => ?_)
  obtain rfl : v76479 = .null := hv76479.symm.trans pf0
  refine lv_ifnonnullN hx hb dX13_years_9 ?_
  refine lv_aload_n hx hb dX13_years_12 rfl (lv_at hl 0 rfl) ?_
  refine lv_iconst (v := 1) hx hb dX13_years_13 (by decide) ?_
  refine t_cVi (n := 1) (C := RX13) (T := TX13) (N := 37) (As := [.int 1]) (rest := []) X hT (km88_X13_refused l G tag L F hT.2.2.2 p0 1 m0 g0) m0 g0 rfl rfl qw_484 qw_485 qw_486 qw_5 qw_487 ⟨rfl, by decide +kernel, by decide +kernel, by decide +kernel⟩ ⟨Nat.le_of_ble_eq_true rfl, Nat.le_of_ble_eq_true rfl⟩ hl rfl rfl (Nat.le_of_ble_eq_true rfl) dX13_years_14 ⟨Nat.le_of_ble_eq_true rfl, Nat.le_of_ble_eq_true rfl⟩ (fun z76480 F H locs hT hz76480 => ?_)
  obtain ⟨hz76480, yz76480⟩ := hz76480
  have pf0 := (yz76480.1 _ 3 (Or.inr (by decide)) (Or.inr (by decide))).trans pf0
  have v76478 := (yz76480.1 _ 0 (Or.inr (by decide)) (Or.inr (by decide))).trans v76478
  have hfr : (∀ b j : Nat, (tag b ≠ 46 ∨ j ≠ 0) → (tag b ≠ 46 ∨ j ≠ 1) → (tag b ≠ 46 ∨ j ≠ 2) → (tag b ≠ 46 ∨ j ≠ 20) → (tag b ≠ 46 ∨ j ≠ 22) → (tag b ≠ 46 ∨ j ≠ 23) → fld F b j = fld Fo b j) ∧ (∀ b j : Nat, tag b ≠ 37 → tag b ≠ 38 → tag b ≠ 40 → elm F b j = elm Fo b j) := ⟨fun b j n46_0 n46_1 n46_2 n46_20 n46_22 n46_23 => (yz76480.1 b j n46_1 n46_2).trans (hfr.1 b j n46_0 n46_1 n46_2 n46_20 n46_22 n46_23), fun b j a37 a38 a40 => (yz76480.2 b j ).trans (hfr.2 b j a37 a38 a40)⟩
  exact t_iret hQ X hT (⟨rg_all _, hfr⟩) (Nat.le_of_ble_eq_true rfl) (Nat.le_of_ble_eq_true rfl) dX13_years_17
